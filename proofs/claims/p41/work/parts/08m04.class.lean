set_option maxHeartbeats 4000000 in
set_option maxRecDepth 100000 in
theorem d_Th_learnTried (l : Launch) (G : va_G) (cA : zCA) (o : Nat) (h : Nat) (o_held : Int32) (o_places : Int32) (o_row : Nat) (o_parts : Nat) (o_weights : Nat) (h_features : Int32) (h_featureNames : Nat) (h_steps : Nat) (h_turnedFeatures : Nat) (h_sixteenths : Nat) (h_keys : Int32) (h_keySteps : Nat) (h_lent : Int32) (h_rings : Int32) (h_on : Nat) (h_onMany : Nat) (h_doors : Int32) (h_wanted : Nat) (h_openers : Nat) (h_seconds : Nat) (h_turned : Int32) (h_roundMany : Int32) (h_roundDoors : Nat) (c_h_openers : Nat → Int32) (c_o_row : Nat → Int32) (c_o_parts : Nat → Int64) (c_o_weights : Nat → Int64) (k : Int32) (j : Int32) (hm_h_features : 0 ≤ h_features.toInt ∧ h_features.toInt ≤ 3) : zCi l yX9_learnTried cX9_learnTried 5 (some .boolean) ({ frames := 3, cells := 0, slots := 0, locals := 68 }) G cA [.ref o, .int k, .int j] [(o, .inr (9, [.ref h, .int o_held, .int o_places, .ref o_row, .ref o_parts, .ref o_weights])), (h, .inr (2, [.int h_features, .ref h_featureNames, .ref h_steps, .ref h_turnedFeatures, .ref h_sixteenths, .int h_keys, .ref h_keySteps, .int h_lent, .int h_rings, .ref h_on, .ref h_onMany, .int h_doors, .ref h_wanted, .ref h_openers, .ref h_seconds, .int h_turned, .int h_roundMany, .ref h_roundDoors])), (h_openers, .inl (cA.1 0, 5, .inl c_h_openers)), (o_row, .inl (cA.1 0, 10, .inl c_o_row)), (o_parts, .inl (cA.1 1, 20, .inr (.inl c_o_parts))), (o_weights, .inl (cA.1 1, 20, .inr (.inl c_o_weights)))] (S := (Nat → Int64) × (Nat → Int64)) (fun (r : Int32) (u : (Nat → Int64) × (Nat → Int64)) => r = 0 ∨ r = 1) (fun (u : (Nat → Int64) × (Nat → Int64)) => [(o, .inr (9, [.ref h, .int o_held, .int o_places, .ref o_row, .ref o_parts, .ref o_weights])), (h, .inr (2, [.int h_features, .ref h_featureNames, .ref h_steps, .ref h_turnedFeatures, .ref h_sixteenths, .int h_keys, .ref h_keySteps, .int h_lent, .int h_rings, .ref h_on, .ref h_onMany, .int h_doors, .ref h_wanted, .ref h_openers, .ref h_seconds, .int h_turned, .int h_roundMany, .ref h_roundDoors])), (h_openers, .inl (cA.1 0, 5, .inl c_h_openers)), (o_row, .inl (cA.1 0, 10, .inl c_o_row)), (o_parts, .inl (cA.1 1, 20, .inr (.inl u.1))), (o_weights, .inl (cA.1 1, 20, .inr (.inl u.2)))]) 0 0 := by
  refine z_start2z (own := RX9) (by decide) (Nat.le_of_ble_eq_true rfl) rfl ?_
  intro p e s m args below meth c A ls Q hx hb hml hts hown hK hE hT hP hD hS hA hl hret
  have hl : lv_has ls 5 [(0, .ref o), (1, .int k), (2, .int j)] := hl
  refine lv_aload_n hx hb dX9_learnTried_0 rfl (lv_at hl 0 rfl) ?_
  refine z_callVi (As := []) (rest := []) (wr := [(h, .inr (2, [.int h_features, .ref h_featureNames, .ref h_steps, .ref h_turnedFeatures, .ref h_sixteenths, .int h_keys, .ref h_keySteps, .int h_lent, .int h_rings, .ref h_on, .ref h_onMany, .int h_doors, .ref h_wanted, .ref h_openers, .ref h_seconds, .int h_turned, .int h_roundMany, .ref h_roundDoors])), (h_openers, .inl (cA.1 0, 5, .inl c_h_openers)), (o_row, .inl (cA.1 0, 10, .inl c_o_row)), (o_parts, .inl (cA.1 1, 20, .inr (.inl c_o_parts))), (o_weights, .inl (cA.1 1, 20, .inr (.inl c_o_weights)))]) ⟨hx, hb, hml, hown, hts⟩ hK hE hT hP hD hS hA (d_Th_placesAndWays l G cA o h o_held o_places o_row o_parts o_weights) lk_RX9_69 ⟨rfl, rfl⟩ ⟨Nat.le_of_ble_eq_true rfl, Nat.le_of_ble_eq_true rfl⟩ 9 rfl rfl rfl [0] [1, 2, 3, 4, 5] rfl rfl (by decide) rfl hl.1 rfl (lv_room (Nat.le_of_ble_eq_true rfl)) dX9_learnTried_1 ⟨Nat.le_of_ble_eq_true rfl, Nat.le_of_ble_eq_true rfl⟩ (fun r_1 u_2 H locs hw hP hD hS => ?_)
  have hP : va_P G vwCl [(h, .inr (2, [.int h_features, .ref h_featureNames, .ref h_steps, .ref h_turnedFeatures, .ref h_sixteenths, .int h_keys, .ref h_keySteps, .int h_lent, .int h_rings, .ref h_on, .ref h_onMany, .int h_doors, .ref h_wanted, .ref h_openers, .ref h_seconds, .int h_turned, .int h_roundMany, .ref h_roundDoors])), (h_openers, .inl (cA.1 0, 5, .inl c_h_openers)), (o_row, .inl (cA.1 0, 10, .inl c_o_row)), (o_parts, .inl (cA.1 1, 20, .inr (.inl c_o_parts))), (o_weights, .inl (cA.1 1, 20, .inr (.inl c_o_weights))), (o, .inr (9, [.ref h, .int o_held, .int o_places, .ref o_row, .ref o_parts, .ref o_weights]))] H := hP
  have hD : va_D A [(h, .inr (2, [.int h_features, .ref h_featureNames, .ref h_steps, .ref h_turnedFeatures, .ref h_sixteenths, .int h_keys, .ref h_keySteps, .int h_lent, .int h_rings, .ref h_on, .ref h_onMany, .int h_doors, .ref h_wanted, .ref h_openers, .ref h_seconds, .int h_turned, .int h_roundMany, .ref h_roundDoors])), (h_openers, .inl (cA.1 0, 5, .inl c_h_openers)), (o_row, .inl (cA.1 0, 10, .inl c_o_row)), (o_parts, .inl (cA.1 1, 20, .inr (.inl c_o_parts))), (o_weights, .inl (cA.1 1, 20, .inr (.inl c_o_weights))), (o, .inr (9, [.ref h, .int o_held, .int o_places, .ref o_row, .ref o_parts, .ref o_weights]))] := hD
  have hx_r_1 := hw
  refine lv_istore_n (lv' := [(3, .int r_1), (0, .ref o), (1, .int k), (2, .int j)]) hx hb dX9_learnTried_4 rfl hl (by decide) rfl (fun ls hl => ?_)
  refine lv_iconst (v := 0) hx hb dX9_learnTried_5 (by decide) ?_
  refine lv_istore (lv' := [(4, .int 0), (3, .int r_1), (0, .ref o), (1, .int k), (2, .int j)]) hx hb dX9_learnTried_6 hl (by decide) rfl (fun ls hl => ?_)
  have hlp_32 : ∀ (n : Nat) (v_30 : Int32) (g_31 : Nat → Int64) (H : Heap) (locs : List Loc) (ls : Array Slot), (2147483647 - v_30.toInt).toNat < n → (0 ≤ v_30.toInt) → va_P G vwCl [(h, .inr (2, [.int h_features, .ref h_featureNames, .ref h_steps, .ref h_turnedFeatures, .ref h_sixteenths, .int h_keys, .ref h_keySteps, .int h_lent, .int h_rings, .ref h_on, .ref h_onMany, .int h_doors, .ref h_wanted, .ref h_openers, .ref h_seconds, .int h_turned, .int h_roundMany, .ref h_roundDoors])), (h_openers, .inl (cA.1 0, 5, .inl c_h_openers)), (o_row, .inl (cA.1 0, 10, .inl c_o_row)), (o_parts, .inl (cA.1 1, 20, .inr (.inl c_o_parts))), (o_weights, .inl (cA.1 1, 20, .inr (.inl g_31))), (o, .inr (9, [.ref h, .int o_held, .int o_places, .ref o_row, .ref o_parts, .ref o_weights]))] H → va_D A [(h, .inr (2, [.int h_features, .ref h_featureNames, .ref h_steps, .ref h_turnedFeatures, .ref h_sixteenths, .int h_keys, .ref h_keySteps, .int h_lent, .int h_rings, .ref h_on, .ref h_onMany, .int h_doors, .ref h_wanted, .ref h_openers, .ref h_seconds, .int h_turned, .int h_roundMany, .ref h_roundDoors])), (h_openers, .inl (cA.1 0, 5, .inl c_h_openers)), (o_row, .inl (cA.1 0, 10, .inl c_o_row)), (o_parts, .inl (cA.1 1, 20, .inr (.inl c_o_parts))), (o_weights, .inl (cA.1 1, 20, .inr (.inl g_31))), (o, .inr (9, [.ref h, .int o_held, .int o_places, .ref o_row, .ref o_parts, .ref o_weights]))] → va_S A s.heap H locs → lv_has ls 5 [(0, .ref o), (1, .int k), (2, .int j), (3, .int r_1), (4, .int v_30)] → W p l e ({ frames := 3, cells := 0, slots := 0, locals := 68 }) s m args below meth c H locs 0 0 Q (F0 m 8 ls []) := by
    intro n
    induction n with
    | zero =>
      intro v_30 g_31 H locs ls hmu_hlp_32 hi_33 hP hD hS hl
      exact absurd hmu_hlp_32 (Nat.not_lt_zero _)
    | succ n ih_34 =>
      intro v_30 g_31 H locs ls hmu_hlp_32 hi_33 hP hD hS hl
      refine lv_iload hx hb dX9_learnTried_8 (lv_at hl 4 rfl) ?_
      refine lv_iload_n hx hb dX9_learnTried_10 rfl (lv_at hl 3 rfl) ?_
      refine lv_icmp_ge (tgt := 58) hx hb dX9_learnTried_11 (by decide) (fun c_35 => ?_) (fun c_35 => ?_)
      · have b_36 := z_s1 c_35
        refine lv_aload_n hx hb dX9_learnTried_58 rfl (lv_at hl 0 rfl) ?_
        refine z_callVi (As := []) (rest := []) (wr := [(h, .inr (2, [.int h_features, .ref h_featureNames, .ref h_steps, .ref h_turnedFeatures, .ref h_sixteenths, .int h_keys, .ref h_keySteps, .int h_lent, .int h_rings, .ref h_on, .ref h_onMany, .int h_doors, .ref h_wanted, .ref h_openers, .ref h_seconds, .int h_turned, .int h_roundMany, .ref h_roundDoors])), (h_openers, .inl (cA.1 0, 5, .inl c_h_openers)), (o_row, .inl (cA.1 0, 10, .inl c_o_row))]) ⟨hx, hb, hml, hown, hts⟩ hK hE hT hP hD hS hA (d_Th_shareOut l G cA o h o_held o_places o_row o_parts o_weights c_o_parts g_31) lk_RX9_51 ⟨rfl, rfl⟩ ⟨Nat.le_of_ble_eq_true rfl, Nat.le_of_ble_eq_true rfl⟩ 9 rfl rfl rfl [5, 3, 4] [0, 1, 2] rfl rfl (by decide) rfl hl.1 rfl (lv_room (Nat.le_of_ble_eq_true rfl)) dX9_learnTried_59 ⟨Nat.le_of_ble_eq_true rfl, Nat.le_of_ble_eq_true rfl⟩ (fun r_38 u_39 H locs hw hP hD hS => ?_)
        obtain ⟨nw0_37, rfl⟩ : ∃ z, z = u_39 := ⟨_, rfl⟩
        have hP : va_P G vwCl [(h, .inr (2, [.int h_features, .ref h_featureNames, .ref h_steps, .ref h_turnedFeatures, .ref h_sixteenths, .int h_keys, .ref h_keySteps, .int h_lent, .int h_rings, .ref h_on, .ref h_onMany, .int h_doors, .ref h_wanted, .ref h_openers, .ref h_seconds, .int h_turned, .int h_roundMany, .ref h_roundDoors])), (h_openers, .inl (cA.1 0, 5, .inl c_h_openers)), (o_row, .inl (cA.1 0, 10, .inl c_o_row)), (o, .inr (9, [.ref h, .int o_held, .int o_places, .ref o_row, .ref o_parts, .ref o_weights])), (o_parts, .inl (cA.1 1, 20, .inr (.inl nw0_37))), (o_weights, .inl (cA.1 1, 20, .inr (.inl g_31)))] H := hP
        have hD : va_D A [(h, .inr (2, [.int h_features, .ref h_featureNames, .ref h_steps, .ref h_turnedFeatures, .ref h_sixteenths, .int h_keys, .ref h_keySteps, .int h_lent, .int h_rings, .ref h_on, .ref h_onMany, .int h_doors, .ref h_wanted, .ref h_openers, .ref h_seconds, .int h_turned, .int h_roundMany, .ref h_roundDoors])), (h_openers, .inl (cA.1 0, 5, .inl c_h_openers)), (o_row, .inl (cA.1 0, 10, .inl c_o_row)), (o, .inr (9, [.ref h, .int o_held, .int o_places, .ref o_row, .ref o_parts, .ref o_weights])), (o_parts, .inl (cA.1 1, 20, .inr (.inl nw0_37))), (o_weights, .inl (cA.1 1, 20, .inr (.inl g_31)))] := hD
        have hz_r_38 := hw
        exact hret _ _ _ _ _ _ (nw0_37, g_31) [3, 0, 1, 2, 4, 5] hP hD hS rfl (by decide) dX9_learnTried_62 hz_r_38 hz_r_38
      · have b_40 := z_t2 c_35
        refine lv_aload_n hx hb dX9_learnTried_14 rfl (lv_at hl 0 rfl) ?_
        refine va_get (D := G) (ci := 9) (v := .ref o_weights) (C := RX9) (T := TX9) (N := 6) hx hb hts inT9 hown hK hP 5 rfl rfl 5 (by decide) (hts _ tw_358) (fun _ h9 => h9) rfl dX9_learnTried_15 ?_
        refine lv_iload hx hb dX9_learnTried_18 (lv_at hl 4 rfl) ?_
        refine lv_aload_n hx hb dX9_learnTried_20 rfl (lv_at hl 0 rfl) ?_
        refine va_get (D := G) (ci := 9) (v := .ref h) (C := RX9) (T := TX9) (N := 6) hx hb hts inT9 hown hK hP 5 rfl rfl 0 (by decide) (hts _ tw_349) (fun _ h9 => h9) rfl dX9_learnTried_21 ?_
        refine lv_aload_n hx hb dX9_learnTried_24 rfl (lv_at hl 0 rfl) ?_
        refine lv_iload hx hb dX9_learnTried_25 (lv_at hl 4 rfl) ?_
        refine lv_iconst (v := 1) hx hb dX9_learnTried_27 (by decide) ?_
        refine lv_ishr hx hb dX9_learnTried_28 ?_
        refine lv_topi (fun x_41 _ => ?_)
        refine z_callVi (As := [.int x_41]) (rest := [.ref h, .int v_30, .ref o_weights]) (wr := [(h, .inr (2, [.int h_features, .ref h_featureNames, .ref h_steps, .ref h_turnedFeatures, .ref h_sixteenths, .int h_keys, .ref h_keySteps, .int h_lent, .int h_rings, .ref h_on, .ref h_onMany, .int h_doors, .ref h_wanted, .ref h_openers, .ref h_seconds, .int h_turned, .int h_roundMany, .ref h_roundDoors])), (h_openers, .inl (cA.1 0, 5, .inl c_h_openers)), (o_parts, .inl (cA.1 1, 20, .inr (.inl c_o_parts))), (o_weights, .inl (cA.1 1, 20, .inr (.inl g_31)))]) ⟨hx, hb, hml, hown, hts⟩ hK hE hT hP hD hS hA (d_Th_keyAt l G cA o h o_held o_places o_row o_parts o_weights c_o_row x_41) lk_RX9_75 ⟨rfl, rfl⟩ ⟨Nat.le_of_ble_eq_true rfl, Nat.le_of_ble_eq_true rfl⟩ 9 rfl rfl rfl [5, 2] [0, 1, 3, 4] rfl rfl (by decide) rfl hl.1 rfl (lv_room (Nat.le_of_ble_eq_true rfl)) dX9_learnTried_29 ⟨Nat.le_of_ble_eq_true rfl, Nat.le_of_ble_eq_true rfl⟩ (fun r_42 u_43 H locs hw hP hD hS => ?_)
        have hP : va_P G vwCl [(h, .inr (2, [.int h_features, .ref h_featureNames, .ref h_steps, .ref h_turnedFeatures, .ref h_sixteenths, .int h_keys, .ref h_keySteps, .int h_lent, .int h_rings, .ref h_on, .ref h_onMany, .int h_doors, .ref h_wanted, .ref h_openers, .ref h_seconds, .int h_turned, .int h_roundMany, .ref h_roundDoors])), (h_openers, .inl (cA.1 0, 5, .inl c_h_openers)), (o_parts, .inl (cA.1 1, 20, .inr (.inl c_o_parts))), (o_weights, .inl (cA.1 1, 20, .inr (.inl g_31))), (o, .inr (9, [.ref h, .int o_held, .int o_places, .ref o_row, .ref o_parts, .ref o_weights])), (o_row, .inl (cA.1 0, 10, .inl c_o_row))] H := hP
        have hD : va_D A [(h, .inr (2, [.int h_features, .ref h_featureNames, .ref h_steps, .ref h_turnedFeatures, .ref h_sixteenths, .int h_keys, .ref h_keySteps, .int h_lent, .int h_rings, .ref h_on, .ref h_onMany, .int h_doors, .ref h_wanted, .ref h_openers, .ref h_seconds, .int h_turned, .int h_roundMany, .ref h_roundDoors])), (h_openers, .inl (cA.1 0, 5, .inl c_h_openers)), (o_parts, .inl (cA.1 1, 20, .inr (.inl c_o_parts))), (o_weights, .inl (cA.1 1, 20, .inr (.inl g_31))), (o, .inr (9, [.ref h, .int o_held, .int o_places, .ref o_row, .ref o_parts, .ref o_weights])), (o_row, .inl (cA.1 0, 10, .inl c_o_row))] := hD
        refine lv_iload_n hx hb dX9_learnTried_32 rfl (lv_at hl 1 rfl) ?_
        refine z_callVi (As := [.int r_42, .int k]) (rest := [.int v_30, .ref o_weights]) (wr := [(o_parts, .inl (cA.1 1, 20, .inr (.inl c_o_parts))), (o_weights, .inl (cA.1 1, 20, .inr (.inl g_31))), (o, .inr (9, [.ref h, .int o_held, .int o_places, .ref o_row, .ref o_parts, .ref o_weights])), (o_row, .inl (cA.1 0, 10, .inl c_o_row))]) ⟨hx, hb, hml, hown, hts⟩ hK hE hT hP hD hS hA (d_H_unlocks l G cA h h_features h_featureNames h_steps h_turnedFeatures h_sixteenths h_keys h_keySteps h_lent h_rings h_on h_onMany h_doors h_wanted h_openers h_seconds h_turned h_roundMany h_roundDoors c_h_openers r_42 k (by omega)) lk_RX9_83 ⟨rfl, rfl⟩ ⟨Nat.le_of_ble_eq_true rfl, Nat.le_of_ble_eq_true rfl⟩ 2 rfl rfl rfl [0, 1] [2, 3, 4, 5] rfl rfl (by decide) rfl hl.1 rfl (lv_room (Nat.le_of_ble_eq_true rfl)) dX9_learnTried_33 ⟨Nat.le_of_ble_eq_true rfl, Nat.le_of_ble_eq_true rfl⟩ (fun r_44 u_45 H locs hw hP hD hS => ?_)
        have hP : va_P G vwCl [(o_parts, .inl (cA.1 1, 20, .inr (.inl c_o_parts))), (o_weights, .inl (cA.1 1, 20, .inr (.inl g_31))), (o, .inr (9, [.ref h, .int o_held, .int o_places, .ref o_row, .ref o_parts, .ref o_weights])), (o_row, .inl (cA.1 0, 10, .inl c_o_row)), (h, .inr (2, [.int h_features, .ref h_featureNames, .ref h_steps, .ref h_turnedFeatures, .ref h_sixteenths, .int h_keys, .ref h_keySteps, .int h_lent, .int h_rings, .ref h_on, .ref h_onMany, .int h_doors, .ref h_wanted, .ref h_openers, .ref h_seconds, .int h_turned, .int h_roundMany, .ref h_roundDoors])), (h_openers, .inl (cA.1 0, 5, .inl c_h_openers))] H := hP
        have hD : va_D A [(o_parts, .inl (cA.1 1, 20, .inr (.inl c_o_parts))), (o_weights, .inl (cA.1 1, 20, .inr (.inl g_31))), (o, .inr (9, [.ref h, .int o_held, .int o_places, .ref o_row, .ref o_parts, .ref o_weights])), (o_row, .inl (cA.1 0, 10, .inl c_o_row)), (h, .inr (2, [.int h_features, .ref h_featureNames, .ref h_steps, .ref h_turnedFeatures, .ref h_sixteenths, .int h_keys, .ref h_keySteps, .int h_lent, .int h_rings, .ref h_on, .ref h_onMany, .int h_doors, .ref h_wanted, .ref h_openers, .ref h_seconds, .int h_turned, .int h_roundMany, .ref h_roundDoors])), (h_openers, .inl (cA.1 0, 5, .inl c_h_openers))] := hD
        obtain ⟨he_r_44, hw⟩ := hw
        have hz_r_44 := hw
        refine lv_iload_n hx hb dX9_learnTried_36 rfl (lv_at hl 2 rfl) ?_
        refine lv_icmp_ne (tgt := 50) hx hb dX9_learnTried_37 (by decide) (fun c_46 => ?_) (fun c_46 => ?_)
        · skip
          refine lv_lconst (v := 0) hx hb dX9_learnTried_50 (by decide) ?_
          refine va_last hx hb hK hP hD hS 1 1 rfl rfl (z_inN (by omega) (by omega)) dX9_learnTried_51 (fun H locs hP hD hS => ?_)
          have hP : va_P G vwCl [(o_parts, .inl (cA.1 1, 20, .inr (.inl c_o_parts))), (o_weights, .inl (cA.1 1, 20, .inr (.inl (vp_updL g_31 (v_30 : Int32).toNatClampNeg 0)))), (o, .inr (9, [.ref h, .int o_held, .int o_places, .ref o_row, .ref o_parts, .ref o_weights])), (o_row, .inl (cA.1 0, 10, .inl c_o_row)), (h, .inr (2, [.int h_features, .ref h_featureNames, .ref h_steps, .ref h_turnedFeatures, .ref h_sixteenths, .int h_keys, .ref h_keySteps, .int h_lent, .int h_rings, .ref h_on, .ref h_onMany, .int h_doors, .ref h_wanted, .ref h_openers, .ref h_seconds, .int h_turned, .int h_roundMany, .ref h_roundDoors])), (h_openers, .inl (cA.1 0, 5, .inl c_h_openers))] H := hP
          have hD : va_D A [(o_parts, .inl (cA.1 1, 20, .inr (.inl c_o_parts))), (o_weights, .inl (cA.1 1, 20, .inr (.inl (vp_updL g_31 (v_30 : Int32).toNatClampNeg 0)))), (o, .inr (9, [.ref h, .int o_held, .int o_places, .ref o_row, .ref o_parts, .ref o_weights])), (o_row, .inl (cA.1 0, 10, .inl c_o_row)), (h, .inr (2, [.int h_features, .ref h_featureNames, .ref h_steps, .ref h_turnedFeatures, .ref h_sixteenths, .int h_keys, .ref h_keySteps, .int h_lent, .int h_rings, .ref h_on, .ref h_onMany, .int h_doors, .ref h_wanted, .ref h_openers, .ref h_seconds, .int h_turned, .int h_roundMany, .ref h_roundDoors])), (h_openers, .inl (cA.1 0, 5, .inl c_h_openers))] := hD
          generalize hg_g_48 : (vp_updL g_31 (v_30 : Int32).toNatClampNeg 0) = g_48 at hP hD
          refine lv_iinc (v := (v_30 + 1)) (lv' := [(4, .int (v_30 + 1)), (0, .ref o), (1, .int k), (2, .int j), (3, .int r_1)]) hx hb dX9_learnTried_52 hl (k := 4) rfl (z_ofi (by decide +kernel)) (by decide) rfl (fun ls hl => ?_)
          refine lv_goto (tgt := 8) hx hb dX9_learnTried_55 (by decide) ?_
          have hP := hP.sub (ws' := [(h, .inr (2, [.int h_features, .ref h_featureNames, .ref h_steps, .ref h_turnedFeatures, .ref h_sixteenths, .int h_keys, .ref h_keySteps, .int h_lent, .int h_rings, .ref h_on, .ref h_onMany, .int h_doors, .ref h_wanted, .ref h_openers, .ref h_seconds, .int h_turned, .int h_roundMany, .ref h_roundDoors])), (h_openers, .inl (cA.1 0, 5, .inl c_h_openers)), (o_row, .inl (cA.1 0, 10, .inl c_o_row)), (o_parts, .inl (cA.1 1, 20, .inr (.inl c_o_parts))), (o_weights, .inl (cA.1 1, 20, .inr (.inl g_48))), (o, .inr (9, [.ref h, .int o_held, .int o_places, .ref o_row, .ref o_parts, .ref o_weights]))]) [4, 5, 3, 0, 1, 2] rfl
          have hD := hD.sub (ws' := [(h, .inr (2, [.int h_features, .ref h_featureNames, .ref h_steps, .ref h_turnedFeatures, .ref h_sixteenths, .int h_keys, .ref h_keySteps, .int h_lent, .int h_rings, .ref h_on, .ref h_onMany, .int h_doors, .ref h_wanted, .ref h_openers, .ref h_seconds, .int h_turned, .int h_roundMany, .ref h_roundDoors])), (h_openers, .inl (cA.1 0, 5, .inl c_h_openers)), (o_row, .inl (cA.1 0, 10, .inl c_o_row)), (o_parts, .inl (cA.1 1, 20, .inr (.inl c_o_parts))), (o_weights, .inl (cA.1 1, 20, .inr (.inl g_48))), (o, .inr (9, [.ref h, .int o_held, .int o_places, .ref o_row, .ref o_parts, .ref o_weights]))]) [4, 5, 3, 0, 1, 2] (by decide) rfl
          exact ih_34 (v_30 + 1) g_48 H locs ls (z_up hmu_hlp_32 (by omega) trivial) (z_upc hi_33 (by omega) trivial) hP hD hS (lv_sub hl [1, 2, 3, 4, 0] rfl)
        · skip
          refine lv_aload_n hx hb dX9_learnTried_40 rfl (lv_at hl 0 rfl) ?_
          refine va_get (D := G) (ci := 9) (v := .ref o_parts) (C := RX9) (T := TX9) (N := 6) hx hb hts inT9 hown hK hP 2 rfl rfl 4 (by decide) (hts _ tw_357) (fun _ h9 => h9) rfl dX9_learnTried_41 ?_
          refine lv_iload hx hb dX9_learnTried_44 (lv_at hl 4 rfl) ?_
          refine va_lald hx hb hK hP 0 1 rfl rfl (z_inN (by omega) (by omega)) dX9_learnTried_46 ?_
          refine lv_topl (fun x_50 _ => ?_)
          refine lv_goto (tgt := 51) hx hb dX9_learnTried_47 (by decide) ?_
          refine va_last hx hb hK hP hD hS 1 1 rfl rfl (z_inN (by omega) (by omega)) dX9_learnTried_51 (fun H locs hP hD hS => ?_)
          have hP : va_P G vwCl [(o_parts, .inl (cA.1 1, 20, .inr (.inl c_o_parts))), (o_weights, .inl (cA.1 1, 20, .inr (.inl (vp_updL g_31 (v_30 : Int32).toNatClampNeg x_50)))), (o, .inr (9, [.ref h, .int o_held, .int o_places, .ref o_row, .ref o_parts, .ref o_weights])), (o_row, .inl (cA.1 0, 10, .inl c_o_row)), (h, .inr (2, [.int h_features, .ref h_featureNames, .ref h_steps, .ref h_turnedFeatures, .ref h_sixteenths, .int h_keys, .ref h_keySteps, .int h_lent, .int h_rings, .ref h_on, .ref h_onMany, .int h_doors, .ref h_wanted, .ref h_openers, .ref h_seconds, .int h_turned, .int h_roundMany, .ref h_roundDoors])), (h_openers, .inl (cA.1 0, 5, .inl c_h_openers))] H := hP
          have hD : va_D A [(o_parts, .inl (cA.1 1, 20, .inr (.inl c_o_parts))), (o_weights, .inl (cA.1 1, 20, .inr (.inl (vp_updL g_31 (v_30 : Int32).toNatClampNeg x_50)))), (o, .inr (9, [.ref h, .int o_held, .int o_places, .ref o_row, .ref o_parts, .ref o_weights])), (o_row, .inl (cA.1 0, 10, .inl c_o_row)), (h, .inr (2, [.int h_features, .ref h_featureNames, .ref h_steps, .ref h_turnedFeatures, .ref h_sixteenths, .int h_keys, .ref h_keySteps, .int h_lent, .int h_rings, .ref h_on, .ref h_onMany, .int h_doors, .ref h_wanted, .ref h_openers, .ref h_seconds, .int h_turned, .int h_roundMany, .ref h_roundDoors])), (h_openers, .inl (cA.1 0, 5, .inl c_h_openers))] := hD
          generalize hg_g_51 : (vp_updL g_31 (v_30 : Int32).toNatClampNeg x_50) = g_51 at hP hD
          refine lv_iinc (v := (v_30 + 1)) (lv' := [(4, .int (v_30 + 1)), (0, .ref o), (1, .int k), (2, .int j), (3, .int r_1)]) hx hb dX9_learnTried_52 hl (k := 4) rfl (z_ofi (by decide +kernel)) (by decide) rfl (fun ls hl => ?_)
          refine lv_goto (tgt := 8) hx hb dX9_learnTried_55 (by decide) ?_
          have hP := hP.sub (ws' := [(h, .inr (2, [.int h_features, .ref h_featureNames, .ref h_steps, .ref h_turnedFeatures, .ref h_sixteenths, .int h_keys, .ref h_keySteps, .int h_lent, .int h_rings, .ref h_on, .ref h_onMany, .int h_doors, .ref h_wanted, .ref h_openers, .ref h_seconds, .int h_turned, .int h_roundMany, .ref h_roundDoors])), (h_openers, .inl (cA.1 0, 5, .inl c_h_openers)), (o_row, .inl (cA.1 0, 10, .inl c_o_row)), (o_parts, .inl (cA.1 1, 20, .inr (.inl c_o_parts))), (o_weights, .inl (cA.1 1, 20, .inr (.inl g_51))), (o, .inr (9, [.ref h, .int o_held, .int o_places, .ref o_row, .ref o_parts, .ref o_weights]))]) [4, 5, 3, 0, 1, 2] rfl
          have hD := hD.sub (ws' := [(h, .inr (2, [.int h_features, .ref h_featureNames, .ref h_steps, .ref h_turnedFeatures, .ref h_sixteenths, .int h_keys, .ref h_keySteps, .int h_lent, .int h_rings, .ref h_on, .ref h_onMany, .int h_doors, .ref h_wanted, .ref h_openers, .ref h_seconds, .int h_turned, .int h_roundMany, .ref h_roundDoors])), (h_openers, .inl (cA.1 0, 5, .inl c_h_openers)), (o_row, .inl (cA.1 0, 10, .inl c_o_row)), (o_parts, .inl (cA.1 1, 20, .inr (.inl c_o_parts))), (o_weights, .inl (cA.1 1, 20, .inr (.inl g_51))), (o, .inr (9, [.ref h, .int o_held, .int o_places, .ref o_row, .ref o_parts, .ref o_weights]))]) [4, 5, 3, 0, 1, 2] (by decide) rfl
          exact ih_34 (v_30 + 1) g_51 H locs ls (z_up hmu_hlp_32 (by omega) trivial) (z_upc hi_33 (by omega) trivial) hP hD hS (lv_sub hl [1, 2, 3, 4, 0] rfl)
  exact hlp_32 _ 0 c_o_weights _ _ _ (Nat.lt_succ_self _) (by first | decide +kernel | omega) hP hD hS (lv_sub hl [2, 3, 4, 1, 0] rfl)
set_option maxHeartbeats 4000000 in
set_option maxRecDepth 100000 in
theorem d_Th_swapWays (l : Launch) (G : va_G) (cA : zCA) (o : Nat) (h : Nat) (o_held : Int32) (o_places : Int32) (o_row : Nat) (o_parts : Nat) (o_weights : Nat) (c_o_parts : Nat → Int64) : zCv l yX9_swapWays cX9_swapWays 4 none ({ frames := 2, cells := 0, slots := 0, locals := 43 }) G cA [.ref o] [(o, .inr (9, [.ref h, .int o_held, .int o_places, .ref o_row, .ref o_parts, .ref o_weights])), (o_parts, .inl (cA.1 1, 20, .inr (.inl c_o_parts)))] (S := (Nat → Int64)) (fun (u : (Nat → Int64)) => True) (fun (u : (Nat → Int64)) => [(o, .inr (9, [.ref h, .int o_held, .int o_places, .ref o_row, .ref o_parts, .ref o_weights])), (o_parts, .inl (cA.1 1, 20, .inr (.inl u)))]) 0 0 := by
  refine z_start2v (own := RX9) (by decide) (Nat.le_of_ble_eq_true rfl) rfl ?_
  intro p e s m args below meth c A ls Q hx hb hml hts hown hK hE hT hP hD hS hA hl hret
  have hl : lv_has ls 4 [(0, .ref o)] := hl
  refine lv_iconst (v := 0) hx hb dX9_swapWays_0 (by decide) ?_
  refine lv_istore_n (lv' := [(1, .int 0), (0, .ref o)]) hx hb dX9_swapWays_1 rfl hl (by decide) rfl (fun ls hl => ?_)
  have hlp_31 : ∀ (n : Nat) (v_29 : Int32) (g_30 : Nat → Int64) (H : Heap) (locs : List Loc) (ls : Array Slot), (2147483647 - v_29.toInt).toNat < n → (0 ≤ v_29.toInt) → va_P G vwCl [(o, .inr (9, [.ref h, .int o_held, .int o_places, .ref o_row, .ref o_parts, .ref o_weights])), (o_parts, .inl (cA.1 1, 20, .inr (.inl g_30)))] H → va_D A [(o, .inr (9, [.ref h, .int o_held, .int o_places, .ref o_row, .ref o_parts, .ref o_weights])), (o_parts, .inl (cA.1 1, 20, .inr (.inl g_30)))] → va_S A s.heap H locs → lv_has ls 4 [(0, .ref o), (1, .int v_29)] → W p l e ({ frames := 2, cells := 0, slots := 0, locals := 43 }) s m args below meth c H locs 0 0 Q (F0 m 2 ls []) := by
    intro n
    induction n with
    | zero =>
      intro v_29 g_30 H locs ls hmu_hlp_31 hi_32 hP hD hS hl
      exact absurd hmu_hlp_31 (Nat.not_lt_zero _)
    | succ n ih_33 =>
      intro v_29 g_30 H locs ls hmu_hlp_31 hi_32 hP hD hS hl
      refine lv_iload_n hx hb dX9_swapWays_2 rfl (lv_at hl 1 rfl) ?_
      refine lv_aload_n hx hb dX9_swapWays_3 rfl (lv_at hl 0 rfl) ?_
      refine va_get (D := G) (ci := 9) (v := .int o_places) (C := RX9) (T := TX9) (N := 6) hx hb hts inT9 hown hK hP 0 rfl rfl 2 (by decide) (hts _ tw_352) (fun _ h9 => h9) rfl dX9_swapWays_4 ?_
      refine lv_icmp_ge (tgt := 52) hx hb dX9_swapWays_7 (by decide) (fun c_34 => ?_) (fun c_34 => ?_)
      · have b_35 := z_s1 c_34
        exact hret _ _ _ _ _ g_30 [0, 1] hP hD hS rfl (by decide) dX9_swapWays_52 trivial
      · have b_36 := z_t2 c_34
        refine lv_aload_n hx hb dX9_swapWays_10 rfl (lv_at hl 0 rfl) ?_
        refine lv_iload_n hx hb dX9_swapWays_11 rfl (lv_at hl 1 rfl) ?_
        refine lv_iconst (v := 0) hx hb dX9_swapWays_12 (by decide) ?_
        refine z_callVl (As := [.int v_29, .int 0]) (rest := []) (wr := []) ⟨hx, hb, hml, hown, hts⟩ hK hE hT hP hD hS hA (d_Th_partOf l G cA o h o_held o_places o_row o_parts o_weights g_30 v_29 0) lk_RX9_98 ⟨rfl, rfl⟩ ⟨Nat.le_of_ble_eq_true rfl, Nat.le_of_ble_eq_true rfl⟩ 9 rfl rfl rfl [0, 1] [] rfl rfl (by decide) rfl hl.1 rfl (lv_room (Nat.le_of_ble_eq_true rfl)) dX9_swapWays_13 ⟨Nat.le_of_ble_eq_true rfl, Nat.le_of_ble_eq_true rfl⟩ (fun r_37 u_38 H locs hw hP hD hS => ?_)
        have hP : va_P G vwCl [(o, .inr (9, [.ref h, .int o_held, .int o_places, .ref o_row, .ref o_parts, .ref o_weights])), (o_parts, .inl (cA.1 1, 20, .inr (.inl g_30)))] H := hP
        have hD : va_D A [(o, .inr (9, [.ref h, .int o_held, .int o_places, .ref o_row, .ref o_parts, .ref o_weights])), (o_parts, .inl (cA.1 1, 20, .inr (.inl g_30)))] := hD
        refine lv_lstore_n (lv' := [(2, .long r_37), (0, .ref o), (1, .int v_29)]) hx hb dX9_swapWays_16 rfl hl (by decide) rfl (fun ls hl => ?_)
        refine lv_aload_n hx hb dX9_swapWays_17 rfl (lv_at hl 1 rfl) ?_
        refine va_get (D := G) (ci := 9) (v := .ref o_parts) (C := RX9) (T := TX9) (N := 6) hx hb hts inT9 hown hK hP 0 rfl rfl 4 (by decide) (hts _ tw_357) (fun _ h9 => h9) rfl dX9_swapWays_18 ?_
        refine lv_iconst (v := 2) hx hb dX9_swapWays_21 (by decide) ?_
        refine lv_iload_n hx hb dX9_swapWays_22 rfl (lv_at hl 2 rfl) ?_
        refine lv_imul hx hb dX9_swapWays_23 ?_
        refine lv_topi (fun x_39 _ => ?_)
        refine lv_aload_n hx hb dX9_swapWays_24 rfl (lv_at hl 1 rfl) ?_
        refine lv_iload_n hx hb dX9_swapWays_25 rfl (lv_at hl 2 rfl) ?_
        refine lv_iconst (v := 1) hx hb dX9_swapWays_26 (by decide) ?_
        refine z_callVl (As := [.int v_29, .int 1]) (rest := [.int x_39, .ref o_parts]) (wr := []) ⟨hx, hb, hml, hown, hts⟩ hK hE hT hP hD hS hA (d_Th_partOf l G cA o h o_held o_places o_row o_parts o_weights g_30 v_29 1) lk_RX9_98 ⟨rfl, rfl⟩ ⟨Nat.le_of_ble_eq_true rfl, Nat.le_of_ble_eq_true rfl⟩ 9 rfl rfl rfl [0, 1] [] rfl rfl (by decide) rfl hl.1 rfl (lv_room (Nat.le_of_ble_eq_true rfl)) dX9_swapWays_27 ⟨Nat.le_of_ble_eq_true rfl, Nat.le_of_ble_eq_true rfl⟩ (fun r_40 u_41 H locs hw hP hD hS => ?_)
        have hP : va_P G vwCl [(o, .inr (9, [.ref h, .int o_held, .int o_places, .ref o_row, .ref o_parts, .ref o_weights])), (o_parts, .inl (cA.1 1, 20, .inr (.inl g_30)))] H := hP
        have hD : va_D A [(o, .inr (9, [.ref h, .int o_held, .int o_places, .ref o_row, .ref o_parts, .ref o_weights])), (o_parts, .inl (cA.1 1, 20, .inr (.inl g_30)))] := hD
        refine z_callSNv (As := [.ref o_parts, .int x_39, .long r_40]) (rest := []) (wr := [(o, .inr (9, [.ref h, .int o_held, .int o_places, .ref o_row, .ref o_parts, .ref o_weights]))]) ⟨hx, hb, hml, hown, hts⟩ hK hE hT hP hD hS hA (d_keepLongAt_20 l G cA o_parts g_30 x_39 r_40) lk_RX9_94 ⟨rfl, rfl⟩ ⟨Nat.le_of_ble_eq_true rfl, Nat.le_of_ble_eq_true rfl⟩ [1] [0] rfl rfl (by decide) rfl hl.1 rfl (lv_room (Nat.le_of_ble_eq_true rfl)) dX9_swapWays_30 ⟨Nat.le_of_ble_eq_true rfl, Nat.le_of_ble_eq_true rfl⟩ (fun u_44 H locs hw hP hD hS => ?_)
        obtain ⟨nw0_42, rfl⟩ : ∃ z, z = u_44 := ⟨_, rfl⟩
        have hP : va_P G vwCl [(o, .inr (9, [.ref h, .int o_held, .int o_places, .ref o_row, .ref o_parts, .ref o_weights])), (o_parts, .inl (cA.1 1, 20, .inr (.inl nw0_42)))] H := hP
        have hD : va_D A [(o, .inr (9, [.ref h, .int o_held, .int o_places, .ref o_row, .ref o_parts, .ref o_weights])), (o_parts, .inl (cA.1 1, 20, .inr (.inl nw0_42)))] := hD
        obtain ⟨he_nw0_42, hw⟩ := hw
        refine lv_aload_n hx hb dX9_swapWays_33 rfl (lv_at hl 1 rfl) ?_
        refine va_get (D := G) (ci := 9) (v := .ref o_parts) (C := RX9) (T := TX9) (N := 6) hx hb hts inT9 hown hK hP 0 rfl rfl 4 (by decide) (hts _ tw_357) (fun _ h9 => h9) rfl dX9_swapWays_34 ?_
        refine lv_iconst (v := 2) hx hb dX9_swapWays_37 (by decide) ?_
        refine lv_iload_n hx hb dX9_swapWays_38 rfl (lv_at hl 2 rfl) ?_
        refine lv_imul hx hb dX9_swapWays_39 ?_
        refine lv_topi (fun x_45 _ => ?_)
        refine lv_iconst (v := 1) hx hb dX9_swapWays_40 (by decide) ?_
        refine lv_iadd hx hb dX9_swapWays_41 ?_
        refine lv_lload_n hx hb dX9_swapWays_42 rfl (lv_at hl 0 rfl) ?_
        refine z_callSNv (As := [.ref o_parts, .int (x_45 + 1), .long r_37]) (rest := []) (wr := [(o, .inr (9, [.ref h, .int o_held, .int o_places, .ref o_row, .ref o_parts, .ref o_weights]))]) ⟨hx, hb, hml, hown, hts⟩ hK hE hT hP hD hS hA (d_keepLongAt_20 l G cA o_parts nw0_42 (x_45 + 1) r_37) lk_RX9_94 ⟨rfl, rfl⟩ ⟨Nat.le_of_ble_eq_true rfl, Nat.le_of_ble_eq_true rfl⟩ [1] [0] rfl rfl (by decide) rfl hl.1 rfl (lv_room (Nat.le_of_ble_eq_true rfl)) dX9_swapWays_43 ⟨Nat.le_of_ble_eq_true rfl, Nat.le_of_ble_eq_true rfl⟩ (fun u_48 H locs hw hP hD hS => ?_)
        obtain ⟨nw0_46, rfl⟩ : ∃ z, z = u_48 := ⟨_, rfl⟩
        have hP : va_P G vwCl [(o, .inr (9, [.ref h, .int o_held, .int o_places, .ref o_row, .ref o_parts, .ref o_weights])), (o_parts, .inl (cA.1 1, 20, .inr (.inl nw0_46)))] H := hP
        have hD : va_D A [(o, .inr (9, [.ref h, .int o_held, .int o_places, .ref o_row, .ref o_parts, .ref o_weights])), (o_parts, .inl (cA.1 1, 20, .inr (.inl nw0_46)))] := hD
        obtain ⟨he_nw0_46, hw⟩ := hw
        refine lv_iinc (v := (v_29 + 1)) (lv' := [(1, .int (v_29 + 1)), (2, .long r_37), (0, .ref o)]) hx hb dX9_swapWays_46 hl (k := 2) rfl (z_ofi (by decide +kernel)) (by decide) rfl (fun ls hl => ?_)
        refine lv_goto (tgt := 2) hx hb dX9_swapWays_49 (by decide) ?_
        exact ih_33 (v_29 + 1) nw0_46 H locs ls (z_up hmu_hlp_31 (by omega) trivial) (z_upc hi_32 (by omega) trivial) hP hD hS (lv_sub hl [2, 0] rfl)
  exact hlp_31 _ 0 c_o_parts _ _ _ (Nat.lt_succ_self _) (by first | decide +kernel | omega) hP hD hS (lv_sub hl [1, 0] rfl)
set_option maxHeartbeats 4000000 in
set_option maxRecDepth 100000 in
theorem d_Th_partsOfKey (l : Launch) (G : va_G) (cA : zCA) (o : Nat) (h : Nat) (o_held : Int32) (o_places : Int32) (o_row : Nat) (o_parts : Nat) (o_weights : Nat) (c_o_row : Nat → Int32) (c_o_parts : Nat → Int64) (k : Int32) : zCl l yX9_partsOfKey cX9_partsOfKey 5 (some .long) ({ frames := 2, cells := 0, slots := 0, locals := 43 }) G cA [.ref o, .int k] [(o, .inr (9, [.ref h, .int o_held, .int o_places, .ref o_row, .ref o_parts, .ref o_weights])), (o_row, .inl (cA.1 0, 10, .inl c_o_row)), (o_parts, .inl (cA.1 1, 20, .inr (.inl c_o_parts)))] (S := Unit) (fun (r : Int64) (u : Unit) => True) (fun (u : Unit) => [(o, .inr (9, [.ref h, .int o_held, .int o_places, .ref o_row, .ref o_parts, .ref o_weights])), (o_row, .inl (cA.1 0, 10, .inl c_o_row)), (o_parts, .inl (cA.1 1, 20, .inr (.inl c_o_parts)))]) 0 0 := by
  refine z_start2l (own := RX9) (by decide) (Nat.le_of_ble_eq_true rfl) rfl ?_
  intro p e s m args below meth c A ls Q hx hb hml hts hown hK hE hT hP hD hS hA hl hret
  have hl : lv_has ls 5 [(0, .ref o), (1, .int k)] := hl
  refine lv_lconst (v := 0) hx hb dX9_partsOfKey_0 (by decide) ?_
  refine lv_lstore_n (lv' := [(2, .long 0), (0, .ref o), (1, .int k)]) hx hb dX9_partsOfKey_1 rfl hl (by decide) rfl (fun ls hl => ?_)
  refine lv_iconst (v := 0) hx hb dX9_partsOfKey_2 (by decide) ?_
  refine lv_istore (lv' := [(4, .int 0), (2, .long 0), (0, .ref o), (1, .int k)]) hx hb dX9_partsOfKey_3 hl (by decide) rfl (fun ls hl => ?_)
  have hlp_31 : ∀ (n : Nat) (v_29 : Int64) (v_30 : Int32) (H : Heap) (locs : List Loc) (ls : Array Slot), (2147483647 - v_30.toInt).toNat < n → (0 ≤ v_30.toInt) → va_P G vwCl [(o, .inr (9, [.ref h, .int o_held, .int o_places, .ref o_row, .ref o_parts, .ref o_weights])), (o_row, .inl (cA.1 0, 10, .inl c_o_row)), (o_parts, .inl (cA.1 1, 20, .inr (.inl c_o_parts)))] H → va_D A [(o, .inr (9, [.ref h, .int o_held, .int o_places, .ref o_row, .ref o_parts, .ref o_weights])), (o_row, .inl (cA.1 0, 10, .inl c_o_row)), (o_parts, .inl (cA.1 1, 20, .inr (.inl c_o_parts)))] → va_S A s.heap H locs → lv_has ls 5 [(0, .ref o), (1, .int k), (2, .long v_29), (4, .int v_30)] → W p l e ({ frames := 2, cells := 0, slots := 0, locals := 43 }) s m args below meth c H locs 0 0 Q (F0 m 5 ls []) := by
    intro n
    induction n with
    | zero =>
      intro v_29 v_30 H locs ls hmu_hlp_31 hi_32 hP hD hS hl
      exact absurd hmu_hlp_31 (Nat.not_lt_zero _)
    | succ n ih_33 =>
      intro v_29 v_30 H locs ls hmu_hlp_31 hi_32 hP hD hS hl
      refine lv_iload hx hb dX9_partsOfKey_5 (lv_at hl 3 rfl) ?_
      refine lv_aload_n hx hb dX9_partsOfKey_7 rfl (lv_at hl 0 rfl) ?_
      refine va_get (D := G) (ci := 9) (v := .int o_places) (C := RX9) (T := TX9) (N := 6) hx hb hts inT9 hown hK hP 0 rfl rfl 2 (by decide) (hts _ tw_352) (fun _ h9 => h9) rfl dX9_partsOfKey_8 ?_
      refine lv_icmp_ge (tgt := 48) hx hb dX9_partsOfKey_11 (by decide) (fun c_34 => ?_) (fun c_34 => ?_)
      · have b_35 := z_s1 c_34
        refine lv_lload_n hx hb dX9_partsOfKey_48 rfl (lv_at hl 2 rfl) ?_
        exact hret _ _ _ _ _ _ () [0, 1, 2] hP hD hS rfl (by decide) dX9_partsOfKey_49 trivial
      · have b_36 := z_t2 c_34
        refine lv_aload_n hx hb dX9_partsOfKey_14 rfl (lv_at hl 0 rfl) ?_
        refine lv_iload hx hb dX9_partsOfKey_15 (lv_at hl 3 rfl) ?_
        refine z_callVi (As := [.int v_30]) (rest := []) (wr := [(o_parts, .inl (cA.1 1, 20, .inr (.inl c_o_parts)))]) ⟨hx, hb, hml, hown, hts⟩ hK hE hT hP hD hS hA (d_Th_keyAt l G cA o h o_held o_places o_row o_parts o_weights c_o_row v_30) lk_RX9_75 ⟨rfl, rfl⟩ ⟨Nat.le_of_ble_eq_true rfl, Nat.le_of_ble_eq_true rfl⟩ 9 rfl rfl rfl [0, 1] [2] rfl rfl (by decide) rfl hl.1 rfl (lv_room (Nat.le_of_ble_eq_true rfl)) dX9_partsOfKey_17 ⟨Nat.le_of_ble_eq_true rfl, Nat.le_of_ble_eq_true rfl⟩ (fun r_37 u_38 H locs hw hP hD hS => ?_)
        have hP : va_P G vwCl [(o_parts, .inl (cA.1 1, 20, .inr (.inl c_o_parts))), (o, .inr (9, [.ref h, .int o_held, .int o_places, .ref o_row, .ref o_parts, .ref o_weights])), (o_row, .inl (cA.1 0, 10, .inl c_o_row))] H := hP
        have hD : va_D A [(o_parts, .inl (cA.1 1, 20, .inr (.inl c_o_parts))), (o, .inr (9, [.ref h, .int o_held, .int o_places, .ref o_row, .ref o_parts, .ref o_weights])), (o_row, .inl (cA.1 0, 10, .inl c_o_row))] := hD
        refine lv_iload_n hx hb dX9_partsOfKey_20 rfl (lv_at hl 1 rfl) ?_
        refine lv_icmp_ne (tgt := 42) hx hb dX9_partsOfKey_21 (by decide) (fun c_39 => ?_) (fun c_39 => ?_)
        · skip
          refine lv_iinc (v := (v_30 + 1)) (lv' := [(4, .int (v_30 + 1)), (0, .ref o), (1, .int k), (2, .long v_29)]) hx hb dX9_partsOfKey_42 hl (k := 3) rfl (z_ofi (by decide +kernel)) (by decide) rfl (fun ls hl => ?_)
          refine lv_goto (tgt := 5) hx hb dX9_partsOfKey_45 (by decide) ?_
          have hP := hP.sub (ws' := [(o, .inr (9, [.ref h, .int o_held, .int o_places, .ref o_row, .ref o_parts, .ref o_weights])), (o_row, .inl (cA.1 0, 10, .inl c_o_row)), (o_parts, .inl (cA.1 1, 20, .inr (.inl c_o_parts)))]) [1, 2, 0] rfl
          have hD := hD.sub (ws' := [(o, .inr (9, [.ref h, .int o_held, .int o_places, .ref o_row, .ref o_parts, .ref o_weights])), (o_row, .inl (cA.1 0, 10, .inl c_o_row)), (o_parts, .inl (cA.1 1, 20, .inr (.inl c_o_parts)))]) [1, 2, 0] (by decide) rfl
          exact ih_33 v_29 (v_30 + 1) H locs ls (z_up hmu_hlp_31 (by omega) trivial) (z_upc hi_32 (by omega) trivial) hP hD hS (lv_sub hl [1, 2, 3, 0] rfl)
        · skip
          refine lv_lload_n hx hb dX9_partsOfKey_24 rfl (lv_at hl 2 rfl) ?_
          refine lv_aload_n hx hb dX9_partsOfKey_25 rfl (lv_at hl 0 rfl) ?_
          refine lv_iload hx hb dX9_partsOfKey_26 (lv_at hl 3 rfl) ?_
          refine lv_iconst (v := 0) hx hb dX9_partsOfKey_28 (by decide) ?_
          refine z_callVl (As := [.int v_30, .int 0]) (rest := [.long v_29]) (wr := [(o_row, .inl (cA.1 0, 10, .inl c_o_row))]) ⟨hx, hb, hml, hown, hts⟩ hK hE hT hP hD hS hA (d_Th_partOf l G cA o h o_held o_places o_row o_parts o_weights c_o_parts v_30 0) lk_RX9_98 ⟨rfl, rfl⟩ ⟨Nat.le_of_ble_eq_true rfl, Nat.le_of_ble_eq_true rfl⟩ 9 rfl rfl rfl [1, 0] [2] rfl rfl (by decide) rfl hl.1 rfl (lv_room (Nat.le_of_ble_eq_true rfl)) dX9_partsOfKey_29 ⟨Nat.le_of_ble_eq_true rfl, Nat.le_of_ble_eq_true rfl⟩ (fun r_42 u_43 H locs hw hP hD hS => ?_)
          have hP : va_P G vwCl [(o_row, .inl (cA.1 0, 10, .inl c_o_row)), (o, .inr (9, [.ref h, .int o_held, .int o_places, .ref o_row, .ref o_parts, .ref o_weights])), (o_parts, .inl (cA.1 1, 20, .inr (.inl c_o_parts)))] H := hP
          have hD : va_D A [(o_row, .inl (cA.1 0, 10, .inl c_o_row)), (o, .inr (9, [.ref h, .int o_held, .int o_places, .ref o_row, .ref o_parts, .ref o_weights])), (o_parts, .inl (cA.1 1, 20, .inr (.inl c_o_parts)))] := hD
          refine lv_aload_n hx hb dX9_partsOfKey_32 rfl (lv_at hl 0 rfl) ?_
          refine lv_iload hx hb dX9_partsOfKey_33 (lv_at hl 3 rfl) ?_
          refine lv_iconst (v := 1) hx hb dX9_partsOfKey_35 (by decide) ?_
          refine z_callVl (As := [.int v_30, .int 1]) (rest := [.long r_42, .long v_29]) (wr := [(o_row, .inl (cA.1 0, 10, .inl c_o_row))]) ⟨hx, hb, hml, hown, hts⟩ hK hE hT hP hD hS hA (d_Th_partOf l G cA o h o_held o_places o_row o_parts o_weights c_o_parts v_30 1) lk_RX9_98 ⟨rfl, rfl⟩ ⟨Nat.le_of_ble_eq_true rfl, Nat.le_of_ble_eq_true rfl⟩ 9 rfl rfl rfl [1, 2] [0] rfl rfl (by decide) rfl hl.1 rfl (lv_room (Nat.le_of_ble_eq_true rfl)) dX9_partsOfKey_36 ⟨Nat.le_of_ble_eq_true rfl, Nat.le_of_ble_eq_true rfl⟩ (fun r_44 u_45 H locs hw hP hD hS => ?_)
          have hP : va_P G vwCl [(o_row, .inl (cA.1 0, 10, .inl c_o_row)), (o, .inr (9, [.ref h, .int o_held, .int o_places, .ref o_row, .ref o_parts, .ref o_weights])), (o_parts, .inl (cA.1 1, 20, .inr (.inl c_o_parts)))] H := hP
          have hD : va_D A [(o_row, .inl (cA.1 0, 10, .inl c_o_row)), (o, .inr (9, [.ref h, .int o_held, .int o_places, .ref o_row, .ref o_parts, .ref o_weights])), (o_parts, .inl (cA.1 1, 20, .inr (.inl c_o_parts)))] := hD
          refine lv_ladd hx hb dX9_partsOfKey_39 ?_
          refine lv_topl (fun x_46 _ => ?_)
          refine lv_ladd hx hb dX9_partsOfKey_40 ?_
          refine lv_topl (fun x_47 _ => ?_)
          refine lv_lstore_n (lv' := [(2, .long x_47), (0, .ref o), (1, .int k), (4, .int v_30)]) hx hb dX9_partsOfKey_41 rfl hl (by decide) rfl (fun ls hl => ?_)
          refine lv_iinc (v := (v_30 + 1)) (lv' := [(4, .int (v_30 + 1)), (2, .long x_47), (0, .ref o), (1, .int k)]) hx hb dX9_partsOfKey_42 hl (k := 3) rfl (z_ofi (by decide +kernel)) (by decide) rfl (fun ls hl => ?_)
          refine lv_goto (tgt := 5) hx hb dX9_partsOfKey_45 (by decide) ?_
          have hP := hP.sub (ws' := [(o, .inr (9, [.ref h, .int o_held, .int o_places, .ref o_row, .ref o_parts, .ref o_weights])), (o_row, .inl (cA.1 0, 10, .inl c_o_row)), (o_parts, .inl (cA.1 1, 20, .inr (.inl c_o_parts)))]) [1, 0, 2] rfl
          have hD := hD.sub (ws' := [(o, .inr (9, [.ref h, .int o_held, .int o_places, .ref o_row, .ref o_parts, .ref o_weights])), (o_row, .inl (cA.1 0, 10, .inl c_o_row)), (o_parts, .inl (cA.1 1, 20, .inr (.inl c_o_parts)))]) [1, 0, 2] (by decide) rfl
          exact ih_33 x_47 (v_30 + 1) H locs ls (z_up hmu_hlp_31 (by omega) trivial) (z_upc hi_32 (by omega) trivial) hP hD hS (lv_sub hl [2, 3, 1, 0] rfl)
  exact hlp_31 _ 0 0 _ _ _ (Nat.lt_succ_self _) (by first | decide +kernel | omega) hP hD hS (lv_sub hl [2, 3, 1, 0] rfl)
set_option maxHeartbeats 4000000 in
set_option maxRecDepth 100000 in
theorem d_Th_partsThatOpen (l : Launch) (G : va_G) (cA : zCA) (o : Nat) (h : Nat) (o_held : Int32) (o_places : Int32) (o_row : Nat) (o_parts : Nat) (o_weights : Nat) (h_features : Int32) (h_featureNames : Nat) (h_steps : Nat) (h_turnedFeatures : Nat) (h_sixteenths : Nat) (h_keys : Int32) (h_keySteps : Nat) (h_lent : Int32) (h_rings : Int32) (h_on : Nat) (h_onMany : Nat) (h_doors : Int32) (h_wanted : Nat) (h_openers : Nat) (h_seconds : Nat) (h_turned : Int32) (h_roundMany : Int32) (h_roundDoors : Nat) (c_h_openers : Nat → Int32) (c_o_row : Nat → Int32) (c_o_parts : Nat → Int64) (k : Int32) (hm_h_features : 0 ≤ h_features.toInt ∧ h_features.toInt ≤ 3) : zCl l yX9_partsThatOpen cX9_partsThatOpen 5 (some .long) ({ frames := 2, cells := 0, slots := 0, locals := 43 }) G cA [.ref o, .int k] [(o, .inr (9, [.ref h, .int o_held, .int o_places, .ref o_row, .ref o_parts, .ref o_weights])), (h, .inr (2, [.int h_features, .ref h_featureNames, .ref h_steps, .ref h_turnedFeatures, .ref h_sixteenths, .int h_keys, .ref h_keySteps, .int h_lent, .int h_rings, .ref h_on, .ref h_onMany, .int h_doors, .ref h_wanted, .ref h_openers, .ref h_seconds, .int h_turned, .int h_roundMany, .ref h_roundDoors])), (h_openers, .inl (cA.1 0, 5, .inl c_h_openers)), (o_row, .inl (cA.1 0, 10, .inl c_o_row)), (o_parts, .inl (cA.1 1, 20, .inr (.inl c_o_parts)))] (S := Unit) (fun (r : Int64) (u : Unit) => True) (fun (u : Unit) => [(o, .inr (9, [.ref h, .int o_held, .int o_places, .ref o_row, .ref o_parts, .ref o_weights])), (h, .inr (2, [.int h_features, .ref h_featureNames, .ref h_steps, .ref h_turnedFeatures, .ref h_sixteenths, .int h_keys, .ref h_keySteps, .int h_lent, .int h_rings, .ref h_on, .ref h_onMany, .int h_doors, .ref h_wanted, .ref h_openers, .ref h_seconds, .int h_turned, .int h_roundMany, .ref h_roundDoors])), (h_openers, .inl (cA.1 0, 5, .inl c_h_openers)), (o_row, .inl (cA.1 0, 10, .inl c_o_row)), (o_parts, .inl (cA.1 1, 20, .inr (.inl c_o_parts)))]) 0 0 := by
  refine z_start2l (own := RX9) (by decide) (Nat.le_of_ble_eq_true rfl) rfl ?_
  intro p e s m args below meth c A ls Q hx hb hml hts hown hK hE hT hP hD hS hA hl hret
  have hl : lv_has ls 5 [(0, .ref o), (1, .int k)] := hl
  refine lv_lconst (v := 0) hx hb dX9_partsThatOpen_0 (by decide) ?_
  refine lv_lstore_n (lv' := [(2, .long 0), (0, .ref o), (1, .int k)]) hx hb dX9_partsThatOpen_1 rfl hl (by decide) rfl (fun ls hl => ?_)
  refine lv_iconst (v := 0) hx hb dX9_partsThatOpen_2 (by decide) ?_
  refine lv_istore (lv' := [(4, .int 0), (2, .long 0), (0, .ref o), (1, .int k)]) hx hb dX9_partsThatOpen_3 hl (by decide) rfl (fun ls hl => ?_)
  have hlp_35 : ∀ (n : Nat) (v_33 : Int64) (v_34 : Int32) (H : Heap) (locs : List Loc) (ls : Array Slot), (2147483647 - v_34.toInt).toNat < n → (0 ≤ v_34.toInt) → va_P G vwCl [(o, .inr (9, [.ref h, .int o_held, .int o_places, .ref o_row, .ref o_parts, .ref o_weights])), (h, .inr (2, [.int h_features, .ref h_featureNames, .ref h_steps, .ref h_turnedFeatures, .ref h_sixteenths, .int h_keys, .ref h_keySteps, .int h_lent, .int h_rings, .ref h_on, .ref h_onMany, .int h_doors, .ref h_wanted, .ref h_openers, .ref h_seconds, .int h_turned, .int h_roundMany, .ref h_roundDoors])), (h_openers, .inl (cA.1 0, 5, .inl c_h_openers)), (o_row, .inl (cA.1 0, 10, .inl c_o_row)), (o_parts, .inl (cA.1 1, 20, .inr (.inl c_o_parts)))] H → va_D A [(o, .inr (9, [.ref h, .int o_held, .int o_places, .ref o_row, .ref o_parts, .ref o_weights])), (h, .inr (2, [.int h_features, .ref h_featureNames, .ref h_steps, .ref h_turnedFeatures, .ref h_sixteenths, .int h_keys, .ref h_keySteps, .int h_lent, .int h_rings, .ref h_on, .ref h_onMany, .int h_doors, .ref h_wanted, .ref h_openers, .ref h_seconds, .int h_turned, .int h_roundMany, .ref h_roundDoors])), (h_openers, .inl (cA.1 0, 5, .inl c_h_openers)), (o_row, .inl (cA.1 0, 10, .inl c_o_row)), (o_parts, .inl (cA.1 1, 20, .inr (.inl c_o_parts)))] → va_S A s.heap H locs → lv_has ls 5 [(0, .ref o), (1, .int k), (2, .long v_33), (4, .int v_34)] → W p l e ({ frames := 2, cells := 0, slots := 0, locals := 43 }) s m args below meth c H locs 0 0 Q (F0 m 5 ls []) := by
    intro n
    induction n with
    | zero =>
      intro v_33 v_34 H locs ls hmu_hlp_35 hi_36 hP hD hS hl
      exact absurd hmu_hlp_35 (Nat.not_lt_zero _)
    | succ n ih_37 =>
      intro v_33 v_34 H locs ls hmu_hlp_35 hi_36 hP hD hS hl
      refine lv_iload hx hb dX9_partsThatOpen_5 (lv_at hl 3 rfl) ?_
      refine lv_aload_n hx hb dX9_partsThatOpen_7 rfl (lv_at hl 0 rfl) ?_
      refine va_get (D := G) (ci := 9) (v := .int o_places) (C := RX9) (T := TX9) (N := 6) hx hb hts inT9 hown hK hP 0 rfl rfl 2 (by decide) (hts _ tw_352) (fun _ h9 => h9) rfl dX9_partsThatOpen_8 ?_
      refine lv_icmp_ge (tgt := 55) hx hb dX9_partsThatOpen_11 (by decide) (fun c_38 => ?_) (fun c_38 => ?_)
      · have b_39 := z_s1 c_38
        refine lv_lload_n hx hb dX9_partsThatOpen_55 rfl (lv_at hl 2 rfl) ?_
        exact hret _ _ _ _ _ _ () [0, 1, 2, 3, 4] hP hD hS rfl (by decide) dX9_partsThatOpen_56 trivial
      · have b_40 := z_t2 c_38
        refine lv_aload_n hx hb dX9_partsThatOpen_14 rfl (lv_at hl 0 rfl) ?_
        refine va_get (D := G) (ci := 9) (v := .ref h) (C := RX9) (T := TX9) (N := 6) hx hb hts inT9 hown hK hP 0 rfl rfl 0 (by decide) (hts _ tw_349) (fun _ h9 => h9) rfl dX9_partsThatOpen_15 ?_
        refine lv_aload_n hx hb dX9_partsThatOpen_18 rfl (lv_at hl 0 rfl) ?_
        refine lv_iload hx hb dX9_partsThatOpen_19 (lv_at hl 3 rfl) ?_
        refine z_callVi (As := [.int v_34]) (rest := [.ref h]) (wr := [(h, .inr (2, [.int h_features, .ref h_featureNames, .ref h_steps, .ref h_turnedFeatures, .ref h_sixteenths, .int h_keys, .ref h_keySteps, .int h_lent, .int h_rings, .ref h_on, .ref h_onMany, .int h_doors, .ref h_wanted, .ref h_openers, .ref h_seconds, .int h_turned, .int h_roundMany, .ref h_roundDoors])), (h_openers, .inl (cA.1 0, 5, .inl c_h_openers)), (o_parts, .inl (cA.1 1, 20, .inr (.inl c_o_parts)))]) ⟨hx, hb, hml, hown, hts⟩ hK hE hT hP hD hS hA (d_Th_keyAt l G cA o h o_held o_places o_row o_parts o_weights c_o_row v_34) lk_RX9_75 ⟨rfl, rfl⟩ ⟨Nat.le_of_ble_eq_true rfl, Nat.le_of_ble_eq_true rfl⟩ 9 rfl rfl rfl [0, 3] [1, 2, 4] rfl rfl (by decide) rfl hl.1 rfl (lv_room (Nat.le_of_ble_eq_true rfl)) dX9_partsThatOpen_21 ⟨Nat.le_of_ble_eq_true rfl, Nat.le_of_ble_eq_true rfl⟩ (fun r_41 u_42 H locs hw hP hD hS => ?_)
        have hP : va_P G vwCl [(h, .inr (2, [.int h_features, .ref h_featureNames, .ref h_steps, .ref h_turnedFeatures, .ref h_sixteenths, .int h_keys, .ref h_keySteps, .int h_lent, .int h_rings, .ref h_on, .ref h_onMany, .int h_doors, .ref h_wanted, .ref h_openers, .ref h_seconds, .int h_turned, .int h_roundMany, .ref h_roundDoors])), (h_openers, .inl (cA.1 0, 5, .inl c_h_openers)), (o_parts, .inl (cA.1 1, 20, .inr (.inl c_o_parts))), (o, .inr (9, [.ref h, .int o_held, .int o_places, .ref o_row, .ref o_parts, .ref o_weights])), (o_row, .inl (cA.1 0, 10, .inl c_o_row))] H := hP
        have hD : va_D A [(h, .inr (2, [.int h_features, .ref h_featureNames, .ref h_steps, .ref h_turnedFeatures, .ref h_sixteenths, .int h_keys, .ref h_keySteps, .int h_lent, .int h_rings, .ref h_on, .ref h_onMany, .int h_doors, .ref h_wanted, .ref h_openers, .ref h_seconds, .int h_turned, .int h_roundMany, .ref h_roundDoors])), (h_openers, .inl (cA.1 0, 5, .inl c_h_openers)), (o_parts, .inl (cA.1 1, 20, .inr (.inl c_o_parts))), (o, .inr (9, [.ref h, .int o_held, .int o_places, .ref o_row, .ref o_parts, .ref o_weights])), (o_row, .inl (cA.1 0, 10, .inl c_o_row))] := hD
        refine lv_iload_n hx hb dX9_partsThatOpen_24 rfl (lv_at hl 1 rfl) ?_
        refine z_callVi (As := [.int r_41, .int k]) (rest := []) (wr := [(o_parts, .inl (cA.1 1, 20, .inr (.inl c_o_parts))), (o, .inr (9, [.ref h, .int o_held, .int o_places, .ref o_row, .ref o_parts, .ref o_weights])), (o_row, .inl (cA.1 0, 10, .inl c_o_row))]) ⟨hx, hb, hml, hown, hts⟩ hK hE hT hP hD hS hA (d_H_unlocks l G cA h h_features h_featureNames h_steps h_turnedFeatures h_sixteenths h_keys h_keySteps h_lent h_rings h_on h_onMany h_doors h_wanted h_openers h_seconds h_turned h_roundMany h_roundDoors c_h_openers r_41 k (by omega)) lk_RX9_83 ⟨rfl, rfl⟩ ⟨Nat.le_of_ble_eq_true rfl, Nat.le_of_ble_eq_true rfl⟩ 2 rfl rfl rfl [0, 1] [2, 3, 4] rfl rfl (by decide) rfl hl.1 rfl (lv_room (Nat.le_of_ble_eq_true rfl)) dX9_partsThatOpen_25 ⟨Nat.le_of_ble_eq_true rfl, Nat.le_of_ble_eq_true rfl⟩ (fun r_43 u_44 H locs hw hP hD hS => ?_)
        have hP : va_P G vwCl [(o_parts, .inl (cA.1 1, 20, .inr (.inl c_o_parts))), (o, .inr (9, [.ref h, .int o_held, .int o_places, .ref o_row, .ref o_parts, .ref o_weights])), (o_row, .inl (cA.1 0, 10, .inl c_o_row)), (h, .inr (2, [.int h_features, .ref h_featureNames, .ref h_steps, .ref h_turnedFeatures, .ref h_sixteenths, .int h_keys, .ref h_keySteps, .int h_lent, .int h_rings, .ref h_on, .ref h_onMany, .int h_doors, .ref h_wanted, .ref h_openers, .ref h_seconds, .int h_turned, .int h_roundMany, .ref h_roundDoors])), (h_openers, .inl (cA.1 0, 5, .inl c_h_openers))] H := hP
        have hD : va_D A [(o_parts, .inl (cA.1 1, 20, .inr (.inl c_o_parts))), (o, .inr (9, [.ref h, .int o_held, .int o_places, .ref o_row, .ref o_parts, .ref o_weights])), (o_row, .inl (cA.1 0, 10, .inl c_o_row)), (h, .inr (2, [.int h_features, .ref h_featureNames, .ref h_steps, .ref h_turnedFeatures, .ref h_sixteenths, .int h_keys, .ref h_keySteps, .int h_lent, .int h_rings, .ref h_on, .ref h_onMany, .int h_doors, .ref h_wanted, .ref h_openers, .ref h_seconds, .int h_turned, .int h_roundMany, .ref h_roundDoors])), (h_openers, .inl (cA.1 0, 5, .inl c_h_openers))] := hD
        obtain ⟨he_r_43, hw⟩ := hw
        have hz_r_43 := hw
        refine lv_if_eq (tgt := 49) hx hb dX9_partsThatOpen_28 (by decide) (fun c_45 => ?_) (fun c_45 => ?_)
        · skip
          refine lv_iinc (v := (v_34 + 1)) (lv' := [(4, .int (v_34 + 1)), (0, .ref o), (1, .int k), (2, .long v_33)]) hx hb dX9_partsThatOpen_49 hl (k := 3) rfl (z_ofi (by decide +kernel)) (by decide) rfl (fun ls hl => ?_)
          refine lv_goto (tgt := 5) hx hb dX9_partsThatOpen_52 (by decide) ?_
          have hP := hP.sub (ws' := [(o, .inr (9, [.ref h, .int o_held, .int o_places, .ref o_row, .ref o_parts, .ref o_weights])), (h, .inr (2, [.int h_features, .ref h_featureNames, .ref h_steps, .ref h_turnedFeatures, .ref h_sixteenths, .int h_keys, .ref h_keySteps, .int h_lent, .int h_rings, .ref h_on, .ref h_onMany, .int h_doors, .ref h_wanted, .ref h_openers, .ref h_seconds, .int h_turned, .int h_roundMany, .ref h_roundDoors])), (h_openers, .inl (cA.1 0, 5, .inl c_h_openers)), (o_row, .inl (cA.1 0, 10, .inl c_o_row)), (o_parts, .inl (cA.1 1, 20, .inr (.inl c_o_parts)))]) [1, 3, 4, 2, 0] rfl
          have hD := hD.sub (ws' := [(o, .inr (9, [.ref h, .int o_held, .int o_places, .ref o_row, .ref o_parts, .ref o_weights])), (h, .inr (2, [.int h_features, .ref h_featureNames, .ref h_steps, .ref h_turnedFeatures, .ref h_sixteenths, .int h_keys, .ref h_keySteps, .int h_lent, .int h_rings, .ref h_on, .ref h_onMany, .int h_doors, .ref h_wanted, .ref h_openers, .ref h_seconds, .int h_turned, .int h_roundMany, .ref h_roundDoors])), (h_openers, .inl (cA.1 0, 5, .inl c_h_openers)), (o_row, .inl (cA.1 0, 10, .inl c_o_row)), (o_parts, .inl (cA.1 1, 20, .inr (.inl c_o_parts)))]) [1, 3, 4, 2, 0] (by decide) rfl
          exact ih_37 v_33 (v_34 + 1) H locs ls (z_up hmu_hlp_35 (by omega) trivial) (z_upc hi_36 (by omega) trivial) hP hD hS (lv_sub hl [1, 2, 3, 0] rfl)
        · skip
          refine lv_lload_n hx hb dX9_partsThatOpen_31 rfl (lv_at hl 2 rfl) ?_
          refine lv_aload_n hx hb dX9_partsThatOpen_32 rfl (lv_at hl 0 rfl) ?_
          refine lv_iload hx hb dX9_partsThatOpen_33 (lv_at hl 3 rfl) ?_
          refine lv_iconst (v := 0) hx hb dX9_partsThatOpen_35 (by decide) ?_
          refine z_callVl (As := [.int v_34, .int 0]) (rest := [.long v_33]) (wr := [(o_row, .inl (cA.1 0, 10, .inl c_o_row)), (h, .inr (2, [.int h_features, .ref h_featureNames, .ref h_steps, .ref h_turnedFeatures, .ref h_sixteenths, .int h_keys, .ref h_keySteps, .int h_lent, .int h_rings, .ref h_on, .ref h_onMany, .int h_doors, .ref h_wanted, .ref h_openers, .ref h_seconds, .int h_turned, .int h_roundMany, .ref h_roundDoors])), (h_openers, .inl (cA.1 0, 5, .inl c_h_openers))]) ⟨hx, hb, hml, hown, hts⟩ hK hE hT hP hD hS hA (d_Th_partOf l G cA o h o_held o_places o_row o_parts o_weights c_o_parts v_34 0) lk_RX9_98 ⟨rfl, rfl⟩ ⟨Nat.le_of_ble_eq_true rfl, Nat.le_of_ble_eq_true rfl⟩ 9 rfl rfl rfl [1, 0] [2, 3, 4] rfl rfl (by decide) rfl hl.1 rfl (lv_room (Nat.le_of_ble_eq_true rfl)) dX9_partsThatOpen_36 ⟨Nat.le_of_ble_eq_true rfl, Nat.le_of_ble_eq_true rfl⟩ (fun r_48 u_49 H locs hw hP hD hS => ?_)
          have hP : va_P G vwCl [(o_row, .inl (cA.1 0, 10, .inl c_o_row)), (h, .inr (2, [.int h_features, .ref h_featureNames, .ref h_steps, .ref h_turnedFeatures, .ref h_sixteenths, .int h_keys, .ref h_keySteps, .int h_lent, .int h_rings, .ref h_on, .ref h_onMany, .int h_doors, .ref h_wanted, .ref h_openers, .ref h_seconds, .int h_turned, .int h_roundMany, .ref h_roundDoors])), (h_openers, .inl (cA.1 0, 5, .inl c_h_openers)), (o, .inr (9, [.ref h, .int o_held, .int o_places, .ref o_row, .ref o_parts, .ref o_weights])), (o_parts, .inl (cA.1 1, 20, .inr (.inl c_o_parts)))] H := hP
          have hD : va_D A [(o_row, .inl (cA.1 0, 10, .inl c_o_row)), (h, .inr (2, [.int h_features, .ref h_featureNames, .ref h_steps, .ref h_turnedFeatures, .ref h_sixteenths, .int h_keys, .ref h_keySteps, .int h_lent, .int h_rings, .ref h_on, .ref h_onMany, .int h_doors, .ref h_wanted, .ref h_openers, .ref h_seconds, .int h_turned, .int h_roundMany, .ref h_roundDoors])), (h_openers, .inl (cA.1 0, 5, .inl c_h_openers)), (o, .inr (9, [.ref h, .int o_held, .int o_places, .ref o_row, .ref o_parts, .ref o_weights])), (o_parts, .inl (cA.1 1, 20, .inr (.inl c_o_parts)))] := hD
          refine lv_aload_n hx hb dX9_partsThatOpen_39 rfl (lv_at hl 0 rfl) ?_
          refine lv_iload hx hb dX9_partsThatOpen_40 (lv_at hl 3 rfl) ?_
          refine lv_iconst (v := 1) hx hb dX9_partsThatOpen_42 (by decide) ?_
          refine z_callVl (As := [.int v_34, .int 1]) (rest := [.long r_48, .long v_33]) (wr := [(o_row, .inl (cA.1 0, 10, .inl c_o_row)), (h, .inr (2, [.int h_features, .ref h_featureNames, .ref h_steps, .ref h_turnedFeatures, .ref h_sixteenths, .int h_keys, .ref h_keySteps, .int h_lent, .int h_rings, .ref h_on, .ref h_onMany, .int h_doors, .ref h_wanted, .ref h_openers, .ref h_seconds, .int h_turned, .int h_roundMany, .ref h_roundDoors])), (h_openers, .inl (cA.1 0, 5, .inl c_h_openers))]) ⟨hx, hb, hml, hown, hts⟩ hK hE hT hP hD hS hA (d_Th_partOf l G cA o h o_held o_places o_row o_parts o_weights c_o_parts v_34 1) lk_RX9_98 ⟨rfl, rfl⟩ ⟨Nat.le_of_ble_eq_true rfl, Nat.le_of_ble_eq_true rfl⟩ 9 rfl rfl rfl [3, 4] [0, 1, 2] rfl rfl (by decide) rfl hl.1 rfl (lv_room (Nat.le_of_ble_eq_true rfl)) dX9_partsThatOpen_43 ⟨Nat.le_of_ble_eq_true rfl, Nat.le_of_ble_eq_true rfl⟩ (fun r_50 u_51 H locs hw hP hD hS => ?_)
          have hP : va_P G vwCl [(o_row, .inl (cA.1 0, 10, .inl c_o_row)), (h, .inr (2, [.int h_features, .ref h_featureNames, .ref h_steps, .ref h_turnedFeatures, .ref h_sixteenths, .int h_keys, .ref h_keySteps, .int h_lent, .int h_rings, .ref h_on, .ref h_onMany, .int h_doors, .ref h_wanted, .ref h_openers, .ref h_seconds, .int h_turned, .int h_roundMany, .ref h_roundDoors])), (h_openers, .inl (cA.1 0, 5, .inl c_h_openers)), (o, .inr (9, [.ref h, .int o_held, .int o_places, .ref o_row, .ref o_parts, .ref o_weights])), (o_parts, .inl (cA.1 1, 20, .inr (.inl c_o_parts)))] H := hP
          have hD : va_D A [(o_row, .inl (cA.1 0, 10, .inl c_o_row)), (h, .inr (2, [.int h_features, .ref h_featureNames, .ref h_steps, .ref h_turnedFeatures, .ref h_sixteenths, .int h_keys, .ref h_keySteps, .int h_lent, .int h_rings, .ref h_on, .ref h_onMany, .int h_doors, .ref h_wanted, .ref h_openers, .ref h_seconds, .int h_turned, .int h_roundMany, .ref h_roundDoors])), (h_openers, .inl (cA.1 0, 5, .inl c_h_openers)), (o, .inr (9, [.ref h, .int o_held, .int o_places, .ref o_row, .ref o_parts, .ref o_weights])), (o_parts, .inl (cA.1 1, 20, .inr (.inl c_o_parts)))] := hD
          refine lv_ladd hx hb dX9_partsThatOpen_46 ?_
          refine lv_topl (fun x_52 _ => ?_)
          refine lv_ladd hx hb dX9_partsThatOpen_47 ?_
          refine lv_topl (fun x_53 _ => ?_)
          refine lv_lstore_n (lv' := [(2, .long x_53), (0, .ref o), (1, .int k), (4, .int v_34)]) hx hb dX9_partsThatOpen_48 rfl hl (by decide) rfl (fun ls hl => ?_)
          refine lv_iinc (v := (v_34 + 1)) (lv' := [(4, .int (v_34 + 1)), (2, .long x_53), (0, .ref o), (1, .int k)]) hx hb dX9_partsThatOpen_49 hl (k := 3) rfl (z_ofi (by decide +kernel)) (by decide) rfl (fun ls hl => ?_)
          refine lv_goto (tgt := 5) hx hb dX9_partsThatOpen_52 (by decide) ?_
          have hP := hP.sub (ws' := [(o, .inr (9, [.ref h, .int o_held, .int o_places, .ref o_row, .ref o_parts, .ref o_weights])), (h, .inr (2, [.int h_features, .ref h_featureNames, .ref h_steps, .ref h_turnedFeatures, .ref h_sixteenths, .int h_keys, .ref h_keySteps, .int h_lent, .int h_rings, .ref h_on, .ref h_onMany, .int h_doors, .ref h_wanted, .ref h_openers, .ref h_seconds, .int h_turned, .int h_roundMany, .ref h_roundDoors])), (h_openers, .inl (cA.1 0, 5, .inl c_h_openers)), (o_row, .inl (cA.1 0, 10, .inl c_o_row)), (o_parts, .inl (cA.1 1, 20, .inr (.inl c_o_parts)))]) [3, 1, 2, 0, 4] rfl
          have hD := hD.sub (ws' := [(o, .inr (9, [.ref h, .int o_held, .int o_places, .ref o_row, .ref o_parts, .ref o_weights])), (h, .inr (2, [.int h_features, .ref h_featureNames, .ref h_steps, .ref h_turnedFeatures, .ref h_sixteenths, .int h_keys, .ref h_keySteps, .int h_lent, .int h_rings, .ref h_on, .ref h_onMany, .int h_doors, .ref h_wanted, .ref h_openers, .ref h_seconds, .int h_turned, .int h_roundMany, .ref h_roundDoors])), (h_openers, .inl (cA.1 0, 5, .inl c_h_openers)), (o_row, .inl (cA.1 0, 10, .inl c_o_row)), (o_parts, .inl (cA.1 1, 20, .inr (.inl c_o_parts)))]) [3, 1, 2, 0, 4] (by decide) rfl
          exact ih_37 x_53 (v_34 + 1) H locs ls (z_up hmu_hlp_35 (by omega) trivial) (z_upc hi_36 (by omega) trivial) hP hD hS (lv_sub hl [2, 3, 1, 0] rfl)
  exact hlp_35 _ 0 0 _ _ _ (Nat.lt_succ_self _) (by first | decide +kernel | omega) hP hD hS (lv_sub hl [2, 3, 1, 0] rfl)
set_option maxHeartbeats 4000000 in
set_option maxRecDepth 100000 in
theorem d_Th_moved_o (l : Launch) (G : va_G) (cA : zCA) (o_parts : Nat) (c_o_parts : Nat → Int64) (o_weights : Nat) (c_o_weights : Nat → Int64) (i1 : Int32) : zCv l yX9_moved cX9_moved 7 none ({ frames := 2, cells := 0, slots := 0, locals := 43 }) G cA [.ref o_parts, .int 0, .ref o_weights, .int 0, .int i1] [(o_parts, .inl (cA.1 1, 20, .inr (.inl c_o_parts))), (o_weights, .inl (cA.1 1, 20, .inr (.inl c_o_weights)))] (S := (Nat → Int64)) (fun (u : (Nat → Int64)) => True) (fun (u : (Nat → Int64)) => [(o_parts, .inl (cA.1 1, 20, .inr (.inl c_o_parts))), (o_weights, .inl (cA.1 1, 20, .inr (.inl u)))]) 0 0 := by
  refine z_start2v (own := RX9) (by decide) (Nat.le_of_ble_eq_true rfl) rfl ?_
  intro p e s m args below meth c A ls Q hx hb hml hts hown hK hE hT hP hD hS hA hl hret
  have hl : lv_has ls 7 [(0, .ref o_parts), (1, .int 0), (2, .ref o_weights), (3, .int 0), (4, .int i1)] := hl
  refine lv_iconst (v := 0) hx hb dX9_moved_0 (by decide) ?_
  refine lv_istore (lv' := [(5, .int 0), (0, .ref o_parts), (1, .int 0), (2, .ref o_weights), (3, .int 0), (4, .int i1)]) hx hb dX9_moved_1 hl (by decide) rfl (fun ls hl => ?_)
  have hlp_45 : ∀ (n : Nat) (v_43 : Int32) (g_44 : Nat → Int64) (H : Heap) (locs : List Loc) (ls : Array Slot), (2147483647 - v_43.toInt).toNat < n → (0 ≤ v_43.toInt) → va_P G vwCl [(o_parts, .inl (cA.1 1, 20, .inr (.inl c_o_parts))), (o_weights, .inl (cA.1 1, 20, .inr (.inl g_44)))] H → va_D A [(o_parts, .inl (cA.1 1, 20, .inr (.inl c_o_parts))), (o_weights, .inl (cA.1 1, 20, .inr (.inl g_44)))] → va_S A s.heap H locs → lv_has ls 7 [(0, .ref o_parts), (1, .int 0), (2, .ref o_weights), (3, .int 0), (4, .int i1), (5, .int v_43)] → W p l e ({ frames := 2, cells := 0, slots := 0, locals := 43 }) s m args below meth c H locs 0 0 Q (F0 m 3 ls []) := by
    intro n
    induction n with
    | zero =>
      intro v_43 g_44 H locs ls hmu_hlp_45 hi_46 hP hD hS hl
      exact absurd hmu_hlp_45 (Nat.not_lt_zero _)
    | succ n ih_47 =>
      intro v_43 g_44 H locs ls hmu_hlp_45 hi_46 hP hD hS hl
      refine lv_iload hx hb dX9_moved_3 (lv_at hl 5 rfl) ?_
      refine lv_iload hx hb dX9_moved_5 (lv_at hl 4 rfl) ?_
      refine lv_icmp_ge (tgt := 71) hx hb dX9_moved_7 (by decide) (fun c_48 => ?_) (fun c_48 => ?_)
      · have b_49 := z_s1 c_48
        exact hret _ _ _ _ _ g_44 [0, 1] hP hD hS rfl (by decide) dX9_moved_71 trivial
      · have b_50 := z_t2 c_48
        refine lv_iload hx hb dX9_moved_10 (lv_at hl 5 rfl) ?_
        refine lv_iconst (v := 1) hx hb dX9_moved_12 (by decide) ?_
        refine lv_iadd hx hb dX9_moved_13 ?_
        refine lv_iload hx hb dX9_moved_14 (lv_at hl 4 rfl) ?_
        refine z_callSNi (As := [.int (v_43 + 1), .int i1]) (rest := []) (wr := [(o_parts, .inl (cA.1 1, 20, .inr (.inl c_o_parts))), (o_weights, .inl (cA.1 1, 20, .inr (.inl g_44)))]) ⟨hx, hb, hml, hown, hts⟩ hK hE hT hP hD hS hA (d_Da_inRing l G cA (v_43 + 1) i1) lk_RX9_91 ⟨rfl, rfl⟩ ⟨Nat.le_of_ble_eq_true rfl, Nat.le_of_ble_eq_true rfl⟩ [] [0, 1] rfl rfl (by decide) rfl hl.1 rfl (lv_room (Nat.le_of_ble_eq_true rfl)) dX9_moved_16 ⟨Nat.le_of_ble_eq_true rfl, Nat.le_of_ble_eq_true rfl⟩ (fun r_51 u_52 H locs hw hP hD hS => ?_)
        have hP : va_P G vwCl [(o_parts, .inl (cA.1 1, 20, .inr (.inl c_o_parts))), (o_weights, .inl (cA.1 1, 20, .inr (.inl g_44)))] H := hP
        have hD : va_D A [(o_parts, .inl (cA.1 1, 20, .inr (.inl c_o_parts))), (o_weights, .inl (cA.1 1, 20, .inr (.inl g_44)))] := hD
        obtain ⟨he_r_51, hw⟩ := hw
        refine lv_istore (lv' := [(6, .int r_51), (0, .ref o_parts), (1, .int 0), (2, .ref o_weights), (3, .int 0), (4, .int i1), (5, .int v_43)]) hx hb dX9_moved_19 hl (by decide) rfl (fun ls hl => ?_)
        refine lv_aload_n hx hb dX9_moved_21 rfl (lv_at hl 3 rfl) ?_
        refine lv_iload_n hx hb dX9_moved_22 rfl (lv_at hl 4 rfl) ?_
        refine lv_iconst (v := 2) hx hb dX9_moved_23 (by decide) ?_
        refine lv_iload hx hb dX9_moved_24 (lv_at hl 0 rfl) ?_
        refine lv_imul hx hb dX9_moved_26 ?_
        refine lv_topi (fun x_53 _ => ?_)
        refine lv_iadd hx hb dX9_moved_27 ?_
        refine lv_topi (fun x_54 _ => ?_)
        refine lv_aload_n hx hb dX9_moved_28 rfl (lv_at hl 1 rfl) ?_
        refine lv_iload_n hx hb dX9_moved_29 rfl (lv_at hl 2 rfl) ?_
        refine lv_iconst (v := 2) hx hb dX9_moved_30 (by decide) ?_
        refine lv_iload hx hb dX9_moved_31 (lv_at hl 6 rfl) ?_
        refine lv_imul hx hb dX9_moved_33 ?_
        refine lv_topi (fun x_55 _ => ?_)
        refine lv_iadd hx hb dX9_moved_34 ?_
        refine lv_topi (fun x_56 _ => ?_)
        refine z_callSNl (As := [.ref o_parts, .int x_56]) (rest := [.int x_54, .ref o_weights]) (wr := [(o_weights, .inl (cA.1 1, 20, .inr (.inl g_44)))]) ⟨hx, hb, hml, hown, hts⟩ hK hE hT hP hD hS hA (d_longAt_20 l G cA o_parts c_o_parts x_56) lk_RX9_65 ⟨rfl, rfl⟩ ⟨Nat.le_of_ble_eq_true rfl, Nat.le_of_ble_eq_true rfl⟩ [0] [1] rfl rfl (by decide) rfl hl.1 rfl (lv_room (Nat.le_of_ble_eq_true rfl)) dX9_moved_35 ⟨Nat.le_of_ble_eq_true rfl, Nat.le_of_ble_eq_true rfl⟩ (fun r_57 u_58 H locs hw hP hD hS => ?_)
        have hP : va_P G vwCl [(o_weights, .inl (cA.1 1, 20, .inr (.inl g_44))), (o_parts, .inl (cA.1 1, 20, .inr (.inl c_o_parts)))] H := hP
        have hD : va_D A [(o_weights, .inl (cA.1 1, 20, .inr (.inl g_44))), (o_parts, .inl (cA.1 1, 20, .inr (.inl c_o_parts)))] := hD
        obtain ⟨he_r_57, hw⟩ := hw
        refine z_callSNv (As := [.ref o_weights, .int x_54, .long r_57]) (rest := []) (wr := [(o_parts, .inl (cA.1 1, 20, .inr (.inl c_o_parts)))]) ⟨hx, hb, hml, hown, hts⟩ hK hE hT hP hD hS hA (d_keepLongAt_20 l G cA o_weights g_44 x_54 r_57) lk_RX9_94 ⟨rfl, rfl⟩ ⟨Nat.le_of_ble_eq_true rfl, Nat.le_of_ble_eq_true rfl⟩ [0] [1] rfl rfl (by decide) rfl hl.1 rfl (lv_room (Nat.le_of_ble_eq_true rfl)) dX9_moved_38 ⟨Nat.le_of_ble_eq_true rfl, Nat.le_of_ble_eq_true rfl⟩ (fun u_61 H locs hw hP hD hS => ?_)
        obtain ⟨nw0_59, rfl⟩ : ∃ z, z = u_61 := ⟨_, rfl⟩
        have hP : va_P G vwCl [(o_parts, .inl (cA.1 1, 20, .inr (.inl c_o_parts))), (o_weights, .inl (cA.1 1, 20, .inr (.inl nw0_59)))] H := hP
        have hD : va_D A [(o_parts, .inl (cA.1 1, 20, .inr (.inl c_o_parts))), (o_weights, .inl (cA.1 1, 20, .inr (.inl nw0_59)))] := hD
        obtain ⟨he_nw0_59, hw⟩ := hw
        refine lv_aload_n hx hb dX9_moved_41 rfl (lv_at hl 3 rfl) ?_
        refine lv_iload_n hx hb dX9_moved_42 rfl (lv_at hl 4 rfl) ?_
        refine lv_iconst (v := 2) hx hb dX9_moved_43 (by decide) ?_
        refine lv_iload hx hb dX9_moved_44 (lv_at hl 6 rfl) ?_
        refine lv_imul hx hb dX9_moved_46 ?_
        refine lv_topi (fun x_62 _ => ?_)
        refine lv_iadd hx hb dX9_moved_47 ?_
        refine lv_topi (fun x_63 _ => ?_)
        refine lv_iconst (v := 1) hx hb dX9_moved_48 (by decide) ?_
        refine lv_iadd hx hb dX9_moved_49 ?_
        refine lv_aload_n hx hb dX9_moved_50 rfl (lv_at hl 1 rfl) ?_
        refine lv_iload_n hx hb dX9_moved_51 rfl (lv_at hl 2 rfl) ?_
        refine lv_iconst (v := 2) hx hb dX9_moved_52 (by decide) ?_
        refine lv_iload hx hb dX9_moved_53 (lv_at hl 0 rfl) ?_
        refine lv_imul hx hb dX9_moved_55 ?_
        refine lv_topi (fun x_64 _ => ?_)
        refine lv_iadd hx hb dX9_moved_56 ?_
        refine lv_topi (fun x_65 _ => ?_)
        refine lv_iconst (v := 1) hx hb dX9_moved_57 (by decide) ?_
        refine lv_iadd hx hb dX9_moved_58 ?_
        refine z_callSNl (As := [.ref o_parts, .int (x_65 + 1)]) (rest := [.int (x_63 + 1), .ref o_weights]) (wr := [(o_weights, .inl (cA.1 1, 20, .inr (.inl nw0_59)))]) ⟨hx, hb, hml, hown, hts⟩ hK hE hT hP hD hS hA (d_longAt_20 l G cA o_parts c_o_parts (x_65 + 1)) lk_RX9_65 ⟨rfl, rfl⟩ ⟨Nat.le_of_ble_eq_true rfl, Nat.le_of_ble_eq_true rfl⟩ [0] [1] rfl rfl (by decide) rfl hl.1 rfl (lv_room (Nat.le_of_ble_eq_true rfl)) dX9_moved_59 ⟨Nat.le_of_ble_eq_true rfl, Nat.le_of_ble_eq_true rfl⟩ (fun r_66 u_67 H locs hw hP hD hS => ?_)
        have hP : va_P G vwCl [(o_weights, .inl (cA.1 1, 20, .inr (.inl nw0_59))), (o_parts, .inl (cA.1 1, 20, .inr (.inl c_o_parts)))] H := hP
        have hD : va_D A [(o_weights, .inl (cA.1 1, 20, .inr (.inl nw0_59))), (o_parts, .inl (cA.1 1, 20, .inr (.inl c_o_parts)))] := hD
        obtain ⟨he_r_66, hw⟩ := hw
        refine z_callSNv (As := [.ref o_weights, .int (x_63 + 1), .long r_66]) (rest := []) (wr := [(o_parts, .inl (cA.1 1, 20, .inr (.inl c_o_parts)))]) ⟨hx, hb, hml, hown, hts⟩ hK hE hT hP hD hS hA (d_keepLongAt_20 l G cA o_weights nw0_59 (x_63 + 1) r_66) lk_RX9_94 ⟨rfl, rfl⟩ ⟨Nat.le_of_ble_eq_true rfl, Nat.le_of_ble_eq_true rfl⟩ [0] [1] rfl rfl (by decide) rfl hl.1 rfl (lv_room (Nat.le_of_ble_eq_true rfl)) dX9_moved_62 ⟨Nat.le_of_ble_eq_true rfl, Nat.le_of_ble_eq_true rfl⟩ (fun u_70 H locs hw hP hD hS => ?_)
        obtain ⟨nw0_68, rfl⟩ : ∃ z, z = u_70 := ⟨_, rfl⟩
        have hP : va_P G vwCl [(o_parts, .inl (cA.1 1, 20, .inr (.inl c_o_parts))), (o_weights, .inl (cA.1 1, 20, .inr (.inl nw0_68)))] H := hP
        have hD : va_D A [(o_parts, .inl (cA.1 1, 20, .inr (.inl c_o_parts))), (o_weights, .inl (cA.1 1, 20, .inr (.inl nw0_68)))] := hD
        obtain ⟨he_nw0_68, hw⟩ := hw
        refine lv_iinc (v := (v_43 + 1)) (lv' := [(5, .int (v_43 + 1)), (6, .int r_51), (0, .ref o_parts), (1, .int 0), (2, .ref o_weights), (3, .int 0), (4, .int i1)]) hx hb dX9_moved_65 hl (k := 6) rfl (z_ofi (by decide +kernel)) (by decide) rfl (fun ls hl => ?_)
        refine lv_goto (tgt := 3) hx hb dX9_moved_68 (by decide) ?_
        exact ih_47 (v_43 + 1) nw0_68 H locs ls (z_up hmu_hlp_45 (by omega) trivial) (z_upc hi_46 (by omega) trivial) hP hD hS (lv_sub hl [2, 3, 4, 5, 6, 0] rfl)
  exact hlp_45 _ 0 c_o_weights _ _ _ (Nat.lt_succ_self _) (by first | decide +kernel | omega) hP hD hS (lv_sub hl [1, 2, 3, 4, 5, 0] rfl)
set_option maxHeartbeats 4000000 in
set_option maxRecDepth 100000 in
theorem d_Th_moved_ac (l : Launch) (G : va_G) (cA : zCA) (ac_w : Nat) (c_ac_w : Nat → Int64) (i2 : Int32) (k : Int32) (i1 : Int32) : zCv l yX9_moved cX9_moved 7 none ({ frames := 2, cells := 0, slots := 0, locals := 43 }) G cA [.ref ac_w, .int i2, .ref ac_w, .int k, .int i1] [(ac_w, .inl (cA.1 1, 100, .inr (.inl c_ac_w)))] (S := (Nat → Int64)) (fun (u : (Nat → Int64)) => True) (fun (u : (Nat → Int64)) => [(ac_w, .inl (cA.1 1, 100, .inr (.inl u)))]) 0 0 := by
  refine z_start2v (own := RX9) (by decide) (Nat.le_of_ble_eq_true rfl) rfl ?_
  intro p e s m args below meth c A ls Q hx hb hml hts hown hK hE hT hP hD hS hA hl hret
  have hl : lv_has ls 7 [(0, .ref ac_w), (1, .int i2), (2, .ref ac_w), (3, .int k), (4, .int i1)] := hl
  refine lv_iconst (v := 0) hx hb dX9_moved_0 (by decide) ?_
  refine lv_istore (lv' := [(5, .int 0), (0, .ref ac_w), (1, .int i2), (2, .ref ac_w), (3, .int k), (4, .int i1)]) hx hb dX9_moved_1 hl (by decide) rfl (fun ls hl => ?_)
  have hlp_46 : ∀ (n : Nat) (v_44 : Int32) (g_45 : Nat → Int64) (H : Heap) (locs : List Loc) (ls : Array Slot), (2147483647 - v_44.toInt).toNat < n → (0 ≤ v_44.toInt) → va_P G vwCl [(ac_w, .inl (cA.1 1, 100, .inr (.inl g_45)))] H → va_D A [(ac_w, .inl (cA.1 1, 100, .inr (.inl g_45)))] → va_S A s.heap H locs → lv_has ls 7 [(0, .ref ac_w), (1, .int i2), (2, .ref ac_w), (3, .int k), (4, .int i1), (5, .int v_44)] → W p l e ({ frames := 2, cells := 0, slots := 0, locals := 43 }) s m args below meth c H locs 0 0 Q (F0 m 3 ls []) := by
    intro n
    induction n with
    | zero =>
      intro v_44 g_45 H locs ls hmu_hlp_46 hi_47 hP hD hS hl
      exact absurd hmu_hlp_46 (Nat.not_lt_zero _)
    | succ n ih_48 =>
      intro v_44 g_45 H locs ls hmu_hlp_46 hi_47 hP hD hS hl
      refine lv_iload hx hb dX9_moved_3 (lv_at hl 5 rfl) ?_
      refine lv_iload hx hb dX9_moved_5 (lv_at hl 4 rfl) ?_
      refine lv_icmp_ge (tgt := 71) hx hb dX9_moved_7 (by decide) (fun c_49 => ?_) (fun c_49 => ?_)
      · have b_50 := z_s1 c_49
        exact hret _ _ _ _ _ g_45 [0] hP hD hS rfl (by decide) dX9_moved_71 trivial
      · have b_51 := z_t2 c_49
        refine lv_iload hx hb dX9_moved_10 (lv_at hl 5 rfl) ?_
        refine lv_iconst (v := 1) hx hb dX9_moved_12 (by decide) ?_
        refine lv_iadd hx hb dX9_moved_13 ?_
        refine lv_iload hx hb dX9_moved_14 (lv_at hl 4 rfl) ?_
        refine z_callSNi (As := [.int (v_44 + 1), .int i1]) (rest := []) (wr := [(ac_w, .inl (cA.1 1, 100, .inr (.inl g_45)))]) ⟨hx, hb, hml, hown, hts⟩ hK hE hT hP hD hS hA (d_Da_inRing l G cA (v_44 + 1) i1) lk_RX9_91 ⟨rfl, rfl⟩ ⟨Nat.le_of_ble_eq_true rfl, Nat.le_of_ble_eq_true rfl⟩ [] [0] rfl rfl (by decide) rfl hl.1 rfl (lv_room (Nat.le_of_ble_eq_true rfl)) dX9_moved_16 ⟨Nat.le_of_ble_eq_true rfl, Nat.le_of_ble_eq_true rfl⟩ (fun r_52 u_53 H locs hw hP hD hS => ?_)
        have hP : va_P G vwCl [(ac_w, .inl (cA.1 1, 100, .inr (.inl g_45)))] H := hP
        have hD : va_D A [(ac_w, .inl (cA.1 1, 100, .inr (.inl g_45)))] := hD
        obtain ⟨he_r_52, hw⟩ := hw
        refine lv_istore (lv' := [(6, .int r_52), (0, .ref ac_w), (1, .int i2), (2, .ref ac_w), (3, .int k), (4, .int i1), (5, .int v_44)]) hx hb dX9_moved_19 hl (by decide) rfl (fun ls hl => ?_)
        refine lv_aload_n hx hb dX9_moved_21 rfl (lv_at hl 3 rfl) ?_
        refine lv_iload_n hx hb dX9_moved_22 rfl (lv_at hl 4 rfl) ?_
        refine lv_iconst (v := 2) hx hb dX9_moved_23 (by decide) ?_
        refine lv_iload hx hb dX9_moved_24 (lv_at hl 0 rfl) ?_
        refine lv_imul hx hb dX9_moved_26 ?_
        refine lv_topi (fun x_54 _ => ?_)
        refine lv_iadd hx hb dX9_moved_27 ?_
        refine lv_topi (fun x_55 _ => ?_)
        refine lv_aload_n hx hb dX9_moved_28 rfl (lv_at hl 1 rfl) ?_
        refine lv_iload_n hx hb dX9_moved_29 rfl (lv_at hl 2 rfl) ?_
        refine lv_iconst (v := 2) hx hb dX9_moved_30 (by decide) ?_
        refine lv_iload hx hb dX9_moved_31 (lv_at hl 6 rfl) ?_
        refine lv_imul hx hb dX9_moved_33 ?_
        refine lv_topi (fun x_56 _ => ?_)
        refine lv_iadd hx hb dX9_moved_34 ?_
        refine lv_topi (fun x_57 _ => ?_)
        refine z_callSNl (As := [.ref ac_w, .int x_57]) (rest := [.int x_55, .ref ac_w]) (wr := []) ⟨hx, hb, hml, hown, hts⟩ hK hE hT hP hD hS hA (d_longAt_100 l G cA ac_w g_45 x_57) lk_RX9_65 ⟨rfl, rfl⟩ ⟨Nat.le_of_ble_eq_true rfl, Nat.le_of_ble_eq_true rfl⟩ [0] [] rfl rfl (by decide) rfl hl.1 rfl (lv_room (Nat.le_of_ble_eq_true rfl)) dX9_moved_35 ⟨Nat.le_of_ble_eq_true rfl, Nat.le_of_ble_eq_true rfl⟩ (fun r_58 u_59 H locs hw hP hD hS => ?_)
        have hP : va_P G vwCl [(ac_w, .inl (cA.1 1, 100, .inr (.inl g_45)))] H := hP
        have hD : va_D A [(ac_w, .inl (cA.1 1, 100, .inr (.inl g_45)))] := hD
        obtain ⟨he_r_58, hw⟩ := hw
        refine z_callSNv (As := [.ref ac_w, .int x_55, .long r_58]) (rest := []) (wr := []) ⟨hx, hb, hml, hown, hts⟩ hK hE hT hP hD hS hA (d_keepLongAt_100 l G cA ac_w g_45 x_55 r_58) lk_RX9_94 ⟨rfl, rfl⟩ ⟨Nat.le_of_ble_eq_true rfl, Nat.le_of_ble_eq_true rfl⟩ [0] [] rfl rfl (by decide) rfl hl.1 rfl (lv_room (Nat.le_of_ble_eq_true rfl)) dX9_moved_38 ⟨Nat.le_of_ble_eq_true rfl, Nat.le_of_ble_eq_true rfl⟩ (fun u_62 H locs hw hP hD hS => ?_)
        obtain ⟨nw0_60, rfl⟩ : ∃ z, z = u_62 := ⟨_, rfl⟩
        have hP : va_P G vwCl [(ac_w, .inl (cA.1 1, 100, .inr (.inl nw0_60)))] H := hP
        have hD : va_D A [(ac_w, .inl (cA.1 1, 100, .inr (.inl nw0_60)))] := hD
        obtain ⟨he_nw0_60, hw⟩ := hw
        refine lv_aload_n hx hb dX9_moved_41 rfl (lv_at hl 3 rfl) ?_
        refine lv_iload_n hx hb dX9_moved_42 rfl (lv_at hl 4 rfl) ?_
        refine lv_iconst (v := 2) hx hb dX9_moved_43 (by decide) ?_
        refine lv_iload hx hb dX9_moved_44 (lv_at hl 6 rfl) ?_
        refine lv_imul hx hb dX9_moved_46 ?_
        refine lv_topi (fun x_63 _ => ?_)
        refine lv_iadd hx hb dX9_moved_47 ?_
        refine lv_topi (fun x_64 _ => ?_)
        refine lv_iconst (v := 1) hx hb dX9_moved_48 (by decide) ?_
        refine lv_iadd hx hb dX9_moved_49 ?_
        refine lv_aload_n hx hb dX9_moved_50 rfl (lv_at hl 1 rfl) ?_
        refine lv_iload_n hx hb dX9_moved_51 rfl (lv_at hl 2 rfl) ?_
        refine lv_iconst (v := 2) hx hb dX9_moved_52 (by decide) ?_
        refine lv_iload hx hb dX9_moved_53 (lv_at hl 0 rfl) ?_
        refine lv_imul hx hb dX9_moved_55 ?_
        refine lv_topi (fun x_65 _ => ?_)
        refine lv_iadd hx hb dX9_moved_56 ?_
        refine lv_topi (fun x_66 _ => ?_)
        refine lv_iconst (v := 1) hx hb dX9_moved_57 (by decide) ?_
        refine lv_iadd hx hb dX9_moved_58 ?_
        refine z_callSNl (As := [.ref ac_w, .int (x_66 + 1)]) (rest := [.int (x_64 + 1), .ref ac_w]) (wr := []) ⟨hx, hb, hml, hown, hts⟩ hK hE hT hP hD hS hA (d_longAt_100 l G cA ac_w nw0_60 (x_66 + 1)) lk_RX9_65 ⟨rfl, rfl⟩ ⟨Nat.le_of_ble_eq_true rfl, Nat.le_of_ble_eq_true rfl⟩ [0] [] rfl rfl (by decide) rfl hl.1 rfl (lv_room (Nat.le_of_ble_eq_true rfl)) dX9_moved_59 ⟨Nat.le_of_ble_eq_true rfl, Nat.le_of_ble_eq_true rfl⟩ (fun r_67 u_68 H locs hw hP hD hS => ?_)
        have hP : va_P G vwCl [(ac_w, .inl (cA.1 1, 100, .inr (.inl nw0_60)))] H := hP
        have hD : va_D A [(ac_w, .inl (cA.1 1, 100, .inr (.inl nw0_60)))] := hD
        obtain ⟨he_r_67, hw⟩ := hw
        refine z_callSNv (As := [.ref ac_w, .int (x_64 + 1), .long r_67]) (rest := []) (wr := []) ⟨hx, hb, hml, hown, hts⟩ hK hE hT hP hD hS hA (d_keepLongAt_100 l G cA ac_w nw0_60 (x_64 + 1) r_67) lk_RX9_94 ⟨rfl, rfl⟩ ⟨Nat.le_of_ble_eq_true rfl, Nat.le_of_ble_eq_true rfl⟩ [0] [] rfl rfl (by decide) rfl hl.1 rfl (lv_room (Nat.le_of_ble_eq_true rfl)) dX9_moved_62 ⟨Nat.le_of_ble_eq_true rfl, Nat.le_of_ble_eq_true rfl⟩ (fun u_71 H locs hw hP hD hS => ?_)
        obtain ⟨nw0_69, rfl⟩ : ∃ z, z = u_71 := ⟨_, rfl⟩
        have hP : va_P G vwCl [(ac_w, .inl (cA.1 1, 100, .inr (.inl nw0_69)))] H := hP
        have hD : va_D A [(ac_w, .inl (cA.1 1, 100, .inr (.inl nw0_69)))] := hD
        obtain ⟨he_nw0_69, hw⟩ := hw
        refine lv_iinc (v := (v_44 + 1)) (lv' := [(5, .int (v_44 + 1)), (6, .int r_52), (0, .ref ac_w), (1, .int i2), (2, .ref ac_w), (3, .int k), (4, .int i1)]) hx hb dX9_moved_65 hl (k := 6) rfl (z_ofi (by decide +kernel)) (by decide) rfl (fun ls hl => ?_)
        refine lv_goto (tgt := 3) hx hb dX9_moved_68 (by decide) ?_
        exact ih_48 (v_44 + 1) nw0_69 H locs ls (z_up hmu_hlp_46 (by omega) trivial) (z_upc hi_47 (by omega) trivial) hP hD hS (lv_sub hl [2, 3, 4, 5, 6, 0] rfl)
  exact hlp_46 _ 0 c_ac_w _ _ _ (Nat.lt_succ_self _) (by first | decide +kernel | omega) hP hD hS (lv_sub hl [1, 2, 3, 4, 5, 0] rfl)
set_option maxHeartbeats 4000000 in
set_option maxRecDepth 100000 in
theorem d_Th_moveOn (l : Launch) (G : va_G) (cA : zCA) (o : Nat) (h : Nat) (o_held : Int32) (o_places : Int32) (o_row : Nat) (o_parts : Nat) (o_weights : Nat) (c_o_parts : Nat → Int64) (c_o_weights : Nat → Int64) : zCv l yX9_moveOn cX9_moveOn 1 none ({ frames := 3, cells := 0, slots := 0, locals := 80 }) G cA [.ref o] [(o, .inr (9, [.ref h, .int o_held, .int o_places, .ref o_row, .ref o_parts, .ref o_weights])), (o_parts, .inl (cA.1 1, 20, .inr (.inl c_o_parts))), (o_weights, .inl (cA.1 1, 20, .inr (.inl c_o_weights)))] (S := (Nat → Int64) × (Nat → Int64)) (fun (u : (Nat → Int64) × (Nat → Int64)) => True) (fun (u : (Nat → Int64) × (Nat → Int64)) => [(o, .inr (9, [.ref h, .int o_held, .int o_places, .ref o_row, .ref o_parts, .ref o_weights])), (o_parts, .inl (cA.1 1, 20, .inr (.inl u.1))), (o_weights, .inl (cA.1 1, 20, .inr (.inl u.2)))]) 0 0 := by
  refine z_start2v (own := RX9) (by decide) (Nat.le_of_ble_eq_true rfl) rfl ?_
  intro p e s m args below meth c A ls Q hx hb hml hts hown hK hE hT hP hD hS hA hl hret
  have hl : lv_has ls 1 [(0, .ref o)] := hl
  refine lv_aload_n hx hb dX9_moveOn_0 rfl (lv_at hl 0 rfl) ?_
  refine va_get (D := G) (ci := 9) (v := .ref o_parts) (C := RX9) (T := TX9) (N := 6) hx hb hts inT9 hown hK hP 0 rfl rfl 4 (by decide) (hts _ tw_357) (fun _ h9 => h9) rfl dX9_moveOn_1 ?_
  refine lv_iconst (v := 0) hx hb dX9_moveOn_4 (by decide) ?_
  refine lv_aload_n hx hb dX9_moveOn_5 rfl (lv_at hl 0 rfl) ?_
  refine va_get (D := G) (ci := 9) (v := .ref o_weights) (C := RX9) (T := TX9) (N := 6) hx hb hts inT9 hown hK hP 0 rfl rfl 5 (by decide) (hts _ tw_358) (fun _ h9 => h9) rfl dX9_moveOn_6 ?_
  refine lv_iconst (v := 0) hx hb dX9_moveOn_9 (by decide) ?_
  refine lv_aload_n hx hb dX9_moveOn_10 rfl (lv_at hl 0 rfl) ?_
  refine va_get (D := G) (ci := 9) (v := .int o_places) (C := RX9) (T := TX9) (N := 6) hx hb hts inT9 hown hK hP 0 rfl rfl 2 (by decide) (hts _ tw_352) (fun _ h9 => h9) rfl dX9_moveOn_11 ?_
  refine z_callSv (As := [.ref o_parts, .int 0, .ref o_weights, .int 0, .int o_places]) (rest := []) (wr := [(o, .inr (9, [.ref h, .int o_held, .int o_places, .ref o_row, .ref o_parts, .ref o_weights]))]) ⟨hx, hb, hml, hown, hts⟩ hK hE hT hP hD hS hA (d_Th_moved_o l G cA o_parts c_o_parts o_weights c_o_weights o_places) lk_RX9_87 ⟨rfl, rfl⟩ ⟨Nat.le_of_ble_eq_true rfl, Nat.le_of_ble_eq_true rfl⟩ [1, 2] [0] rfl rfl (by decide) rfl hl.1 rfl (lv_room (Nat.le_of_ble_eq_true rfl)) dX9_moveOn_14 ⟨Nat.le_of_ble_eq_true rfl, Nat.le_of_ble_eq_true rfl⟩ (fun u_3 H locs hw hP hD hS => ?_)
  obtain ⟨nw0_1, rfl⟩ : ∃ z, z = u_3 := ⟨_, rfl⟩
  have hP : va_P G vwCl [(o, .inr (9, [.ref h, .int o_held, .int o_places, .ref o_row, .ref o_parts, .ref o_weights])), (o_parts, .inl (cA.1 1, 20, .inr (.inl c_o_parts))), (o_weights, .inl (cA.1 1, 20, .inr (.inl nw0_1)))] H := hP
  have hD : va_D A [(o, .inr (9, [.ref h, .int o_held, .int o_places, .ref o_row, .ref o_parts, .ref o_weights])), (o_parts, .inl (cA.1 1, 20, .inr (.inl c_o_parts))), (o_weights, .inl (cA.1 1, 20, .inr (.inl nw0_1)))] := hD
  refine lv_aload_n hx hb dX9_moveOn_17 rfl (lv_at hl 0 rfl) ?_
  refine va_get (D := G) (ci := 9) (v := .ref o_weights) (C := RX9) (T := TX9) (N := 6) hx hb hts inT9 hown hK hP 0 rfl rfl 5 (by decide) (hts _ tw_358) (fun _ h9 => h9) rfl dX9_moveOn_18 ?_
  refine lv_iconst (v := 0) hx hb dX9_moveOn_21 (by decide) ?_
  refine lv_aload_n hx hb dX9_moveOn_22 rfl (lv_at hl 0 rfl) ?_
  refine va_get (D := G) (ci := 9) (v := .ref o_parts) (C := RX9) (T := TX9) (N := 6) hx hb hts inT9 hown hK hP 0 rfl rfl 4 (by decide) (hts _ tw_357) (fun _ h9 => h9) rfl dX9_moveOn_23 ?_
  refine lv_iconst (v := 0) hx hb dX9_moveOn_26 (by decide) ?_
  refine lv_bipush (v := 20) hx hb dX9_moveOn_27 (by decide) ?_
  refine va_copyl hx hb (by rw [hml]; exact hl.1.symm) hown (hts _ tw_1419) (hts _ tw_799) (hts _ tw_798) (hts _ tw_182) hK hP hD hS 2 1 1 1 rfl rfl rfl rfl rfl (by decide +kernel) (by decide +kernel) (by decide +kernel) (by decide +kernel) (by decide +kernel) (fun _ _ => rfl) (Nat.le_of_ble_eq_true rfl) (Nat.le_of_ble_eq_true rfl) dX9_moveOn_29 (fun H locs hP hD hS => ?_)
  have hP : va_P G vwCl [(o, .inr (9, [.ref h, .int o_held, .int o_places, .ref o_row, .ref o_parts, .ref o_weights])), (o_parts, .inl (cA.1 1, 20, .inr (.inl (va_cpy nw0_1 c_o_parts (0 : Int32).toNatClampNeg (0 : Int32).toNatClampNeg (20 : Int32).toNatClampNeg)))), (o_weights, .inl (cA.1 1, 20, .inr (.inl nw0_1)))] H := hP
  have hD : va_D A [(o, .inr (9, [.ref h, .int o_held, .int o_places, .ref o_row, .ref o_parts, .ref o_weights])), (o_parts, .inl (cA.1 1, 20, .inr (.inl (va_cpy nw0_1 c_o_parts (0 : Int32).toNatClampNeg (0 : Int32).toNatClampNeg (20 : Int32).toNatClampNeg)))), (o_weights, .inl (cA.1 1, 20, .inr (.inl nw0_1)))] := hD
  generalize (va_cpy nw0_1 c_o_parts (0 : Int32).toNatClampNeg (0 : Int32).toNatClampNeg (20 : Int32).toNatClampNeg) = g_4 at hP hD
  exact hret _ _ _ _ _ (g_4, nw0_1) [0, 1, 2] hP hD hS rfl (by decide) dX9_moveOn_32 trivial
set_option maxHeartbeats 40000000 in
set_option maxRecDepth 100000 in
theorem d_Th_copy (l : Launch) (G : va_G) (cA : zCA) (o : Nat) (h : Nat) (o_held : Int32) (o_places : Int32) (o_row : Nat) (o_parts : Nat) (o_weights : Nat) (c_o_row : Nat → Int32) (c_o_parts : Nat → Int64) (ko0 : Nat) (ko0_held : Int32) (ko0_places : Int32) (ko0_row : Nat) (ko0_parts : Nat) (ko0_weights : Nat) (c_ko0_row : Nat → Int32) (c_ko0_parts : Nat → Int64) : zCv l yX9_copy cX9_copy 2 none ({ frames := 1, cells := 0, slots := 0, locals := 80 }) G cA [.ref o, .ref ko0] [(o, .inr (9, [.ref h, .int o_held, .int o_places, .ref o_row, .ref o_parts, .ref o_weights])), (o_row, .inl (cA.1 0, 10, .inl c_o_row)), (o_parts, .inl (cA.1 1, 20, .inr (.inl c_o_parts))), (ko0, .inr (9, [.ref h, .int ko0_held, .int ko0_places, .ref ko0_row, .ref ko0_parts, .ref ko0_weights])), (ko0_row, .inl (cA.1 0, 10, .inl c_ko0_row)), (ko0_parts, .inl (cA.1 1, 20, .inr (.inl c_ko0_parts)))] (S := Int32 × Int32 × (Nat → Int32) × (Nat → Int64)) (fun (u : Int32 × Int32 × (Nat → Int32) × (Nat → Int64)) => (u.1 = (F_Th_copy o_held o_places c_o_row c_o_parts c_ko0_row c_ko0_parts).1) ∧ (u.2.1 = (F_Th_copy o_held o_places c_o_row c_o_parts c_ko0_row c_ko0_parts).2.1) ∧ (u.2.2.1 = (F_Th_copy o_held o_places c_o_row c_o_parts c_ko0_row c_ko0_parts).2.2.1) ∧ (u.2.2.2 = (F_Th_copy o_held o_places c_o_row c_o_parts c_ko0_row c_ko0_parts).2.2.2) ∧ (True)) (fun (u : Int32 × Int32 × (Nat → Int32) × (Nat → Int64)) => [(o, .inr (9, [.ref h, .int o_held, .int o_places, .ref o_row, .ref o_parts, .ref o_weights])), (o_row, .inl (cA.1 0, 10, .inl c_o_row)), (o_parts, .inl (cA.1 1, 20, .inr (.inl c_o_parts))), (ko0, .inr (9, [.ref h, .int u.1, .int u.2.1, .ref ko0_row, .ref ko0_parts, .ref ko0_weights])), (ko0_row, .inl (cA.1 0, 10, .inl u.2.2.1)), (ko0_parts, .inl (cA.1 1, 20, .inr (.inl u.2.2.2)))]) 0 0 := by
  refine z_start2v (own := RX9) (by decide) (Nat.le_of_ble_eq_true rfl) rfl ?_
  intro p e s m args below meth c A ls Q hx hb hml hts hown hK hE hT hP hD hS hA hl hret
  have hl : lv_has ls 2 [(0, .ref o), (1, .ref ko0)] := hl
  refine lv_aload_n hx hb dX9_copy_0 rfl (lv_at hl 0 rfl) ?_
  refine lv_ifnull hx hb dX9_copy_1 ?_
  refine lv_aload_n hx hb dX9_copy_4 rfl (lv_at hl 1 rfl) ?_
  refine lv_ifnonnull (tgt := 9) hx hb dX9_copy_5 (by decide) ?_
  refine lv_aload_n hx hb dX9_copy_9 rfl (lv_at hl 1 rfl) ?_
  refine lv_aload_n hx hb dX9_copy_10 rfl (lv_at hl 0 rfl) ?_
  refine va_get (D := G) (ci := 9) (v := .int o_held) (C := RX9) (T := TX9) (N := 6) hx hb hts inT9 hown hK hP 0 rfl rfl 1 (by decide) (hts _ tw_350) (fun _ h9 => h9) rfl dX9_copy_11 ?_
  refine va_put (D := G) (ci := 9) (v := .int o_held) (ty := .int) (C := RX9) (T := TX9) (N := 6) hx hb hts inT9 tyX9 tyX9_ok nmX9 hown hK hP hD hS 3 rfl rfl 1 (by decide) (hts _ tw_350) (fun _ h9 => h9) rfl (tyX9_ok 1 (by decide)) rfl rfl (Nat.le_of_ble_eq_true rfl) dX9_copy_14 (fun H locs hP hD hS => ?_)
  have hP : va_P G vwCl [(o, .inr (9, [.ref h, .int o_held, .int o_places, .ref o_row, .ref o_parts, .ref o_weights])), (o_row, .inl (cA.1 0, 10, .inl c_o_row)), (o_parts, .inl (cA.1 1, 20, .inr (.inl c_o_parts))), (ko0, .inr (9, [.ref h, .int o_held, .int ko0_places, .ref ko0_row, .ref ko0_parts, .ref ko0_weights])), (ko0_row, .inl (cA.1 0, 10, .inl c_ko0_row)), (ko0_parts, .inl (cA.1 1, 20, .inr (.inl c_ko0_parts)))] H := hP
  have hD : va_D A [(o, .inr (9, [.ref h, .int o_held, .int o_places, .ref o_row, .ref o_parts, .ref o_weights])), (o_row, .inl (cA.1 0, 10, .inl c_o_row)), (o_parts, .inl (cA.1 1, 20, .inr (.inl c_o_parts))), (ko0, .inr (9, [.ref h, .int o_held, .int ko0_places, .ref ko0_row, .ref ko0_parts, .ref ko0_weights])), (ko0_row, .inl (cA.1 0, 10, .inl c_ko0_row)), (ko0_parts, .inl (cA.1 1, 20, .inr (.inl c_ko0_parts)))] := hD
  refine lv_aload_n hx hb dX9_copy_17 rfl (lv_at hl 1 rfl) ?_
  refine lv_aload_n hx hb dX9_copy_18 rfl (lv_at hl 0 rfl) ?_
  refine va_get (D := G) (ci := 9) (v := .int o_places) (C := RX9) (T := TX9) (N := 6) hx hb hts inT9 hown hK hP 0 rfl rfl 2 (by decide) (hts _ tw_352) (fun _ h9 => h9) rfl dX9_copy_19 ?_
  refine va_put (D := G) (ci := 9) (v := .int o_places) (ty := .int) (C := RX9) (T := TX9) (N := 6) hx hb hts inT9 tyX9 tyX9_ok nmX9 hown hK hP hD hS 3 rfl rfl 2 (by decide) (hts _ tw_352) (fun _ h9 => h9) rfl (tyX9_ok 2 (by decide)) rfl rfl (Nat.le_of_ble_eq_true rfl) dX9_copy_22 (fun H locs hP hD hS => ?_)
  have hP : va_P G vwCl [(o, .inr (9, [.ref h, .int o_held, .int o_places, .ref o_row, .ref o_parts, .ref o_weights])), (o_row, .inl (cA.1 0, 10, .inl c_o_row)), (o_parts, .inl (cA.1 1, 20, .inr (.inl c_o_parts))), (ko0, .inr (9, [.ref h, .int o_held, .int o_places, .ref ko0_row, .ref ko0_parts, .ref ko0_weights])), (ko0_row, .inl (cA.1 0, 10, .inl c_ko0_row)), (ko0_parts, .inl (cA.1 1, 20, .inr (.inl c_ko0_parts)))] H := hP
  have hD : va_D A [(o, .inr (9, [.ref h, .int o_held, .int o_places, .ref o_row, .ref o_parts, .ref o_weights])), (o_row, .inl (cA.1 0, 10, .inl c_o_row)), (o_parts, .inl (cA.1 1, 20, .inr (.inl c_o_parts))), (ko0, .inr (9, [.ref h, .int o_held, .int o_places, .ref ko0_row, .ref ko0_parts, .ref ko0_weights])), (ko0_row, .inl (cA.1 0, 10, .inl c_ko0_row)), (ko0_parts, .inl (cA.1 1, 20, .inr (.inl c_ko0_parts)))] := hD
  refine lv_aload_n hx hb dX9_copy_25 rfl (lv_at hl 0 rfl) ?_
  refine va_get (D := G) (ci := 9) (v := .ref o_row) (C := RX9) (T := TX9) (N := 6) hx hb hts inT9 hown hK hP 0 rfl rfl 3 (by decide) (hts _ tw_356) (fun _ h9 => h9) rfl dX9_copy_26 ?_
  refine lv_iconst (v := 0) hx hb dX9_copy_29 (by decide) ?_
  refine lv_aload_n hx hb dX9_copy_30 rfl (lv_at hl 1 rfl) ?_
  refine va_get (D := G) (ci := 9) (v := .ref ko0_row) (C := RX9) (T := TX9) (N := 6) hx hb hts inT9 hown hK hP 3 rfl rfl 3 (by decide) (hts _ tw_356) (fun _ h9 => h9) rfl dX9_copy_31 ?_
  refine lv_iconst (v := 0) hx hb dX9_copy_34 (by decide) ?_
  refine lv_bipush (v := 10) hx hb dX9_copy_35 (by decide) ?_
  refine va_copyi hx hb (by rw [hml]; exact hl.1.symm) hown (hts _ tw_1419) (hts _ tw_799) (hts _ tw_798) (hts _ tw_182) hK hP hD hS 1 4 0 0 rfl rfl rfl rfl rfl (by decide +kernel) (by decide +kernel) (by decide +kernel) (by decide +kernel) (by decide +kernel) (fun _ _ => rfl) (Nat.le_of_ble_eq_true rfl) (Nat.le_of_ble_eq_true rfl) dX9_copy_37 (fun H locs hP hD hS => ?_)
  have hP : va_P G vwCl [(o, .inr (9, [.ref h, .int o_held, .int o_places, .ref o_row, .ref o_parts, .ref o_weights])), (o_row, .inl (cA.1 0, 10, .inl c_o_row)), (o_parts, .inl (cA.1 1, 20, .inr (.inl c_o_parts))), (ko0, .inr (9, [.ref h, .int o_held, .int o_places, .ref ko0_row, .ref ko0_parts, .ref ko0_weights])), (ko0_row, .inl (cA.1 0, 10, .inl (va_cpy c_o_row c_ko0_row (0 : Int32).toNatClampNeg (0 : Int32).toNatClampNeg (10 : Int32).toNatClampNeg))), (ko0_parts, .inl (cA.1 1, 20, .inr (.inl c_ko0_parts)))] H := hP
  have hD : va_D A [(o, .inr (9, [.ref h, .int o_held, .int o_places, .ref o_row, .ref o_parts, .ref o_weights])), (o_row, .inl (cA.1 0, 10, .inl c_o_row)), (o_parts, .inl (cA.1 1, 20, .inr (.inl c_o_parts))), (ko0, .inr (9, [.ref h, .int o_held, .int o_places, .ref ko0_row, .ref ko0_parts, .ref ko0_weights])), (ko0_row, .inl (cA.1 0, 10, .inl (va_cpy c_o_row c_ko0_row (0 : Int32).toNatClampNeg (0 : Int32).toNatClampNeg (10 : Int32).toNatClampNeg))), (ko0_parts, .inl (cA.1 1, 20, .inr (.inl c_ko0_parts)))] := hD
  generalize hg_g_1 : (va_cpy c_o_row c_ko0_row (0 : Int32).toNatClampNeg (0 : Int32).toNatClampNeg (10 : Int32).toNatClampNeg) = g_1 at hP hD
  refine lv_aload_n hx hb dX9_copy_40 rfl (lv_at hl 0 rfl) ?_
  refine va_get (D := G) (ci := 9) (v := .ref o_parts) (C := RX9) (T := TX9) (N := 6) hx hb hts inT9 hown hK hP 0 rfl rfl 4 (by decide) (hts _ tw_357) (fun _ h9 => h9) rfl dX9_copy_41 ?_
  refine lv_iconst (v := 0) hx hb dX9_copy_44 (by decide) ?_
  refine lv_aload_n hx hb dX9_copy_45 rfl (lv_at hl 1 rfl) ?_
  refine va_get (D := G) (ci := 9) (v := .ref ko0_parts) (C := RX9) (T := TX9) (N := 6) hx hb hts inT9 hown hK hP 3 rfl rfl 4 (by decide) (hts _ tw_357) (fun _ h9 => h9) rfl dX9_copy_46 ?_
  refine lv_iconst (v := 0) hx hb dX9_copy_49 (by decide) ?_
  refine lv_bipush (v := 20) hx hb dX9_copy_50 (by decide) ?_
  refine va_copyl hx hb (by rw [hml]; exact hl.1.symm) hown (hts _ tw_1419) (hts _ tw_799) (hts _ tw_798) (hts _ tw_182) hK hP hD hS 2 5 1 1 rfl rfl rfl rfl rfl (by decide +kernel) (by decide +kernel) (by decide +kernel) (by decide +kernel) (by decide +kernel) (fun _ _ => rfl) (Nat.le_of_ble_eq_true rfl) (Nat.le_of_ble_eq_true rfl) dX9_copy_52 (fun H locs hP hD hS => ?_)
  have hP : va_P G vwCl [(o, .inr (9, [.ref h, .int o_held, .int o_places, .ref o_row, .ref o_parts, .ref o_weights])), (o_row, .inl (cA.1 0, 10, .inl c_o_row)), (o_parts, .inl (cA.1 1, 20, .inr (.inl c_o_parts))), (ko0, .inr (9, [.ref h, .int o_held, .int o_places, .ref ko0_row, .ref ko0_parts, .ref ko0_weights])), (ko0_row, .inl (cA.1 0, 10, .inl g_1)), (ko0_parts, .inl (cA.1 1, 20, .inr (.inl (va_cpy c_o_parts c_ko0_parts (0 : Int32).toNatClampNeg (0 : Int32).toNatClampNeg (20 : Int32).toNatClampNeg))))] H := hP
  have hD : va_D A [(o, .inr (9, [.ref h, .int o_held, .int o_places, .ref o_row, .ref o_parts, .ref o_weights])), (o_row, .inl (cA.1 0, 10, .inl c_o_row)), (o_parts, .inl (cA.1 1, 20, .inr (.inl c_o_parts))), (ko0, .inr (9, [.ref h, .int o_held, .int o_places, .ref ko0_row, .ref ko0_parts, .ref ko0_weights])), (ko0_row, .inl (cA.1 0, 10, .inl g_1)), (ko0_parts, .inl (cA.1 1, 20, .inr (.inl (va_cpy c_o_parts c_ko0_parts (0 : Int32).toNatClampNeg (0 : Int32).toNatClampNeg (20 : Int32).toNatClampNeg))))] := hD
  generalize hg_g_2 : (va_cpy c_o_parts c_ko0_parts (0 : Int32).toNatClampNeg (0 : Int32).toNatClampNeg (20 : Int32).toNatClampNeg) = g_2 at hP hD
  have hX_3 : F_Th_copy o_held o_places c_o_row c_o_parts c_ko0_row c_ko0_parts = ((o_held, o_places, g_1, g_2) : Int32 × Int32 × (Nat → Int32) × (Nat → Int64)) := by
    refine (F_Th_copy_s ..).trans ?_
    try (extract_lets -merge -useContext +onlyGivenNames y9; have e9 : g_1 = y9 := (by first | exact hg_g_1 | exact hg_g_1.symm); clear_value y9; subst e9)
    try (extract_lets -merge -useContext +onlyGivenNames y9; have e9 : g_2 = y9 := (by first | exact hg_g_2 | exact hg_g_2.symm); clear_value y9; subst e9)
    exact rfl
  exact hret _ _ _ _ _ (o_held, o_places, g_1, g_2) [0, 1, 2, 3, 4, 5] hP hD hS rfl (by decide) dX9_copy_55 ⟨(congrArg (fun z9 => z9.1) hX_3).symm, (congrArg (fun z9 => z9.2.1) hX_3).symm, (congrArg (fun z9 => z9.2.2.1) hX_3).symm, (congrArg (fun z9 => z9.2.2.2) hX_3).symm, trivial⟩
set_option maxHeartbeats 4000000 in
set_option maxRecDepth 100000 in
theorem d_Ru_kindAt (l : Launch) (G : va_G) (cA : zCA) (r : Nat) (r_lines : Int32) (r_steps : Int32) (r_asksSure : Int32) (r_kinds : Nat) (r_features : Nat) (r_compares : Nat) (r_numbers : Nat) (r_partners : Nat) (c_r_kinds : Nat → Int32) (k : Int32) (hz_r_asksSure : r_asksSure = 0 ∨ r_asksSure = 1) : zCi l yX5_kindAt cX5_kindAt 2 (some .int) ({ frames := 1, cells := 0, slots := 0, locals := 21 }) G cA [.ref r, .int k] [(r, .inr (5, [.int r_lines, .int r_steps, .int r_asksSure, .ref r_kinds, .ref r_features, .ref r_compares, .ref r_numbers, .ref r_partners])), (r_kinds, .inl (cA.1 0, 60, .inl c_r_kinds))] (S := Unit) (fun (r : Int32) (u : Unit) => True) (fun (u : Unit) => [(r, .inr (5, [.int r_lines, .int r_steps, .int r_asksSure, .ref r_kinds, .ref r_features, .ref r_compares, .ref r_numbers, .ref r_partners])), (r_kinds, .inl (cA.1 0, 60, .inl c_r_kinds))]) 0 0 := by
  refine z_start2i (own := RX5) (by decide) (Nat.le_of_ble_eq_true rfl) rfl ?_
  intro p e s m args below meth c A ls Q hx hb hml hts hown hK hE hT hP hD hS hA hl hret
  have hl : lv_has ls 2 [(0, .ref r), (1, .int k)] := hl
  refine lv_iload_n hx hb dX5_kindAt_0 rfl (lv_at hl 1 rfl) ?_
  refine lv_if_lt (tgt := 23) hx hb dX5_kindAt_1 (by decide) (fun c_1 => ?_) (fun c_1 => ?_)
  · have b_2 := z_b3 c_1 (K := 0) (by decide +kernel)
    refine lv_iconst (v := (-1)) hx hb dX5_kindAt_23 (by decide) ?_
    exact hret _ _ _ _ _ _ () [0, 1] hP hD hS rfl (by decide) dX5_kindAt_24 trivial
  · have b_3 := z_b4 c_1 (K := 0) (by decide +kernel)
    refine lv_iload_n hx hb dX5_kindAt_4 rfl (lv_at hl 1 rfl) ?_
    refine lv_aload_n hx hb dX5_kindAt_5 rfl (lv_at hl 0 rfl) ?_
    refine va_get (D := G) (ci := 5) (v := .int r_lines) (C := RX5) (T := TX5) (N := 8) hx hb hts inT5 hown hK hP 0 rfl rfl 0 (by decide) (hts _ tw_378) (fun _ h9 => h9) rfl dX5_kindAt_6 ?_
    refine lv_icmp_ge (tgt := 23) hx hb dX5_kindAt_9 (by decide) (fun c_4 => ?_) (fun c_4 => ?_)
    · have b_5 := z_s1 c_4
      refine lv_iconst (v := (-1)) hx hb dX5_kindAt_23 (by decide) ?_
      exact hret _ _ _ _ _ _ () [0, 1] hP hD hS rfl (by decide) dX5_kindAt_24 trivial
    · have b_6 := z_t2 c_4
      refine lv_aload_n hx hb dX5_kindAt_12 rfl (lv_at hl 0 rfl) ?_
      refine va_get (D := G) (ci := 5) (v := .ref r_kinds) (C := RX5) (T := TX5) (N := 8) hx hb hts inT5 hown hK hP 0 rfl rfl 3 (by decide) (hts _ tw_386) (fun _ h9 => h9) rfl dX5_kindAt_13 ?_
      refine lv_iload_n hx hb dX5_kindAt_16 rfl (lv_at hl 1 rfl) ?_
      refine z_callSNi (As := [.ref r_kinds, .int k]) (rest := []) (wr := [(r, .inr (5, [.int r_lines, .int r_steps, .int r_asksSure, .ref r_kinds, .ref r_features, .ref r_compares, .ref r_numbers, .ref r_partners]))]) ⟨hx, hb, hml, hown, hts⟩ hK hE hT hP hD hS hA (d_at_60 l G cA r_kinds c_r_kinds k) lk_RX5_44 ⟨rfl, rfl⟩ ⟨Nat.le_of_ble_eq_true rfl, Nat.le_of_ble_eq_true rfl⟩ [1] [0] rfl rfl (by decide) rfl hl.1 rfl (lv_room (Nat.le_of_ble_eq_true rfl)) dX5_kindAt_17 ⟨Nat.le_of_ble_eq_true rfl, Nat.le_of_ble_eq_true rfl⟩ (fun r_7 u_8 H locs hw hP hD hS => ?_)
      have hP : va_P G vwCl [(r, .inr (5, [.int r_lines, .int r_steps, .int r_asksSure, .ref r_kinds, .ref r_features, .ref r_compares, .ref r_numbers, .ref r_partners])), (r_kinds, .inl (cA.1 0, 60, .inl c_r_kinds))] H := hP
      have hD : va_D A [(r, .inr (5, [.int r_lines, .int r_steps, .int r_asksSure, .ref r_kinds, .ref r_features, .ref r_compares, .ref r_numbers, .ref r_partners])), (r_kinds, .inl (cA.1 0, 60, .inl c_r_kinds))] := hD
      obtain ⟨he_r_7, hw⟩ := hw
      refine lv_goto (tgt := 24) hx hb dX5_kindAt_20 (by decide) ?_
      exact hret _ _ _ _ _ _ () [0, 1] hP hD hS rfl (by decide) dX5_kindAt_24 trivial
set_option maxHeartbeats 4000000 in
set_option maxRecDepth 100000 in
theorem d_Ru_featureAt (l : Launch) (G : va_G) (cA : zCA) (r : Nat) (r_lines : Int32) (r_steps : Int32) (r_asksSure : Int32) (r_kinds : Nat) (r_features : Nat) (r_compares : Nat) (r_numbers : Nat) (r_partners : Nat) (c_r_features : Nat → Int32) (k : Int32) (hz_r_asksSure : r_asksSure = 0 ∨ r_asksSure = 1) : zCi l yX5_featureAt cX5_featureAt 2 (some .int) ({ frames := 1, cells := 0, slots := 0, locals := 21 }) G cA [.ref r, .int k] [(r, .inr (5, [.int r_lines, .int r_steps, .int r_asksSure, .ref r_kinds, .ref r_features, .ref r_compares, .ref r_numbers, .ref r_partners])), (r_features, .inl (cA.1 0, 60, .inl c_r_features))] (S := Unit) (fun (r : Int32) (u : Unit) => True) (fun (u : Unit) => [(r, .inr (5, [.int r_lines, .int r_steps, .int r_asksSure, .ref r_kinds, .ref r_features, .ref r_compares, .ref r_numbers, .ref r_partners])), (r_features, .inl (cA.1 0, 60, .inl c_r_features))]) 0 0 := by
  refine z_start2i (own := RX5) (by decide) (Nat.le_of_ble_eq_true rfl) rfl ?_
  intro p e s m args below meth c A ls Q hx hb hml hts hown hK hE hT hP hD hS hA hl hret
  have hl : lv_has ls 2 [(0, .ref r), (1, .int k)] := hl
  refine lv_aload_n hx hb dX5_featureAt_0 rfl (lv_at hl 0 rfl) ?_
  refine va_get (D := G) (ci := 5) (v := .ref r_features) (C := RX5) (T := TX5) (N := 8) hx hb hts inT5 hown hK hP 0 rfl rfl 4 (by decide) (hts _ tw_387) (fun _ h9 => h9) rfl dX5_featureAt_1 ?_
  refine lv_iload_n hx hb dX5_featureAt_4 rfl (lv_at hl 1 rfl) ?_
  refine z_callSNi (As := [.ref r_features, .int k]) (rest := []) (wr := [(r, .inr (5, [.int r_lines, .int r_steps, .int r_asksSure, .ref r_kinds, .ref r_features, .ref r_compares, .ref r_numbers, .ref r_partners]))]) ⟨hx, hb, hml, hown, hts⟩ hK hE hT hP hD hS hA (d_at_60 l G cA r_features c_r_features k) lk_RX5_44 ⟨rfl, rfl⟩ ⟨Nat.le_of_ble_eq_true rfl, Nat.le_of_ble_eq_true rfl⟩ [1] [0] rfl rfl (by decide) rfl hl.1 rfl (lv_room (Nat.le_of_ble_eq_true rfl)) dX5_featureAt_5 ⟨Nat.le_of_ble_eq_true rfl, Nat.le_of_ble_eq_true rfl⟩ (fun r_1 u_2 H locs hw hP hD hS => ?_)
  have hP : va_P G vwCl [(r, .inr (5, [.int r_lines, .int r_steps, .int r_asksSure, .ref r_kinds, .ref r_features, .ref r_compares, .ref r_numbers, .ref r_partners])), (r_features, .inl (cA.1 0, 60, .inl c_r_features))] H := hP
  have hD : va_D A [(r, .inr (5, [.int r_lines, .int r_steps, .int r_asksSure, .ref r_kinds, .ref r_features, .ref r_compares, .ref r_numbers, .ref r_partners])), (r_features, .inl (cA.1 0, 60, .inl c_r_features))] := hD
  obtain ⟨he_r_1, hw⟩ := hw
  exact hret _ _ _ _ _ _ () [0, 1] hP hD hS rfl (by decide) dX5_featureAt_8 trivial
set_option maxHeartbeats 4000000 in
set_option maxRecDepth 100000 in
theorem d_Ru_compareAt (l : Launch) (G : va_G) (cA : zCA) (r : Nat) (r_lines : Int32) (r_steps : Int32) (r_asksSure : Int32) (r_kinds : Nat) (r_features : Nat) (r_compares : Nat) (r_numbers : Nat) (r_partners : Nat) (c_r_compares : Nat → Int32) (k : Int32) (hz_r_asksSure : r_asksSure = 0 ∨ r_asksSure = 1) : zCi l yX5_compareAt cX5_compareAt 2 (some .int) ({ frames := 1, cells := 0, slots := 0, locals := 21 }) G cA [.ref r, .int k] [(r, .inr (5, [.int r_lines, .int r_steps, .int r_asksSure, .ref r_kinds, .ref r_features, .ref r_compares, .ref r_numbers, .ref r_partners])), (r_compares, .inl (cA.1 0, 60, .inl c_r_compares))] (S := Unit) (fun (r : Int32) (u : Unit) => True) (fun (u : Unit) => [(r, .inr (5, [.int r_lines, .int r_steps, .int r_asksSure, .ref r_kinds, .ref r_features, .ref r_compares, .ref r_numbers, .ref r_partners])), (r_compares, .inl (cA.1 0, 60, .inl c_r_compares))]) 0 0 := by
  refine z_start2i (own := RX5) (by decide) (Nat.le_of_ble_eq_true rfl) rfl ?_
  intro p e s m args below meth c A ls Q hx hb hml hts hown hK hE hT hP hD hS hA hl hret
  have hl : lv_has ls 2 [(0, .ref r), (1, .int k)] := hl
  refine lv_aload_n hx hb dX5_compareAt_0 rfl (lv_at hl 0 rfl) ?_
  refine va_get (D := G) (ci := 5) (v := .ref r_compares) (C := RX5) (T := TX5) (N := 8) hx hb hts inT5 hown hK hP 0 rfl rfl 5 (by decide) (hts _ tw_388) (fun _ h9 => h9) rfl dX5_compareAt_1 ?_
  refine lv_iload_n hx hb dX5_compareAt_4 rfl (lv_at hl 1 rfl) ?_
  refine z_callSNi (As := [.ref r_compares, .int k]) (rest := []) (wr := [(r, .inr (5, [.int r_lines, .int r_steps, .int r_asksSure, .ref r_kinds, .ref r_features, .ref r_compares, .ref r_numbers, .ref r_partners]))]) ⟨hx, hb, hml, hown, hts⟩ hK hE hT hP hD hS hA (d_at_60 l G cA r_compares c_r_compares k) lk_RX5_44 ⟨rfl, rfl⟩ ⟨Nat.le_of_ble_eq_true rfl, Nat.le_of_ble_eq_true rfl⟩ [1] [0] rfl rfl (by decide) rfl hl.1 rfl (lv_room (Nat.le_of_ble_eq_true rfl)) dX5_compareAt_5 ⟨Nat.le_of_ble_eq_true rfl, Nat.le_of_ble_eq_true rfl⟩ (fun r_1 u_2 H locs hw hP hD hS => ?_)
  have hP : va_P G vwCl [(r, .inr (5, [.int r_lines, .int r_steps, .int r_asksSure, .ref r_kinds, .ref r_features, .ref r_compares, .ref r_numbers, .ref r_partners])), (r_compares, .inl (cA.1 0, 60, .inl c_r_compares))] H := hP
  have hD : va_D A [(r, .inr (5, [.int r_lines, .int r_steps, .int r_asksSure, .ref r_kinds, .ref r_features, .ref r_compares, .ref r_numbers, .ref r_partners])), (r_compares, .inl (cA.1 0, 60, .inl c_r_compares))] := hD
  obtain ⟨he_r_1, hw⟩ := hw
  exact hret _ _ _ _ _ _ () [0, 1] hP hD hS rfl (by decide) dX5_compareAt_8 trivial
set_option maxHeartbeats 4000000 in
set_option maxRecDepth 100000 in
theorem d_Ru_numberAt (l : Launch) (G : va_G) (cA : zCA) (r : Nat) (r_lines : Int32) (r_steps : Int32) (r_asksSure : Int32) (r_kinds : Nat) (r_features : Nat) (r_compares : Nat) (r_numbers : Nat) (r_partners : Nat) (c_r_numbers : Nat → Int32) (k : Int32) (hz_r_asksSure : r_asksSure = 0 ∨ r_asksSure = 1) : zCi l yX5_numberAt cX5_numberAt 2 (some .int) ({ frames := 1, cells := 0, slots := 0, locals := 21 }) G cA [.ref r, .int k] [(r, .inr (5, [.int r_lines, .int r_steps, .int r_asksSure, .ref r_kinds, .ref r_features, .ref r_compares, .ref r_numbers, .ref r_partners])), (r_numbers, .inl (cA.1 0, 60, .inl c_r_numbers))] (S := Unit) (fun (r : Int32) (u : Unit) => True) (fun (u : Unit) => [(r, .inr (5, [.int r_lines, .int r_steps, .int r_asksSure, .ref r_kinds, .ref r_features, .ref r_compares, .ref r_numbers, .ref r_partners])), (r_numbers, .inl (cA.1 0, 60, .inl c_r_numbers))]) 0 0 := by
  refine z_start2i (own := RX5) (by decide) (Nat.le_of_ble_eq_true rfl) rfl ?_
  intro p e s m args below meth c A ls Q hx hb hml hts hown hK hE hT hP hD hS hA hl hret
  have hl : lv_has ls 2 [(0, .ref r), (1, .int k)] := hl
  refine lv_aload_n hx hb dX5_numberAt_0 rfl (lv_at hl 0 rfl) ?_
  refine va_get (D := G) (ci := 5) (v := .ref r_numbers) (C := RX5) (T := TX5) (N := 8) hx hb hts inT5 hown hK hP 0 rfl rfl 6 (by decide) (hts _ tw_389) (fun _ h9 => h9) rfl dX5_numberAt_1 ?_
  refine lv_iload_n hx hb dX5_numberAt_4 rfl (lv_at hl 1 rfl) ?_
  refine z_callSNi (As := [.ref r_numbers, .int k]) (rest := []) (wr := [(r, .inr (5, [.int r_lines, .int r_steps, .int r_asksSure, .ref r_kinds, .ref r_features, .ref r_compares, .ref r_numbers, .ref r_partners]))]) ⟨hx, hb, hml, hown, hts⟩ hK hE hT hP hD hS hA (d_at_60 l G cA r_numbers c_r_numbers k) lk_RX5_44 ⟨rfl, rfl⟩ ⟨Nat.le_of_ble_eq_true rfl, Nat.le_of_ble_eq_true rfl⟩ [1] [0] rfl rfl (by decide) rfl hl.1 rfl (lv_room (Nat.le_of_ble_eq_true rfl)) dX5_numberAt_5 ⟨Nat.le_of_ble_eq_true rfl, Nat.le_of_ble_eq_true rfl⟩ (fun r_1 u_2 H locs hw hP hD hS => ?_)
  have hP : va_P G vwCl [(r, .inr (5, [.int r_lines, .int r_steps, .int r_asksSure, .ref r_kinds, .ref r_features, .ref r_compares, .ref r_numbers, .ref r_partners])), (r_numbers, .inl (cA.1 0, 60, .inl c_r_numbers))] H := hP
  have hD : va_D A [(r, .inr (5, [.int r_lines, .int r_steps, .int r_asksSure, .ref r_kinds, .ref r_features, .ref r_compares, .ref r_numbers, .ref r_partners])), (r_numbers, .inl (cA.1 0, 60, .inl c_r_numbers))] := hD
  obtain ⟨he_r_1, hw⟩ := hw
  exact hret _ _ _ _ _ _ () [0, 1] hP hD hS rfl (by decide) dX5_numberAt_8 trivial
set_option maxHeartbeats 4000000 in
set_option maxRecDepth 100000 in
theorem d_Ru_partnerAt (l : Launch) (G : va_G) (cA : zCA) (r : Nat) (r_lines : Int32) (r_steps : Int32) (r_asksSure : Int32) (r_kinds : Nat) (r_features : Nat) (r_compares : Nat) (r_numbers : Nat) (r_partners : Nat) (c_r_partners : Nat → Int32) (k : Int32) (hz_r_asksSure : r_asksSure = 0 ∨ r_asksSure = 1) : zCi l yX5_partnerAt cX5_partnerAt 2 (some .int) ({ frames := 1, cells := 0, slots := 0, locals := 21 }) G cA [.ref r, .int k] [(r, .inr (5, [.int r_lines, .int r_steps, .int r_asksSure, .ref r_kinds, .ref r_features, .ref r_compares, .ref r_numbers, .ref r_partners])), (r_partners, .inl (cA.1 0, 60, .inl c_r_partners))] (S := Unit) (fun (r : Int32) (u : Unit) => True) (fun (u : Unit) => [(r, .inr (5, [.int r_lines, .int r_steps, .int r_asksSure, .ref r_kinds, .ref r_features, .ref r_compares, .ref r_numbers, .ref r_partners])), (r_partners, .inl (cA.1 0, 60, .inl c_r_partners))]) 0 0 := by
  refine z_start2i (own := RX5) (by decide) (Nat.le_of_ble_eq_true rfl) rfl ?_
  intro p e s m args below meth c A ls Q hx hb hml hts hown hK hE hT hP hD hS hA hl hret
  have hl : lv_has ls 2 [(0, .ref r), (1, .int k)] := hl
  refine lv_aload_n hx hb dX5_partnerAt_0 rfl (lv_at hl 0 rfl) ?_
  refine va_get (D := G) (ci := 5) (v := .ref r_partners) (C := RX5) (T := TX5) (N := 8) hx hb hts inT5 hown hK hP 0 rfl rfl 7 (by decide) (hts _ tw_390) (fun _ h9 => h9) rfl dX5_partnerAt_1 ?_
  refine lv_iload_n hx hb dX5_partnerAt_4 rfl (lv_at hl 1 rfl) ?_
  refine z_callSNi (As := [.ref r_partners, .int k]) (rest := []) (wr := [(r, .inr (5, [.int r_lines, .int r_steps, .int r_asksSure, .ref r_kinds, .ref r_features, .ref r_compares, .ref r_numbers, .ref r_partners]))]) ⟨hx, hb, hml, hown, hts⟩ hK hE hT hP hD hS hA (d_at_60 l G cA r_partners c_r_partners k) lk_RX5_44 ⟨rfl, rfl⟩ ⟨Nat.le_of_ble_eq_true rfl, Nat.le_of_ble_eq_true rfl⟩ [1] [0] rfl rfl (by decide) rfl hl.1 rfl (lv_room (Nat.le_of_ble_eq_true rfl)) dX5_partnerAt_5 ⟨Nat.le_of_ble_eq_true rfl, Nat.le_of_ble_eq_true rfl⟩ (fun r_1 u_2 H locs hw hP hD hS => ?_)
  have hP : va_P G vwCl [(r, .inr (5, [.int r_lines, .int r_steps, .int r_asksSure, .ref r_kinds, .ref r_features, .ref r_compares, .ref r_numbers, .ref r_partners])), (r_partners, .inl (cA.1 0, 60, .inl c_r_partners))] H := hP
  have hD : va_D A [(r, .inr (5, [.int r_lines, .int r_steps, .int r_asksSure, .ref r_kinds, .ref r_features, .ref r_compares, .ref r_numbers, .ref r_partners])), (r_partners, .inl (cA.1 0, 60, .inl c_r_partners))] := hD
  obtain ⟨he_r_1, hw⟩ := hw
  exact hret _ _ _ _ _ _ () [0, 1] hP hD hS rfl (by decide) dX5_partnerAt_8 trivial
set_option maxHeartbeats 40000000 in
set_option maxRecDepth 100000 in
theorem d_Ru_add (l : Launch) (G : va_G) (cA : zCA) (r : Nat) (r_lines : Int32) (r_steps : Int32) (r_asksSure : Int32) (r_kinds : Nat) (r_features : Nat) (r_compares : Nat) (r_numbers : Nat) (r_partners : Nat) (c_r_kinds : Nat → Int32) (c_r_features : Nat → Int32) (c_r_compares : Nat → Int32) (c_r_numbers : Nat → Int32) (k : Int32) (j : Int32) (i1 : Int32) (i2 : Int32) (hz_r_asksSure : r_asksSure = 0 ∨ r_asksSure = 1) : zCv l yX5_add cX5_add 5 none ({ frames := 1, cells := 0, slots := 0, locals := 22 }) G cA [.ref r, .int k, .int j, .int i1, .int i2] [(r, .inr (5, [.int r_lines, .int r_steps, .int r_asksSure, .ref r_kinds, .ref r_features, .ref r_compares, .ref r_numbers, .ref r_partners])), (r_kinds, .inl (cA.1 0, 60, .inl c_r_kinds)), (r_features, .inl (cA.1 0, 60, .inl c_r_features)), (r_compares, .inl (cA.1 0, 60, .inl c_r_compares)), (r_numbers, .inl (cA.1 0, 60, .inl c_r_numbers))] (S := Int32 × (Nat → Int32) × (Nat → Int32) × (Nat → Int32) × (Nat → Int32) × Int32 × Int32) (fun (u : Int32 × (Nat → Int32) × (Nat → Int32) × (Nat → Int32) × (Nat → Int32) × Int32 × Int32) => (u.1 = (F_Ru_add r_lines r_steps r_asksSure c_r_kinds c_r_features c_r_compares c_r_numbers k j i1 i2).1) ∧ (u.2.1 = (F_Ru_add r_lines r_steps r_asksSure c_r_kinds c_r_features c_r_compares c_r_numbers k j i1 i2).2.1) ∧ (u.2.2.1 = (F_Ru_add r_lines r_steps r_asksSure c_r_kinds c_r_features c_r_compares c_r_numbers k j i1 i2).2.2.1) ∧ (u.2.2.2.1 = (F_Ru_add r_lines r_steps r_asksSure c_r_kinds c_r_features c_r_compares c_r_numbers k j i1 i2).2.2.2.1) ∧ (u.2.2.2.2.1 = (F_Ru_add r_lines r_steps r_asksSure c_r_kinds c_r_features c_r_compares c_r_numbers k j i1 i2).2.2.2.2.1) ∧ (u.2.2.2.2.2.1 = (F_Ru_add r_lines r_steps r_asksSure c_r_kinds c_r_features c_r_compares c_r_numbers k j i1 i2).2.2.2.2.2.1) ∧ (u.2.2.2.2.2.2 = (F_Ru_add r_lines r_steps r_asksSure c_r_kinds c_r_features c_r_compares c_r_numbers k j i1 i2).2.2.2.2.2.2) ∧ (u.2.2.2.2.2.1 = 0 ∨ u.2.2.2.2.2.1 = 1)) (fun (u : Int32 × (Nat → Int32) × (Nat → Int32) × (Nat → Int32) × (Nat → Int32) × Int32 × Int32) => [(r, .inr (5, [.int u.1, .int u.2.2.2.2.2.2, .int u.2.2.2.2.2.1, .ref r_kinds, .ref r_features, .ref r_compares, .ref r_numbers, .ref r_partners])), (r_kinds, .inl (cA.1 0, 60, .inl u.2.1)), (r_features, .inl (cA.1 0, 60, .inl u.2.2.1)), (r_compares, .inl (cA.1 0, 60, .inl u.2.2.2.1)), (r_numbers, .inl (cA.1 0, 60, .inl u.2.2.2.2.1))]) 0 0 := by
  refine z_start2v (own := RX5) (by decide) (Nat.le_of_ble_eq_true rfl) rfl ?_
  intro p e s m args below meth c A ls Q hx hb hml hts hown hK hE hT hP hD hS hA hl hret
  have hl : lv_has ls 5 [(0, .ref r), (1, .int k), (2, .int j), (3, .int i1), (4, .int i2)] := hl
  refine lv_aload_n hx hb dX5_add_0 rfl (lv_at hl 0 rfl) ?_
  refine va_get (D := G) (ci := 5) (v := .ref r_kinds) (C := RX5) (T := TX5) (N := 8) hx hb hts inT5 hown hK hP 0 rfl rfl 3 (by decide) (hts _ tw_386) (fun _ h9 => h9) rfl dX5_add_1 ?_
  refine lv_aload_n hx hb dX5_add_4 rfl (lv_at hl 0 rfl) ?_
  refine va_get (D := G) (ci := 5) (v := .int r_lines) (C := RX5) (T := TX5) (N := 8) hx hb hts inT5 hown hK hP 0 rfl rfl 0 (by decide) (hts _ tw_378) (fun _ h9 => h9) rfl dX5_add_5 ?_
  refine lv_iload_n hx hb dX5_add_8 rfl (lv_at hl 1 rfl) ?_
  refine z_callSNv (As := [.ref r_kinds, .int r_lines, .int k]) (rest := []) (wr := [(r, .inr (5, [.int r_lines, .int r_steps, .int r_asksSure, .ref r_kinds, .ref r_features, .ref r_compares, .ref r_numbers, .ref r_partners])), (r_features, .inl (cA.1 0, 60, .inl c_r_features)), (r_compares, .inl (cA.1 0, 60, .inl c_r_compares)), (r_numbers, .inl (cA.1 0, 60, .inl c_r_numbers))]) ⟨hx, hb, hml, hown, hts⟩ hK hE hT hP hD hS hA (d_keepAt_60 l G cA r_kinds c_r_kinds r_lines k) lk_RX5_48 ⟨rfl, rfl⟩ ⟨Nat.le_of_ble_eq_true rfl, Nat.le_of_ble_eq_true rfl⟩ [1] [0, 2, 3, 4] rfl rfl (by decide) rfl hl.1 rfl (lv_room (Nat.le_of_ble_eq_true rfl)) dX5_add_9 ⟨Nat.le_of_ble_eq_true rfl, Nat.le_of_ble_eq_true rfl⟩ (fun u_3 H locs hw hP hD hS => ?_)
  obtain ⟨nw0_1, rfl⟩ : ∃ z, z = u_3 := ⟨_, rfl⟩
  have hP : va_P G vwCl [(r, .inr (5, [.int r_lines, .int r_steps, .int r_asksSure, .ref r_kinds, .ref r_features, .ref r_compares, .ref r_numbers, .ref r_partners])), (r_features, .inl (cA.1 0, 60, .inl c_r_features)), (r_compares, .inl (cA.1 0, 60, .inl c_r_compares)), (r_numbers, .inl (cA.1 0, 60, .inl c_r_numbers)), (r_kinds, .inl (cA.1 0, 60, .inl nw0_1))] H := hP
  have hD : va_D A [(r, .inr (5, [.int r_lines, .int r_steps, .int r_asksSure, .ref r_kinds, .ref r_features, .ref r_compares, .ref r_numbers, .ref r_partners])), (r_features, .inl (cA.1 0, 60, .inl c_r_features)), (r_compares, .inl (cA.1 0, 60, .inl c_r_compares)), (r_numbers, .inl (cA.1 0, 60, .inl c_r_numbers)), (r_kinds, .inl (cA.1 0, 60, .inl nw0_1))] := hD
  obtain ⟨he_nw0_1, hw⟩ := hw
  refine lv_aload_n hx hb dX5_add_12 rfl (lv_at hl 0 rfl) ?_
  refine va_get (D := G) (ci := 5) (v := .ref r_features) (C := RX5) (T := TX5) (N := 8) hx hb hts inT5 hown hK hP 0 rfl rfl 4 (by decide) (hts _ tw_387) (fun _ h9 => h9) rfl dX5_add_13 ?_
  refine lv_aload_n hx hb dX5_add_16 rfl (lv_at hl 0 rfl) ?_
  refine va_get (D := G) (ci := 5) (v := .int r_lines) (C := RX5) (T := TX5) (N := 8) hx hb hts inT5 hown hK hP 0 rfl rfl 0 (by decide) (hts _ tw_378) (fun _ h9 => h9) rfl dX5_add_17 ?_
  refine lv_iload_n hx hb dX5_add_20 rfl (lv_at hl 2 rfl) ?_
  refine z_callSNv (As := [.ref r_features, .int r_lines, .int j]) (rest := []) (wr := [(r, .inr (5, [.int r_lines, .int r_steps, .int r_asksSure, .ref r_kinds, .ref r_features, .ref r_compares, .ref r_numbers, .ref r_partners])), (r_compares, .inl (cA.1 0, 60, .inl c_r_compares)), (r_numbers, .inl (cA.1 0, 60, .inl c_r_numbers)), (r_kinds, .inl (cA.1 0, 60, .inl nw0_1))]) ⟨hx, hb, hml, hown, hts⟩ hK hE hT hP hD hS hA (d_keepAt_60 l G cA r_features c_r_features r_lines j) lk_RX5_48 ⟨rfl, rfl⟩ ⟨Nat.le_of_ble_eq_true rfl, Nat.le_of_ble_eq_true rfl⟩ [1] [0, 2, 3, 4] rfl rfl (by decide) rfl hl.1 rfl (lv_room (Nat.le_of_ble_eq_true rfl)) dX5_add_21 ⟨Nat.le_of_ble_eq_true rfl, Nat.le_of_ble_eq_true rfl⟩ (fun u_7 H locs hw hP hD hS => ?_)
  obtain ⟨nw0_5, rfl⟩ : ∃ z, z = u_7 := ⟨_, rfl⟩
  have hP : va_P G vwCl [(r, .inr (5, [.int r_lines, .int r_steps, .int r_asksSure, .ref r_kinds, .ref r_features, .ref r_compares, .ref r_numbers, .ref r_partners])), (r_compares, .inl (cA.1 0, 60, .inl c_r_compares)), (r_numbers, .inl (cA.1 0, 60, .inl c_r_numbers)), (r_kinds, .inl (cA.1 0, 60, .inl nw0_1)), (r_features, .inl (cA.1 0, 60, .inl nw0_5))] H := hP
  have hD : va_D A [(r, .inr (5, [.int r_lines, .int r_steps, .int r_asksSure, .ref r_kinds, .ref r_features, .ref r_compares, .ref r_numbers, .ref r_partners])), (r_compares, .inl (cA.1 0, 60, .inl c_r_compares)), (r_numbers, .inl (cA.1 0, 60, .inl c_r_numbers)), (r_kinds, .inl (cA.1 0, 60, .inl nw0_1)), (r_features, .inl (cA.1 0, 60, .inl nw0_5))] := hD
  obtain ⟨he_nw0_5, hw⟩ := hw
  refine lv_aload_n hx hb dX5_add_24 rfl (lv_at hl 0 rfl) ?_
  refine va_get (D := G) (ci := 5) (v := .ref r_compares) (C := RX5) (T := TX5) (N := 8) hx hb hts inT5 hown hK hP 0 rfl rfl 5 (by decide) (hts _ tw_388) (fun _ h9 => h9) rfl dX5_add_25 ?_
  refine lv_aload_n hx hb dX5_add_28 rfl (lv_at hl 0 rfl) ?_
  refine va_get (D := G) (ci := 5) (v := .int r_lines) (C := RX5) (T := TX5) (N := 8) hx hb hts inT5 hown hK hP 0 rfl rfl 0 (by decide) (hts _ tw_378) (fun _ h9 => h9) rfl dX5_add_29 ?_
  refine lv_iload_n hx hb dX5_add_32 rfl (lv_at hl 3 rfl) ?_
  refine z_callSNv (As := [.ref r_compares, .int r_lines, .int i1]) (rest := []) (wr := [(r, .inr (5, [.int r_lines, .int r_steps, .int r_asksSure, .ref r_kinds, .ref r_features, .ref r_compares, .ref r_numbers, .ref r_partners])), (r_numbers, .inl (cA.1 0, 60, .inl c_r_numbers)), (r_kinds, .inl (cA.1 0, 60, .inl nw0_1)), (r_features, .inl (cA.1 0, 60, .inl nw0_5))]) ⟨hx, hb, hml, hown, hts⟩ hK hE hT hP hD hS hA (d_keepAt_60 l G cA r_compares c_r_compares r_lines i1) lk_RX5_48 ⟨rfl, rfl⟩ ⟨Nat.le_of_ble_eq_true rfl, Nat.le_of_ble_eq_true rfl⟩ [1] [0, 2, 3, 4] rfl rfl (by decide) rfl hl.1 rfl (lv_room (Nat.le_of_ble_eq_true rfl)) dX5_add_33 ⟨Nat.le_of_ble_eq_true rfl, Nat.le_of_ble_eq_true rfl⟩ (fun u_11 H locs hw hP hD hS => ?_)
  obtain ⟨nw0_9, rfl⟩ : ∃ z, z = u_11 := ⟨_, rfl⟩
  have hP : va_P G vwCl [(r, .inr (5, [.int r_lines, .int r_steps, .int r_asksSure, .ref r_kinds, .ref r_features, .ref r_compares, .ref r_numbers, .ref r_partners])), (r_numbers, .inl (cA.1 0, 60, .inl c_r_numbers)), (r_kinds, .inl (cA.1 0, 60, .inl nw0_1)), (r_features, .inl (cA.1 0, 60, .inl nw0_5)), (r_compares, .inl (cA.1 0, 60, .inl nw0_9))] H := hP
  have hD : va_D A [(r, .inr (5, [.int r_lines, .int r_steps, .int r_asksSure, .ref r_kinds, .ref r_features, .ref r_compares, .ref r_numbers, .ref r_partners])), (r_numbers, .inl (cA.1 0, 60, .inl c_r_numbers)), (r_kinds, .inl (cA.1 0, 60, .inl nw0_1)), (r_features, .inl (cA.1 0, 60, .inl nw0_5)), (r_compares, .inl (cA.1 0, 60, .inl nw0_9))] := hD
  obtain ⟨he_nw0_9, hw⟩ := hw
  refine lv_aload_n hx hb dX5_add_36 rfl (lv_at hl 0 rfl) ?_
  refine va_get (D := G) (ci := 5) (v := .ref r_numbers) (C := RX5) (T := TX5) (N := 8) hx hb hts inT5 hown hK hP 0 rfl rfl 6 (by decide) (hts _ tw_389) (fun _ h9 => h9) rfl dX5_add_37 ?_
  refine lv_aload_n hx hb dX5_add_40 rfl (lv_at hl 0 rfl) ?_
  refine va_get (D := G) (ci := 5) (v := .int r_lines) (C := RX5) (T := TX5) (N := 8) hx hb hts inT5 hown hK hP 0 rfl rfl 0 (by decide) (hts _ tw_378) (fun _ h9 => h9) rfl dX5_add_41 ?_
  refine lv_iload hx hb dX5_add_44 (lv_at hl 4 rfl) ?_
  refine z_callSNv (As := [.ref r_numbers, .int r_lines, .int i2]) (rest := []) (wr := [(r, .inr (5, [.int r_lines, .int r_steps, .int r_asksSure, .ref r_kinds, .ref r_features, .ref r_compares, .ref r_numbers, .ref r_partners])), (r_kinds, .inl (cA.1 0, 60, .inl nw0_1)), (r_features, .inl (cA.1 0, 60, .inl nw0_5)), (r_compares, .inl (cA.1 0, 60, .inl nw0_9))]) ⟨hx, hb, hml, hown, hts⟩ hK hE hT hP hD hS hA (d_keepAt_60 l G cA r_numbers c_r_numbers r_lines i2) lk_RX5_48 ⟨rfl, rfl⟩ ⟨Nat.le_of_ble_eq_true rfl, Nat.le_of_ble_eq_true rfl⟩ [1] [0, 2, 3, 4] rfl rfl (by decide) rfl hl.1 rfl (lv_room (Nat.le_of_ble_eq_true rfl)) dX5_add_46 ⟨Nat.le_of_ble_eq_true rfl, Nat.le_of_ble_eq_true rfl⟩ (fun u_15 H locs hw hP hD hS => ?_)
  obtain ⟨nw0_13, rfl⟩ : ∃ z, z = u_15 := ⟨_, rfl⟩
  have hP : va_P G vwCl [(r, .inr (5, [.int r_lines, .int r_steps, .int r_asksSure, .ref r_kinds, .ref r_features, .ref r_compares, .ref r_numbers, .ref r_partners])), (r_kinds, .inl (cA.1 0, 60, .inl nw0_1)), (r_features, .inl (cA.1 0, 60, .inl nw0_5)), (r_compares, .inl (cA.1 0, 60, .inl nw0_9)), (r_numbers, .inl (cA.1 0, 60, .inl nw0_13))] H := hP
  have hD : va_D A [(r, .inr (5, [.int r_lines, .int r_steps, .int r_asksSure, .ref r_kinds, .ref r_features, .ref r_compares, .ref r_numbers, .ref r_partners])), (r_kinds, .inl (cA.1 0, 60, .inl nw0_1)), (r_features, .inl (cA.1 0, 60, .inl nw0_5)), (r_compares, .inl (cA.1 0, 60, .inl nw0_9)), (r_numbers, .inl (cA.1 0, 60, .inl nw0_13))] := hD
  obtain ⟨he_nw0_13, hw⟩ := hw
  refine lv_aload_n hx hb dX5_add_49 rfl (lv_at hl 0 rfl) ?_
  refine lv_dup hx hb dX5_add_50 rfl ?_
  refine va_get (D := G) (ci := 5) (v := .int r_lines) (C := RX5) (T := TX5) (N := 8) hx hb hts inT5 hown hK hP 0 rfl rfl 0 (by decide) (hts _ tw_378) (fun _ h9 => h9) rfl dX5_add_51 ?_
  refine lv_iconst (v := 1) hx hb dX5_add_54 (by decide) ?_
  refine lv_iadd hx hb dX5_add_55 ?_
  refine va_put (D := G) (ci := 5) (v := .int (r_lines + 1)) (ty := .int) (C := RX5) (T := TX5) (N := 8) hx hb hts inT5 tyX5 tyX5_ok nmX5 hown hK hP hD hS 0 rfl rfl 0 (by decide) (hts _ tw_378) (fun _ h9 => h9) rfl (tyX5_ok 0 (by decide)) rfl rfl (Nat.le_of_ble_eq_true rfl) dX5_add_56 (fun H locs hP hD hS => ?_)
  have hP : va_P G vwCl [(r, .inr (5, [.int (r_lines + 1), .int r_steps, .int r_asksSure, .ref r_kinds, .ref r_features, .ref r_compares, .ref r_numbers, .ref r_partners])), (r_kinds, .inl (cA.1 0, 60, .inl nw0_1)), (r_features, .inl (cA.1 0, 60, .inl nw0_5)), (r_compares, .inl (cA.1 0, 60, .inl nw0_9)), (r_numbers, .inl (cA.1 0, 60, .inl nw0_13))] H := hP
  have hD : va_D A [(r, .inr (5, [.int (r_lines + 1), .int r_steps, .int r_asksSure, .ref r_kinds, .ref r_features, .ref r_compares, .ref r_numbers, .ref r_partners])), (r_kinds, .inl (cA.1 0, 60, .inl nw0_1)), (r_features, .inl (cA.1 0, 60, .inl nw0_5)), (r_compares, .inl (cA.1 0, 60, .inl nw0_9)), (r_numbers, .inl (cA.1 0, 60, .inl nw0_13))] := hD
  refine lv_iload_n hx hb dX5_add_59 rfl (lv_at hl 1 rfl) ?_
  refine lv_bipush (v := 10) hx hb dX5_add_60 (by decide) ?_
  refine lv_icmp_eq (tgt := 75) hx hb dX5_add_62 (by decide) (fun c_17 => ?_) (fun c_17 => ?_)
  · skip
    refine lv_iload_n hx hb dX5_add_75 rfl (lv_at hl 1 rfl) ?_
    refine lv_bipush (v := 7) hx hb dX5_add_76 (by decide) ?_
    refine lv_icmp_ne (tgt := 86) hx hb dX5_add_78 (by decide) (fun c_19 => ?_) (fun c_19 => ?_)
    · skip
      have hX_21 : F_Ru_add r_lines r_steps r_asksSure c_r_kinds c_r_features c_r_compares c_r_numbers k j i1 i2 = (((r_lines + 1), nw0_1, nw0_5, nw0_9, nw0_13, r_asksSure, r_steps) : Int32 × (Nat → Int32) × (Nat → Int32) × (Nat → Int32) × (Nat → Int32) × Int32 × Int32) := by
        refine (F_Ru_add_s ..).trans ?_
        extract_lets -merge -useContext +onlyGivenNames w9 y9; have e9 : nw0_1 = w9 := he_nw0_1; clear_value w9; subst e9
        extract_lets -merge -useContext +onlyGivenNames w9 y9; have e9 : nw0_5 = w9 := he_nw0_5; clear_value w9; subst e9
        extract_lets -merge -useContext +onlyGivenNames w9 y9; have e9 : nw0_9 = w9 := he_nw0_9; clear_value w9; subst e9
        extract_lets -merge -useContext +onlyGivenNames w9 y9; have e9 : nw0_13 = w9 := he_nw0_13; clear_value w9; subst e9
        refine (if_pos c_17).trans ?_
        refine (if_neg c_19).trans ?_
        exact rfl
      exact hret _ _ _ _ _ ((r_lines + 1), nw0_1, nw0_5, nw0_9, nw0_13, r_asksSure, r_steps) [0, 1, 2, 3, 4] hP hD hS rfl (by decide) dX5_add_86 ⟨(congrArg (fun z9 => z9.1) hX_21).symm, (congrArg (fun z9 => z9.2.1) hX_21).symm, (congrArg (fun z9 => z9.2.2.1) hX_21).symm, (congrArg (fun z9 => z9.2.2.2.1) hX_21).symm, (congrArg (fun z9 => z9.2.2.2.2.1) hX_21).symm, (congrArg (fun z9 => z9.2.2.2.2.2.1) hX_21).symm, (congrArg (fun z9 => z9.2.2.2.2.2.2) hX_21).symm, hz_r_asksSure⟩
    · skip
      refine lv_aload_n hx hb dX5_add_81 rfl (lv_at hl 0 rfl) ?_
      refine lv_iconst (v := 1) hx hb dX5_add_82 (by decide) ?_
      refine va_put (D := G) (ci := 5) (v := .int 1) (ty := .boolean) (C := RX5) (T := TX5) (N := 8) hx hb hts inT5 tyX5 tyX5_ok nmX5 hown hK hP hD hS 0 rfl rfl 2 (by decide) (hts _ tw_384) (fun _ h9 => h9) rfl (tyX5_ok 2 (by decide)) rfl rfl (Nat.le_of_ble_eq_true rfl) dX5_add_83 (fun H locs hP hD hS => ?_)
      have hP : va_P G vwCl [(r, .inr (5, [.int (r_lines + 1), .int r_steps, .int 1, .ref r_kinds, .ref r_features, .ref r_compares, .ref r_numbers, .ref r_partners])), (r_kinds, .inl (cA.1 0, 60, .inl nw0_1)), (r_features, .inl (cA.1 0, 60, .inl nw0_5)), (r_compares, .inl (cA.1 0, 60, .inl nw0_9)), (r_numbers, .inl (cA.1 0, 60, .inl nw0_13))] H := hP
      have hD : va_D A [(r, .inr (5, [.int (r_lines + 1), .int r_steps, .int 1, .ref r_kinds, .ref r_features, .ref r_compares, .ref r_numbers, .ref r_partners])), (r_kinds, .inl (cA.1 0, 60, .inl nw0_1)), (r_features, .inl (cA.1 0, 60, .inl nw0_5)), (r_compares, .inl (cA.1 0, 60, .inl nw0_9)), (r_numbers, .inl (cA.1 0, 60, .inl nw0_13))] := hD
      have hX_23 : F_Ru_add r_lines r_steps r_asksSure c_r_kinds c_r_features c_r_compares c_r_numbers k j i1 i2 = (((r_lines + 1), nw0_1, nw0_5, nw0_9, nw0_13, (1 : Int32), r_steps) : Int32 × (Nat → Int32) × (Nat → Int32) × (Nat → Int32) × (Nat → Int32) × Int32 × Int32) := by
        refine (F_Ru_add_s ..).trans ?_
        extract_lets -merge -useContext +onlyGivenNames w9 y9; have e9 : nw0_1 = w9 := he_nw0_1; clear_value w9; subst e9
        extract_lets -merge -useContext +onlyGivenNames w9 y9; have e9 : nw0_5 = w9 := he_nw0_5; clear_value w9; subst e9
        extract_lets -merge -useContext +onlyGivenNames w9 y9; have e9 : nw0_9 = w9 := he_nw0_9; clear_value w9; subst e9
        extract_lets -merge -useContext +onlyGivenNames w9 y9; have e9 : nw0_13 = w9 := he_nw0_13; clear_value w9; subst e9
        refine (if_pos c_17).trans ?_
        refine (if_pos c_19).trans ?_
        exact rfl
      exact hret _ _ _ _ _ ((r_lines + 1), nw0_1, nw0_5, nw0_9, nw0_13, 1, r_steps) [0, 1, 2, 3, 4] hP hD hS rfl (by decide) dX5_add_86 ⟨(congrArg (fun z9 => z9.1) hX_23).symm, (congrArg (fun z9 => z9.2.1) hX_23).symm, (congrArg (fun z9 => z9.2.2.1) hX_23).symm, (congrArg (fun z9 => z9.2.2.2.1) hX_23).symm, (congrArg (fun z9 => z9.2.2.2.2.1) hX_23).symm, (congrArg (fun z9 => z9.2.2.2.2.2.1) hX_23).symm, (congrArg (fun z9 => z9.2.2.2.2.2.2) hX_23).symm, (Or.inr rfl)⟩
  · skip
    refine lv_aload_n hx hb dX5_add_65 rfl (lv_at hl 0 rfl) ?_
    refine lv_dup hx hb dX5_add_66 rfl ?_
    refine va_get (D := G) (ci := 5) (v := .int r_steps) (C := RX5) (T := TX5) (N := 8) hx hb hts inT5 hown hK hP 0 rfl rfl 1 (by decide) (hts _ tw_381) (fun _ h9 => h9) rfl dX5_add_67 ?_
    refine lv_iconst (v := 1) hx hb dX5_add_70 (by decide) ?_
    refine lv_iadd hx hb dX5_add_71 ?_
    refine va_put (D := G) (ci := 5) (v := .int (r_steps + 1)) (ty := .int) (C := RX5) (T := TX5) (N := 8) hx hb hts inT5 tyX5 tyX5_ok nmX5 hown hK hP hD hS 0 rfl rfl 1 (by decide) (hts _ tw_381) (fun _ h9 => h9) rfl (tyX5_ok 1 (by decide)) rfl rfl (Nat.le_of_ble_eq_true rfl) dX5_add_72 (fun H locs hP hD hS => ?_)
    have hP : va_P G vwCl [(r, .inr (5, [.int (r_lines + 1), .int (r_steps + 1), .int r_asksSure, .ref r_kinds, .ref r_features, .ref r_compares, .ref r_numbers, .ref r_partners])), (r_kinds, .inl (cA.1 0, 60, .inl nw0_1)), (r_features, .inl (cA.1 0, 60, .inl nw0_5)), (r_compares, .inl (cA.1 0, 60, .inl nw0_9)), (r_numbers, .inl (cA.1 0, 60, .inl nw0_13))] H := hP
    have hD : va_D A [(r, .inr (5, [.int (r_lines + 1), .int (r_steps + 1), .int r_asksSure, .ref r_kinds, .ref r_features, .ref r_compares, .ref r_numbers, .ref r_partners])), (r_kinds, .inl (cA.1 0, 60, .inl nw0_1)), (r_features, .inl (cA.1 0, 60, .inl nw0_5)), (r_compares, .inl (cA.1 0, 60, .inl nw0_9)), (r_numbers, .inl (cA.1 0, 60, .inl nw0_13))] := hD
    refine lv_iload_n hx hb dX5_add_75 rfl (lv_at hl 1 rfl) ?_
    refine lv_bipush (v := 7) hx hb dX5_add_76 (by decide) ?_
    refine lv_icmp_ne (tgt := 86) hx hb dX5_add_78 (by decide) (fun c_25 => ?_) (fun c_25 => ?_)
    · skip
      have hX_27 : F_Ru_add r_lines r_steps r_asksSure c_r_kinds c_r_features c_r_compares c_r_numbers k j i1 i2 = (((r_lines + 1), nw0_1, nw0_5, nw0_9, nw0_13, r_asksSure, (r_steps + 1)) : Int32 × (Nat → Int32) × (Nat → Int32) × (Nat → Int32) × (Nat → Int32) × Int32 × Int32) := by
        refine (F_Ru_add_s ..).trans ?_
        extract_lets -merge -useContext +onlyGivenNames w9 y9; have e9 : nw0_1 = w9 := he_nw0_1; clear_value w9; subst e9
        extract_lets -merge -useContext +onlyGivenNames w9 y9; have e9 : nw0_5 = w9 := he_nw0_5; clear_value w9; subst e9
        extract_lets -merge -useContext +onlyGivenNames w9 y9; have e9 : nw0_9 = w9 := he_nw0_9; clear_value w9; subst e9
        extract_lets -merge -useContext +onlyGivenNames w9 y9; have e9 : nw0_13 = w9 := he_nw0_13; clear_value w9; subst e9
        refine (if_neg c_17).trans ?_
        refine (if_neg c_25).trans ?_
        exact rfl
      exact hret _ _ _ _ _ ((r_lines + 1), nw0_1, nw0_5, nw0_9, nw0_13, r_asksSure, (r_steps + 1)) [0, 1, 2, 3, 4] hP hD hS rfl (by decide) dX5_add_86 ⟨(congrArg (fun z9 => z9.1) hX_27).symm, (congrArg (fun z9 => z9.2.1) hX_27).symm, (congrArg (fun z9 => z9.2.2.1) hX_27).symm, (congrArg (fun z9 => z9.2.2.2.1) hX_27).symm, (congrArg (fun z9 => z9.2.2.2.2.1) hX_27).symm, (congrArg (fun z9 => z9.2.2.2.2.2.1) hX_27).symm, (congrArg (fun z9 => z9.2.2.2.2.2.2) hX_27).symm, hz_r_asksSure⟩
    · skip
      refine lv_aload_n hx hb dX5_add_81 rfl (lv_at hl 0 rfl) ?_
      refine lv_iconst (v := 1) hx hb dX5_add_82 (by decide) ?_
      refine va_put (D := G) (ci := 5) (v := .int 1) (ty := .boolean) (C := RX5) (T := TX5) (N := 8) hx hb hts inT5 tyX5 tyX5_ok nmX5 hown hK hP hD hS 0 rfl rfl 2 (by decide) (hts _ tw_384) (fun _ h9 => h9) rfl (tyX5_ok 2 (by decide)) rfl rfl (Nat.le_of_ble_eq_true rfl) dX5_add_83 (fun H locs hP hD hS => ?_)
      have hP : va_P G vwCl [(r, .inr (5, [.int (r_lines + 1), .int (r_steps + 1), .int 1, .ref r_kinds, .ref r_features, .ref r_compares, .ref r_numbers, .ref r_partners])), (r_kinds, .inl (cA.1 0, 60, .inl nw0_1)), (r_features, .inl (cA.1 0, 60, .inl nw0_5)), (r_compares, .inl (cA.1 0, 60, .inl nw0_9)), (r_numbers, .inl (cA.1 0, 60, .inl nw0_13))] H := hP
      have hD : va_D A [(r, .inr (5, [.int (r_lines + 1), .int (r_steps + 1), .int 1, .ref r_kinds, .ref r_features, .ref r_compares, .ref r_numbers, .ref r_partners])), (r_kinds, .inl (cA.1 0, 60, .inl nw0_1)), (r_features, .inl (cA.1 0, 60, .inl nw0_5)), (r_compares, .inl (cA.1 0, 60, .inl nw0_9)), (r_numbers, .inl (cA.1 0, 60, .inl nw0_13))] := hD
      have hX_29 : F_Ru_add r_lines r_steps r_asksSure c_r_kinds c_r_features c_r_compares c_r_numbers k j i1 i2 = (((r_lines + 1), nw0_1, nw0_5, nw0_9, nw0_13, (1 : Int32), (r_steps + 1)) : Int32 × (Nat → Int32) × (Nat → Int32) × (Nat → Int32) × (Nat → Int32) × Int32 × Int32) := by
        refine (F_Ru_add_s ..).trans ?_
        extract_lets -merge -useContext +onlyGivenNames w9 y9; have e9 : nw0_1 = w9 := he_nw0_1; clear_value w9; subst e9
        extract_lets -merge -useContext +onlyGivenNames w9 y9; have e9 : nw0_5 = w9 := he_nw0_5; clear_value w9; subst e9
        extract_lets -merge -useContext +onlyGivenNames w9 y9; have e9 : nw0_9 = w9 := he_nw0_9; clear_value w9; subst e9
        extract_lets -merge -useContext +onlyGivenNames w9 y9; have e9 : nw0_13 = w9 := he_nw0_13; clear_value w9; subst e9
        refine (if_neg c_17).trans ?_
        refine (if_pos c_25).trans ?_
        exact rfl
      exact hret _ _ _ _ _ ((r_lines + 1), nw0_1, nw0_5, nw0_9, nw0_13, 1, (r_steps + 1)) [0, 1, 2, 3, 4] hP hD hS rfl (by decide) dX5_add_86 ⟨(congrArg (fun z9 => z9.1) hX_29).symm, (congrArg (fun z9 => z9.2.1) hX_29).symm, (congrArg (fun z9 => z9.2.2.1) hX_29).symm, (congrArg (fun z9 => z9.2.2.2.1) hX_29).symm, (congrArg (fun z9 => z9.2.2.2.2.1) hX_29).symm, (congrArg (fun z9 => z9.2.2.2.2.2.1) hX_29).symm, (congrArg (fun z9 => z9.2.2.2.2.2.2) hX_29).symm, (Or.inr rfl)⟩
set_option maxHeartbeats 40000000 in
set_option maxRecDepth 100000 in
theorem d_Ru_pair (l : Launch) (G : va_G) (cA : zCA) (r : Nat) (r_lines : Int32) (r_steps : Int32) (r_asksSure : Int32) (r_kinds : Nat) (r_features : Nat) (r_compares : Nat) (r_numbers : Nat) (r_partners : Nat) (c_r_partners : Nat → Int32) (k : Int32) (j : Int32) (hz_r_asksSure : r_asksSure = 0 ∨ r_asksSure = 1) : zCv l yX5_pair cX5_pair 3 none ({ frames := 1, cells := 0, slots := 0, locals := 22 }) G cA [.ref r, .int k, .int j] [(r, .inr (5, [.int r_lines, .int r_steps, .int r_asksSure, .ref r_kinds, .ref r_features, .ref r_compares, .ref r_numbers, .ref r_partners])), (r_partners, .inl (cA.1 0, 60, .inl c_r_partners))] (S := (Nat → Int32)) (fun (u : (Nat → Int32)) => (u = (F_Ru_pair c_r_partners k j)) ∧ (True)) (fun (u : (Nat → Int32)) => [(r, .inr (5, [.int r_lines, .int r_steps, .int r_asksSure, .ref r_kinds, .ref r_features, .ref r_compares, .ref r_numbers, .ref r_partners])), (r_partners, .inl (cA.1 0, 60, .inl u))]) 0 0 := by
  refine z_start2v (own := RX5) (by decide) (Nat.le_of_ble_eq_true rfl) rfl ?_
  intro p e s m args below meth c A ls Q hx hb hml hts hown hK hE hT hP hD hS hA hl hret
  have hl : lv_has ls 3 [(0, .ref r), (1, .int k), (2, .int j)] := hl
  refine lv_aload_n hx hb dX5_pair_0 rfl (lv_at hl 0 rfl) ?_
  refine va_get (D := G) (ci := 5) (v := .ref r_partners) (C := RX5) (T := TX5) (N := 8) hx hb hts inT5 hown hK hP 0 rfl rfl 7 (by decide) (hts _ tw_390) (fun _ h9 => h9) rfl dX5_pair_1 ?_
  refine lv_iload_n hx hb dX5_pair_4 rfl (lv_at hl 1 rfl) ?_
  refine lv_iload_n hx hb dX5_pair_5 rfl (lv_at hl 2 rfl) ?_
  refine z_callSNv (As := [.ref r_partners, .int k, .int j]) (rest := []) (wr := [(r, .inr (5, [.int r_lines, .int r_steps, .int r_asksSure, .ref r_kinds, .ref r_features, .ref r_compares, .ref r_numbers, .ref r_partners]))]) ⟨hx, hb, hml, hown, hts⟩ hK hE hT hP hD hS hA (d_keepAt_60 l G cA r_partners c_r_partners k j) lk_RX5_48 ⟨rfl, rfl⟩ ⟨Nat.le_of_ble_eq_true rfl, Nat.le_of_ble_eq_true rfl⟩ [1] [0] rfl rfl (by decide) rfl hl.1 rfl (lv_room (Nat.le_of_ble_eq_true rfl)) dX5_pair_6 ⟨Nat.le_of_ble_eq_true rfl, Nat.le_of_ble_eq_true rfl⟩ (fun u_3 H locs hw hP hD hS => ?_)
  obtain ⟨nw0_1, rfl⟩ : ∃ z, z = u_3 := ⟨_, rfl⟩
  have hP : va_P G vwCl [(r, .inr (5, [.int r_lines, .int r_steps, .int r_asksSure, .ref r_kinds, .ref r_features, .ref r_compares, .ref r_numbers, .ref r_partners])), (r_partners, .inl (cA.1 0, 60, .inl nw0_1))] H := hP
  have hD : va_D A [(r, .inr (5, [.int r_lines, .int r_steps, .int r_asksSure, .ref r_kinds, .ref r_features, .ref r_compares, .ref r_numbers, .ref r_partners])), (r_partners, .inl (cA.1 0, 60, .inl nw0_1))] := hD
  obtain ⟨he_nw0_1, hw⟩ := hw
  refine lv_aload_n hx hb dX5_pair_9 rfl (lv_at hl 0 rfl) ?_
  refine va_get (D := G) (ci := 5) (v := .ref r_partners) (C := RX5) (T := TX5) (N := 8) hx hb hts inT5 hown hK hP 0 rfl rfl 7 (by decide) (hts _ tw_390) (fun _ h9 => h9) rfl dX5_pair_10 ?_
  refine lv_iload_n hx hb dX5_pair_13 rfl (lv_at hl 2 rfl) ?_
  refine lv_iload_n hx hb dX5_pair_14 rfl (lv_at hl 1 rfl) ?_
  refine z_callSNv (As := [.ref r_partners, .int j, .int k]) (rest := []) (wr := [(r, .inr (5, [.int r_lines, .int r_steps, .int r_asksSure, .ref r_kinds, .ref r_features, .ref r_compares, .ref r_numbers, .ref r_partners]))]) ⟨hx, hb, hml, hown, hts⟩ hK hE hT hP hD hS hA (d_keepAt_60 l G cA r_partners nw0_1 j k) lk_RX5_48 ⟨rfl, rfl⟩ ⟨Nat.le_of_ble_eq_true rfl, Nat.le_of_ble_eq_true rfl⟩ [1] [0] rfl rfl (by decide) rfl hl.1 rfl (lv_room (Nat.le_of_ble_eq_true rfl)) dX5_pair_15 ⟨Nat.le_of_ble_eq_true rfl, Nat.le_of_ble_eq_true rfl⟩ (fun u_7 H locs hw hP hD hS => ?_)
  obtain ⟨nw0_5, rfl⟩ : ∃ z, z = u_7 := ⟨_, rfl⟩
  have hP : va_P G vwCl [(r, .inr (5, [.int r_lines, .int r_steps, .int r_asksSure, .ref r_kinds, .ref r_features, .ref r_compares, .ref r_numbers, .ref r_partners])), (r_partners, .inl (cA.1 0, 60, .inl nw0_5))] H := hP
  have hD : va_D A [(r, .inr (5, [.int r_lines, .int r_steps, .int r_asksSure, .ref r_kinds, .ref r_features, .ref r_compares, .ref r_numbers, .ref r_partners])), (r_partners, .inl (cA.1 0, 60, .inl nw0_5))] := hD
  obtain ⟨he_nw0_5, hw⟩ := hw
  have hX_9 : F_Ru_pair c_r_partners k j = (nw0_5 : (Nat → Int32)) := by
    refine (F_Ru_pair_s ..).trans ?_
    extract_lets -merge -useContext +onlyGivenNames w9 y9; have e9 : nw0_1 = w9 := he_nw0_1; clear_value w9; subst e9
    extract_lets -merge -useContext +onlyGivenNames w9 y9; have e9 : nw0_5 = w9 := he_nw0_5; clear_value w9; subst e9
    exact rfl
  exact hret _ _ _ _ _ nw0_5 [0, 1] hP hD hS rfl (by decide) dX5_pair_18 ⟨(congrArg (fun z9 => z9) hX_9).symm, trivial⟩
set_option maxHeartbeats 40000000 in
set_option maxRecDepth 100000 in
theorem d_Ru_clear (l : Launch) (G : va_G) (cA : zCA) (r : Nat) (r_lines : Int32) (r_steps : Int32) (r_asksSure : Int32) (r_kinds : Nat) (r_features : Nat) (r_compares : Nat) (r_numbers : Nat) (r_partners : Nat) (hz_r_asksSure : r_asksSure = 0 ∨ r_asksSure = 1) : zCv l yX5_clear cX5_clear 1 none ({ frames := 0, cells := 0, slots := 0, locals := 0 }) G cA [.ref r] [(r, .inr (5, [.int r_lines, .int r_steps, .int r_asksSure, .ref r_kinds, .ref r_features, .ref r_compares, .ref r_numbers, .ref r_partners]))] (S := Int32 × Int32 × Int32) (fun (u : Int32 × Int32 × Int32) => (u.1 = (F_Ru_clear).1) ∧ (u.2.1 = (F_Ru_clear).2.1) ∧ (u.2.2 = (F_Ru_clear).2.2) ∧ (u.2.2 = 0 ∨ u.2.2 = 1)) (fun (u : Int32 × Int32 × Int32) => [(r, .inr (5, [.int u.1, .int u.2.1, .int u.2.2, .ref r_kinds, .ref r_features, .ref r_compares, .ref r_numbers, .ref r_partners]))]) 0 0 := by
  refine z_start2v (own := RX5) (by decide) (Nat.le_of_ble_eq_true rfl) rfl ?_
  intro p e s m args below meth c A ls Q hx hb hml hts hown hK hE hT hP hD hS hA hl hret
  have hl : lv_has ls 1 [(0, .ref r)] := hl
  refine lv_aload_n hx hb dX5_clear_0 rfl (lv_at hl 0 rfl) ?_
  refine lv_iconst (v := 0) hx hb dX5_clear_1 (by decide) ?_
  refine va_put (D := G) (ci := 5) (v := .int 0) (ty := .int) (C := RX5) (T := TX5) (N := 8) hx hb hts inT5 tyX5 tyX5_ok nmX5 hown hK hP hD hS 0 rfl rfl 0 (by decide) (hts _ tw_378) (fun _ h9 => h9) rfl (tyX5_ok 0 (by decide)) rfl rfl (Nat.le_of_ble_eq_true rfl) dX5_clear_2 (fun H locs hP hD hS => ?_)
  have hP : va_P G vwCl [(r, .inr (5, [.int 0, .int r_steps, .int r_asksSure, .ref r_kinds, .ref r_features, .ref r_compares, .ref r_numbers, .ref r_partners]))] H := hP
  have hD : va_D A [(r, .inr (5, [.int 0, .int r_steps, .int r_asksSure, .ref r_kinds, .ref r_features, .ref r_compares, .ref r_numbers, .ref r_partners]))] := hD
  refine lv_aload_n hx hb dX5_clear_5 rfl (lv_at hl 0 rfl) ?_
  refine lv_iconst (v := 0) hx hb dX5_clear_6 (by decide) ?_
  refine va_put (D := G) (ci := 5) (v := .int 0) (ty := .int) (C := RX5) (T := TX5) (N := 8) hx hb hts inT5 tyX5 tyX5_ok nmX5 hown hK hP hD hS 0 rfl rfl 1 (by decide) (hts _ tw_381) (fun _ h9 => h9) rfl (tyX5_ok 1 (by decide)) rfl rfl (Nat.le_of_ble_eq_true rfl) dX5_clear_7 (fun H locs hP hD hS => ?_)
  have hP : va_P G vwCl [(r, .inr (5, [.int 0, .int 0, .int r_asksSure, .ref r_kinds, .ref r_features, .ref r_compares, .ref r_numbers, .ref r_partners]))] H := hP
  have hD : va_D A [(r, .inr (5, [.int 0, .int 0, .int r_asksSure, .ref r_kinds, .ref r_features, .ref r_compares, .ref r_numbers, .ref r_partners]))] := hD
  refine lv_aload_n hx hb dX5_clear_10 rfl (lv_at hl 0 rfl) ?_
  refine lv_iconst (v := 0) hx hb dX5_clear_11 (by decide) ?_
  refine va_put (D := G) (ci := 5) (v := .int 0) (ty := .boolean) (C := RX5) (T := TX5) (N := 8) hx hb hts inT5 tyX5 tyX5_ok nmX5 hown hK hP hD hS 0 rfl rfl 2 (by decide) (hts _ tw_384) (fun _ h9 => h9) rfl (tyX5_ok 2 (by decide)) rfl rfl (Nat.le_of_ble_eq_true rfl) dX5_clear_12 (fun H locs hP hD hS => ?_)
  have hP : va_P G vwCl [(r, .inr (5, [.int 0, .int 0, .int 0, .ref r_kinds, .ref r_features, .ref r_compares, .ref r_numbers, .ref r_partners]))] H := hP
  have hD : va_D A [(r, .inr (5, [.int 0, .int 0, .int 0, .ref r_kinds, .ref r_features, .ref r_compares, .ref r_numbers, .ref r_partners]))] := hD
  have hX_1 : F_Ru_clear = (((0 : Int32), (0 : Int32), (0 : Int32)) : Int32 × Int32 × Int32) := by
    refine (F_Ru_clear_s ..).trans ?_
    exact rfl
  exact hret _ _ _ _ _ (0, 0, 0) [0] hP hD hS rfl (by decide) dX5_clear_15 ⟨(congrArg (fun z9 => z9.1) hX_1).symm, (congrArg (fun z9 => z9.2.1) hX_1).symm, (congrArg (fun z9 => z9.2.2) hX_1).symm, (Or.inl rfl)⟩
set_option maxHeartbeats 40000000 in
set_option maxRecDepth 100000 in
theorem d_Ru_copy (l : Launch) (G : va_G) (cA : zCA) (r : Nat) (r_lines : Int32) (r_steps : Int32) (r_asksSure : Int32) (r_kinds : Nat) (r_features : Nat) (r_compares : Nat) (r_numbers : Nat) (r_partners : Nat) (c_r_kinds : Nat → Int32) (c_r_features : Nat → Int32) (c_r_compares : Nat → Int32) (c_r_numbers : Nat → Int32) (c_r_partners : Nat → Int32) (rf : Nat) (rf_lines : Int32) (rf_steps : Int32) (rf_asksSure : Int32) (rf_kinds : Nat) (rf_features : Nat) (rf_compares : Nat) (rf_numbers : Nat) (rf_partners : Nat) (c_rf_kinds : Nat → Int32) (c_rf_features : Nat → Int32) (c_rf_compares : Nat → Int32) (c_rf_numbers : Nat → Int32) (c_rf_partners : Nat → Int32) (hz_r_asksSure : r_asksSure = 0 ∨ r_asksSure = 1) (hz_rf_asksSure : rf_asksSure = 0 ∨ rf_asksSure = 1) : zCv l yX5_copy cX5_copy 2 none ({ frames := 1, cells := 0, slots := 0, locals := 80 }) G cA [.ref rf, .ref r] [(r, .inr (5, [.int r_lines, .int r_steps, .int r_asksSure, .ref r_kinds, .ref r_features, .ref r_compares, .ref r_numbers, .ref r_partners])), (r_kinds, .inl (cA.1 0, 60, .inl c_r_kinds)), (r_features, .inl (cA.1 0, 60, .inl c_r_features)), (r_compares, .inl (cA.1 0, 60, .inl c_r_compares)), (r_numbers, .inl (cA.1 0, 60, .inl c_r_numbers)), (r_partners, .inl (cA.1 0, 60, .inl c_r_partners)), (rf, .inr (5, [.int rf_lines, .int rf_steps, .int rf_asksSure, .ref rf_kinds, .ref rf_features, .ref rf_compares, .ref rf_numbers, .ref rf_partners])), (rf_kinds, .inl (cA.1 0, 60, .inl c_rf_kinds)), (rf_features, .inl (cA.1 0, 60, .inl c_rf_features)), (rf_compares, .inl (cA.1 0, 60, .inl c_rf_compares)), (rf_numbers, .inl (cA.1 0, 60, .inl c_rf_numbers)), (rf_partners, .inl (cA.1 0, 60, .inl c_rf_partners))] (S := Int32 × Int32 × Int32 × (Nat → Int32) × (Nat → Int32) × (Nat → Int32) × (Nat → Int32) × (Nat → Int32)) (fun (u : Int32 × Int32 × Int32 × (Nat → Int32) × (Nat → Int32) × (Nat → Int32) × (Nat → Int32) × (Nat → Int32)) => (u.1 = (F_Ru_copy c_r_kinds c_r_features c_r_compares c_r_numbers c_r_partners rf_lines rf_steps rf_asksSure c_rf_kinds c_rf_features c_rf_compares c_rf_numbers c_rf_partners).1) ∧ (u.2.1 = (F_Ru_copy c_r_kinds c_r_features c_r_compares c_r_numbers c_r_partners rf_lines rf_steps rf_asksSure c_rf_kinds c_rf_features c_rf_compares c_rf_numbers c_rf_partners).2.1) ∧ (u.2.2.1 = (F_Ru_copy c_r_kinds c_r_features c_r_compares c_r_numbers c_r_partners rf_lines rf_steps rf_asksSure c_rf_kinds c_rf_features c_rf_compares c_rf_numbers c_rf_partners).2.2.1) ∧ (u.2.2.2.1 = (F_Ru_copy c_r_kinds c_r_features c_r_compares c_r_numbers c_r_partners rf_lines rf_steps rf_asksSure c_rf_kinds c_rf_features c_rf_compares c_rf_numbers c_rf_partners).2.2.2.1) ∧ (u.2.2.2.2.1 = (F_Ru_copy c_r_kinds c_r_features c_r_compares c_r_numbers c_r_partners rf_lines rf_steps rf_asksSure c_rf_kinds c_rf_features c_rf_compares c_rf_numbers c_rf_partners).2.2.2.2.1) ∧ (u.2.2.2.2.2.1 = (F_Ru_copy c_r_kinds c_r_features c_r_compares c_r_numbers c_r_partners rf_lines rf_steps rf_asksSure c_rf_kinds c_rf_features c_rf_compares c_rf_numbers c_rf_partners).2.2.2.2.2.1) ∧ (u.2.2.2.2.2.2.1 = (F_Ru_copy c_r_kinds c_r_features c_r_compares c_r_numbers c_r_partners rf_lines rf_steps rf_asksSure c_rf_kinds c_rf_features c_rf_compares c_rf_numbers c_rf_partners).2.2.2.2.2.2.1) ∧ (u.2.2.2.2.2.2.2 = (F_Ru_copy c_r_kinds c_r_features c_r_compares c_r_numbers c_r_partners rf_lines rf_steps rf_asksSure c_rf_kinds c_rf_features c_rf_compares c_rf_numbers c_rf_partners).2.2.2.2.2.2.2) ∧ (u.2.2.1 = 0 ∨ u.2.2.1 = 1)) (fun (u : Int32 × Int32 × Int32 × (Nat → Int32) × (Nat → Int32) × (Nat → Int32) × (Nat → Int32) × (Nat → Int32)) => [(r, .inr (5, [.int u.1, .int u.2.1, .int u.2.2.1, .ref r_kinds, .ref r_features, .ref r_compares, .ref r_numbers, .ref r_partners])), (r_kinds, .inl (cA.1 0, 60, .inl u.2.2.2.1)), (r_features, .inl (cA.1 0, 60, .inl u.2.2.2.2.1)), (r_compares, .inl (cA.1 0, 60, .inl u.2.2.2.2.2.1)), (r_numbers, .inl (cA.1 0, 60, .inl u.2.2.2.2.2.2.1)), (r_partners, .inl (cA.1 0, 60, .inl u.2.2.2.2.2.2.2)), (rf, .inr (5, [.int rf_lines, .int rf_steps, .int rf_asksSure, .ref rf_kinds, .ref rf_features, .ref rf_compares, .ref rf_numbers, .ref rf_partners])), (rf_kinds, .inl (cA.1 0, 60, .inl c_rf_kinds)), (rf_features, .inl (cA.1 0, 60, .inl c_rf_features)), (rf_compares, .inl (cA.1 0, 60, .inl c_rf_compares)), (rf_numbers, .inl (cA.1 0, 60, .inl c_rf_numbers)), (rf_partners, .inl (cA.1 0, 60, .inl c_rf_partners))]) 0 0 := by
  refine z_start2v (own := RX5) (by decide) (Nat.le_of_ble_eq_true rfl) rfl ?_
  intro p e s m args below meth c A ls Q hx hb hml hts hown hK hE hT hP hD hS hA hl hret
  have hl : lv_has ls 2 [(0, .ref rf), (1, .ref r)] := hl
  refine lv_aload_n hx hb dX5_copy_0 rfl (lv_at hl 0 rfl) ?_
  refine lv_ifnull hx hb dX5_copy_1 ?_
  refine lv_aload_n hx hb dX5_copy_4 rfl (lv_at hl 1 rfl) ?_
  refine lv_ifnonnull (tgt := 9) hx hb dX5_copy_5 (by decide) ?_
  refine lv_aload_n hx hb dX5_copy_9 rfl (lv_at hl 1 rfl) ?_
  refine lv_aload_n hx hb dX5_copy_10 rfl (lv_at hl 0 rfl) ?_
  refine va_get (D := G) (ci := 5) (v := .int rf_lines) (C := RX5) (T := TX5) (N := 8) hx hb hts inT5 hown hK hP 6 rfl rfl 0 (by decide) (hts _ tw_378) (fun _ h9 => h9) rfl dX5_copy_11 ?_
  refine va_put (D := G) (ci := 5) (v := .int rf_lines) (ty := .int) (C := RX5) (T := TX5) (N := 8) hx hb hts inT5 tyX5 tyX5_ok nmX5 hown hK hP hD hS 0 rfl rfl 0 (by decide) (hts _ tw_378) (fun _ h9 => h9) rfl (tyX5_ok 0 (by decide)) rfl rfl (Nat.le_of_ble_eq_true rfl) dX5_copy_14 (fun H locs hP hD hS => ?_)
  have hP : va_P G vwCl [(r, .inr (5, [.int rf_lines, .int r_steps, .int r_asksSure, .ref r_kinds, .ref r_features, .ref r_compares, .ref r_numbers, .ref r_partners])), (r_kinds, .inl (cA.1 0, 60, .inl c_r_kinds)), (r_features, .inl (cA.1 0, 60, .inl c_r_features)), (r_compares, .inl (cA.1 0, 60, .inl c_r_compares)), (r_numbers, .inl (cA.1 0, 60, .inl c_r_numbers)), (r_partners, .inl (cA.1 0, 60, .inl c_r_partners)), (rf, .inr (5, [.int rf_lines, .int rf_steps, .int rf_asksSure, .ref rf_kinds, .ref rf_features, .ref rf_compares, .ref rf_numbers, .ref rf_partners])), (rf_kinds, .inl (cA.1 0, 60, .inl c_rf_kinds)), (rf_features, .inl (cA.1 0, 60, .inl c_rf_features)), (rf_compares, .inl (cA.1 0, 60, .inl c_rf_compares)), (rf_numbers, .inl (cA.1 0, 60, .inl c_rf_numbers)), (rf_partners, .inl (cA.1 0, 60, .inl c_rf_partners))] H := hP
  have hD : va_D A [(r, .inr (5, [.int rf_lines, .int r_steps, .int r_asksSure, .ref r_kinds, .ref r_features, .ref r_compares, .ref r_numbers, .ref r_partners])), (r_kinds, .inl (cA.1 0, 60, .inl c_r_kinds)), (r_features, .inl (cA.1 0, 60, .inl c_r_features)), (r_compares, .inl (cA.1 0, 60, .inl c_r_compares)), (r_numbers, .inl (cA.1 0, 60, .inl c_r_numbers)), (r_partners, .inl (cA.1 0, 60, .inl c_r_partners)), (rf, .inr (5, [.int rf_lines, .int rf_steps, .int rf_asksSure, .ref rf_kinds, .ref rf_features, .ref rf_compares, .ref rf_numbers, .ref rf_partners])), (rf_kinds, .inl (cA.1 0, 60, .inl c_rf_kinds)), (rf_features, .inl (cA.1 0, 60, .inl c_rf_features)), (rf_compares, .inl (cA.1 0, 60, .inl c_rf_compares)), (rf_numbers, .inl (cA.1 0, 60, .inl c_rf_numbers)), (rf_partners, .inl (cA.1 0, 60, .inl c_rf_partners))] := hD
  refine lv_aload_n hx hb dX5_copy_17 rfl (lv_at hl 1 rfl) ?_
  refine lv_aload_n hx hb dX5_copy_18 rfl (lv_at hl 0 rfl) ?_
  refine va_get (D := G) (ci := 5) (v := .int rf_steps) (C := RX5) (T := TX5) (N := 8) hx hb hts inT5 hown hK hP 6 rfl rfl 1 (by decide) (hts _ tw_381) (fun _ h9 => h9) rfl dX5_copy_19 ?_
  refine va_put (D := G) (ci := 5) (v := .int rf_steps) (ty := .int) (C := RX5) (T := TX5) (N := 8) hx hb hts inT5 tyX5 tyX5_ok nmX5 hown hK hP hD hS 0 rfl rfl 1 (by decide) (hts _ tw_381) (fun _ h9 => h9) rfl (tyX5_ok 1 (by decide)) rfl rfl (Nat.le_of_ble_eq_true rfl) dX5_copy_22 (fun H locs hP hD hS => ?_)
  have hP : va_P G vwCl [(r, .inr (5, [.int rf_lines, .int rf_steps, .int r_asksSure, .ref r_kinds, .ref r_features, .ref r_compares, .ref r_numbers, .ref r_partners])), (r_kinds, .inl (cA.1 0, 60, .inl c_r_kinds)), (r_features, .inl (cA.1 0, 60, .inl c_r_features)), (r_compares, .inl (cA.1 0, 60, .inl c_r_compares)), (r_numbers, .inl (cA.1 0, 60, .inl c_r_numbers)), (r_partners, .inl (cA.1 0, 60, .inl c_r_partners)), (rf, .inr (5, [.int rf_lines, .int rf_steps, .int rf_asksSure, .ref rf_kinds, .ref rf_features, .ref rf_compares, .ref rf_numbers, .ref rf_partners])), (rf_kinds, .inl (cA.1 0, 60, .inl c_rf_kinds)), (rf_features, .inl (cA.1 0, 60, .inl c_rf_features)), (rf_compares, .inl (cA.1 0, 60, .inl c_rf_compares)), (rf_numbers, .inl (cA.1 0, 60, .inl c_rf_numbers)), (rf_partners, .inl (cA.1 0, 60, .inl c_rf_partners))] H := hP
  have hD : va_D A [(r, .inr (5, [.int rf_lines, .int rf_steps, .int r_asksSure, .ref r_kinds, .ref r_features, .ref r_compares, .ref r_numbers, .ref r_partners])), (r_kinds, .inl (cA.1 0, 60, .inl c_r_kinds)), (r_features, .inl (cA.1 0, 60, .inl c_r_features)), (r_compares, .inl (cA.1 0, 60, .inl c_r_compares)), (r_numbers, .inl (cA.1 0, 60, .inl c_r_numbers)), (r_partners, .inl (cA.1 0, 60, .inl c_r_partners)), (rf, .inr (5, [.int rf_lines, .int rf_steps, .int rf_asksSure, .ref rf_kinds, .ref rf_features, .ref rf_compares, .ref rf_numbers, .ref rf_partners])), (rf_kinds, .inl (cA.1 0, 60, .inl c_rf_kinds)), (rf_features, .inl (cA.1 0, 60, .inl c_rf_features)), (rf_compares, .inl (cA.1 0, 60, .inl c_rf_compares)), (rf_numbers, .inl (cA.1 0, 60, .inl c_rf_numbers)), (rf_partners, .inl (cA.1 0, 60, .inl c_rf_partners))] := hD
  refine lv_aload_n hx hb dX5_copy_25 rfl (lv_at hl 1 rfl) ?_
  refine lv_aload_n hx hb dX5_copy_26 rfl (lv_at hl 0 rfl) ?_
  refine va_get (D := G) (ci := 5) (v := .int rf_asksSure) (C := RX5) (T := TX5) (N := 8) hx hb hts inT5 hown hK hP 6 rfl rfl 2 (by decide) (hts _ tw_384) (fun _ h9 => h9) rfl dX5_copy_27 ?_
  refine va_put (D := G) (ci := 5) (v := .int rf_asksSure) (ty := .boolean) (C := RX5) (T := TX5) (N := 8) hx hb hts inT5 tyX5 tyX5_ok nmX5 hown hK hP hD hS 0 rfl rfl 2 (by decide) (hts _ tw_384) (fun _ h9 => h9) rfl (tyX5_ok 2 (by decide)) (z_narz hz_rf_asksSure) (z_fitz hz_rf_asksSure) (Nat.le_of_ble_eq_true rfl) dX5_copy_30 (fun H locs hP hD hS => ?_)
  have hP : va_P G vwCl [(r, .inr (5, [.int rf_lines, .int rf_steps, .int rf_asksSure, .ref r_kinds, .ref r_features, .ref r_compares, .ref r_numbers, .ref r_partners])), (r_kinds, .inl (cA.1 0, 60, .inl c_r_kinds)), (r_features, .inl (cA.1 0, 60, .inl c_r_features)), (r_compares, .inl (cA.1 0, 60, .inl c_r_compares)), (r_numbers, .inl (cA.1 0, 60, .inl c_r_numbers)), (r_partners, .inl (cA.1 0, 60, .inl c_r_partners)), (rf, .inr (5, [.int rf_lines, .int rf_steps, .int rf_asksSure, .ref rf_kinds, .ref rf_features, .ref rf_compares, .ref rf_numbers, .ref rf_partners])), (rf_kinds, .inl (cA.1 0, 60, .inl c_rf_kinds)), (rf_features, .inl (cA.1 0, 60, .inl c_rf_features)), (rf_compares, .inl (cA.1 0, 60, .inl c_rf_compares)), (rf_numbers, .inl (cA.1 0, 60, .inl c_rf_numbers)), (rf_partners, .inl (cA.1 0, 60, .inl c_rf_partners))] H := hP
  have hD : va_D A [(r, .inr (5, [.int rf_lines, .int rf_steps, .int rf_asksSure, .ref r_kinds, .ref r_features, .ref r_compares, .ref r_numbers, .ref r_partners])), (r_kinds, .inl (cA.1 0, 60, .inl c_r_kinds)), (r_features, .inl (cA.1 0, 60, .inl c_r_features)), (r_compares, .inl (cA.1 0, 60, .inl c_r_compares)), (r_numbers, .inl (cA.1 0, 60, .inl c_r_numbers)), (r_partners, .inl (cA.1 0, 60, .inl c_r_partners)), (rf, .inr (5, [.int rf_lines, .int rf_steps, .int rf_asksSure, .ref rf_kinds, .ref rf_features, .ref rf_compares, .ref rf_numbers, .ref rf_partners])), (rf_kinds, .inl (cA.1 0, 60, .inl c_rf_kinds)), (rf_features, .inl (cA.1 0, 60, .inl c_rf_features)), (rf_compares, .inl (cA.1 0, 60, .inl c_rf_compares)), (rf_numbers, .inl (cA.1 0, 60, .inl c_rf_numbers)), (rf_partners, .inl (cA.1 0, 60, .inl c_rf_partners))] := hD
  refine lv_aload_n hx hb dX5_copy_33 rfl (lv_at hl 0 rfl) ?_
  refine va_get (D := G) (ci := 5) (v := .ref rf_kinds) (C := RX5) (T := TX5) (N := 8) hx hb hts inT5 hown hK hP 6 rfl rfl 3 (by decide) (hts _ tw_386) (fun _ h9 => h9) rfl dX5_copy_34 ?_
  refine lv_iconst (v := 0) hx hb dX5_copy_37 (by decide) ?_
  refine lv_aload_n hx hb dX5_copy_38 rfl (lv_at hl 1 rfl) ?_
  refine va_get (D := G) (ci := 5) (v := .ref r_kinds) (C := RX5) (T := TX5) (N := 8) hx hb hts inT5 hown hK hP 0 rfl rfl 3 (by decide) (hts _ tw_386) (fun _ h9 => h9) rfl dX5_copy_39 ?_
  refine lv_iconst (v := 0) hx hb dX5_copy_42 (by decide) ?_
  refine lv_bipush (v := 60) hx hb dX5_copy_43 (by decide) ?_
  refine va_copyi hx hb (by rw [hml]; exact hl.1.symm) hown (hts _ tw_1207) (hts _ tw_799) (hts _ tw_798) (hts _ tw_182) hK hP hD hS 7 1 0 0 rfl rfl rfl rfl rfl (by decide +kernel) (by decide +kernel) (by decide +kernel) (by decide +kernel) (by decide +kernel) (fun _ _ => rfl) (Nat.le_of_ble_eq_true rfl) (Nat.le_of_ble_eq_true rfl) dX5_copy_45 (fun H locs hP hD hS => ?_)
  have hP : va_P G vwCl [(r, .inr (5, [.int rf_lines, .int rf_steps, .int rf_asksSure, .ref r_kinds, .ref r_features, .ref r_compares, .ref r_numbers, .ref r_partners])), (r_kinds, .inl (cA.1 0, 60, .inl (va_cpy c_rf_kinds c_r_kinds (0 : Int32).toNatClampNeg (0 : Int32).toNatClampNeg (60 : Int32).toNatClampNeg))), (r_features, .inl (cA.1 0, 60, .inl c_r_features)), (r_compares, .inl (cA.1 0, 60, .inl c_r_compares)), (r_numbers, .inl (cA.1 0, 60, .inl c_r_numbers)), (r_partners, .inl (cA.1 0, 60, .inl c_r_partners)), (rf, .inr (5, [.int rf_lines, .int rf_steps, .int rf_asksSure, .ref rf_kinds, .ref rf_features, .ref rf_compares, .ref rf_numbers, .ref rf_partners])), (rf_kinds, .inl (cA.1 0, 60, .inl c_rf_kinds)), (rf_features, .inl (cA.1 0, 60, .inl c_rf_features)), (rf_compares, .inl (cA.1 0, 60, .inl c_rf_compares)), (rf_numbers, .inl (cA.1 0, 60, .inl c_rf_numbers)), (rf_partners, .inl (cA.1 0, 60, .inl c_rf_partners))] H := hP
  have hD : va_D A [(r, .inr (5, [.int rf_lines, .int rf_steps, .int rf_asksSure, .ref r_kinds, .ref r_features, .ref r_compares, .ref r_numbers, .ref r_partners])), (r_kinds, .inl (cA.1 0, 60, .inl (va_cpy c_rf_kinds c_r_kinds (0 : Int32).toNatClampNeg (0 : Int32).toNatClampNeg (60 : Int32).toNatClampNeg))), (r_features, .inl (cA.1 0, 60, .inl c_r_features)), (r_compares, .inl (cA.1 0, 60, .inl c_r_compares)), (r_numbers, .inl (cA.1 0, 60, .inl c_r_numbers)), (r_partners, .inl (cA.1 0, 60, .inl c_r_partners)), (rf, .inr (5, [.int rf_lines, .int rf_steps, .int rf_asksSure, .ref rf_kinds, .ref rf_features, .ref rf_compares, .ref rf_numbers, .ref rf_partners])), (rf_kinds, .inl (cA.1 0, 60, .inl c_rf_kinds)), (rf_features, .inl (cA.1 0, 60, .inl c_rf_features)), (rf_compares, .inl (cA.1 0, 60, .inl c_rf_compares)), (rf_numbers, .inl (cA.1 0, 60, .inl c_rf_numbers)), (rf_partners, .inl (cA.1 0, 60, .inl c_rf_partners))] := hD
  generalize hg_g_1 : (va_cpy c_rf_kinds c_r_kinds (0 : Int32).toNatClampNeg (0 : Int32).toNatClampNeg (60 : Int32).toNatClampNeg) = g_1 at hP hD
  refine lv_aload_n hx hb dX5_copy_48 rfl (lv_at hl 0 rfl) ?_
  refine va_get (D := G) (ci := 5) (v := .ref rf_features) (C := RX5) (T := TX5) (N := 8) hx hb hts inT5 hown hK hP 6 rfl rfl 4 (by decide) (hts _ tw_387) (fun _ h9 => h9) rfl dX5_copy_49 ?_
  refine lv_iconst (v := 0) hx hb dX5_copy_52 (by decide) ?_
  refine lv_aload_n hx hb dX5_copy_53 rfl (lv_at hl 1 rfl) ?_
  refine va_get (D := G) (ci := 5) (v := .ref r_features) (C := RX5) (T := TX5) (N := 8) hx hb hts inT5 hown hK hP 0 rfl rfl 4 (by decide) (hts _ tw_387) (fun _ h9 => h9) rfl dX5_copy_54 ?_
  refine lv_iconst (v := 0) hx hb dX5_copy_57 (by decide) ?_
  refine lv_bipush (v := 60) hx hb dX5_copy_58 (by decide) ?_
  refine va_copyi hx hb (by rw [hml]; exact hl.1.symm) hown (hts _ tw_1207) (hts _ tw_799) (hts _ tw_798) (hts _ tw_182) hK hP hD hS 8 2 0 0 rfl rfl rfl rfl rfl (by decide +kernel) (by decide +kernel) (by decide +kernel) (by decide +kernel) (by decide +kernel) (fun _ _ => rfl) (Nat.le_of_ble_eq_true rfl) (Nat.le_of_ble_eq_true rfl) dX5_copy_60 (fun H locs hP hD hS => ?_)
  have hP : va_P G vwCl [(r, .inr (5, [.int rf_lines, .int rf_steps, .int rf_asksSure, .ref r_kinds, .ref r_features, .ref r_compares, .ref r_numbers, .ref r_partners])), (r_kinds, .inl (cA.1 0, 60, .inl g_1)), (r_features, .inl (cA.1 0, 60, .inl (va_cpy c_rf_features c_r_features (0 : Int32).toNatClampNeg (0 : Int32).toNatClampNeg (60 : Int32).toNatClampNeg))), (r_compares, .inl (cA.1 0, 60, .inl c_r_compares)), (r_numbers, .inl (cA.1 0, 60, .inl c_r_numbers)), (r_partners, .inl (cA.1 0, 60, .inl c_r_partners)), (rf, .inr (5, [.int rf_lines, .int rf_steps, .int rf_asksSure, .ref rf_kinds, .ref rf_features, .ref rf_compares, .ref rf_numbers, .ref rf_partners])), (rf_kinds, .inl (cA.1 0, 60, .inl c_rf_kinds)), (rf_features, .inl (cA.1 0, 60, .inl c_rf_features)), (rf_compares, .inl (cA.1 0, 60, .inl c_rf_compares)), (rf_numbers, .inl (cA.1 0, 60, .inl c_rf_numbers)), (rf_partners, .inl (cA.1 0, 60, .inl c_rf_partners))] H := hP
  have hD : va_D A [(r, .inr (5, [.int rf_lines, .int rf_steps, .int rf_asksSure, .ref r_kinds, .ref r_features, .ref r_compares, .ref r_numbers, .ref r_partners])), (r_kinds, .inl (cA.1 0, 60, .inl g_1)), (r_features, .inl (cA.1 0, 60, .inl (va_cpy c_rf_features c_r_features (0 : Int32).toNatClampNeg (0 : Int32).toNatClampNeg (60 : Int32).toNatClampNeg))), (r_compares, .inl (cA.1 0, 60, .inl c_r_compares)), (r_numbers, .inl (cA.1 0, 60, .inl c_r_numbers)), (r_partners, .inl (cA.1 0, 60, .inl c_r_partners)), (rf, .inr (5, [.int rf_lines, .int rf_steps, .int rf_asksSure, .ref rf_kinds, .ref rf_features, .ref rf_compares, .ref rf_numbers, .ref rf_partners])), (rf_kinds, .inl (cA.1 0, 60, .inl c_rf_kinds)), (rf_features, .inl (cA.1 0, 60, .inl c_rf_features)), (rf_compares, .inl (cA.1 0, 60, .inl c_rf_compares)), (rf_numbers, .inl (cA.1 0, 60, .inl c_rf_numbers)), (rf_partners, .inl (cA.1 0, 60, .inl c_rf_partners))] := hD
  generalize hg_g_2 : (va_cpy c_rf_features c_r_features (0 : Int32).toNatClampNeg (0 : Int32).toNatClampNeg (60 : Int32).toNatClampNeg) = g_2 at hP hD
  refine lv_aload_n hx hb dX5_copy_63 rfl (lv_at hl 0 rfl) ?_
  refine va_get (D := G) (ci := 5) (v := .ref rf_compares) (C := RX5) (T := TX5) (N := 8) hx hb hts inT5 hown hK hP 6 rfl rfl 5 (by decide) (hts _ tw_388) (fun _ h9 => h9) rfl dX5_copy_64 ?_
  refine lv_iconst (v := 0) hx hb dX5_copy_67 (by decide) ?_
  refine lv_aload_n hx hb dX5_copy_68 rfl (lv_at hl 1 rfl) ?_
  refine va_get (D := G) (ci := 5) (v := .ref r_compares) (C := RX5) (T := TX5) (N := 8) hx hb hts inT5 hown hK hP 0 rfl rfl 5 (by decide) (hts _ tw_388) (fun _ h9 => h9) rfl dX5_copy_69 ?_
  refine lv_iconst (v := 0) hx hb dX5_copy_72 (by decide) ?_
  refine lv_bipush (v := 60) hx hb dX5_copy_73 (by decide) ?_
  refine va_copyi hx hb (by rw [hml]; exact hl.1.symm) hown (hts _ tw_1207) (hts _ tw_799) (hts _ tw_798) (hts _ tw_182) hK hP hD hS 9 3 0 0 rfl rfl rfl rfl rfl (by decide +kernel) (by decide +kernel) (by decide +kernel) (by decide +kernel) (by decide +kernel) (fun _ _ => rfl) (Nat.le_of_ble_eq_true rfl) (Nat.le_of_ble_eq_true rfl) dX5_copy_75 (fun H locs hP hD hS => ?_)
  have hP : va_P G vwCl [(r, .inr (5, [.int rf_lines, .int rf_steps, .int rf_asksSure, .ref r_kinds, .ref r_features, .ref r_compares, .ref r_numbers, .ref r_partners])), (r_kinds, .inl (cA.1 0, 60, .inl g_1)), (r_features, .inl (cA.1 0, 60, .inl g_2)), (r_compares, .inl (cA.1 0, 60, .inl (va_cpy c_rf_compares c_r_compares (0 : Int32).toNatClampNeg (0 : Int32).toNatClampNeg (60 : Int32).toNatClampNeg))), (r_numbers, .inl (cA.1 0, 60, .inl c_r_numbers)), (r_partners, .inl (cA.1 0, 60, .inl c_r_partners)), (rf, .inr (5, [.int rf_lines, .int rf_steps, .int rf_asksSure, .ref rf_kinds, .ref rf_features, .ref rf_compares, .ref rf_numbers, .ref rf_partners])), (rf_kinds, .inl (cA.1 0, 60, .inl c_rf_kinds)), (rf_features, .inl (cA.1 0, 60, .inl c_rf_features)), (rf_compares, .inl (cA.1 0, 60, .inl c_rf_compares)), (rf_numbers, .inl (cA.1 0, 60, .inl c_rf_numbers)), (rf_partners, .inl (cA.1 0, 60, .inl c_rf_partners))] H := hP
  have hD : va_D A [(r, .inr (5, [.int rf_lines, .int rf_steps, .int rf_asksSure, .ref r_kinds, .ref r_features, .ref r_compares, .ref r_numbers, .ref r_partners])), (r_kinds, .inl (cA.1 0, 60, .inl g_1)), (r_features, .inl (cA.1 0, 60, .inl g_2)), (r_compares, .inl (cA.1 0, 60, .inl (va_cpy c_rf_compares c_r_compares (0 : Int32).toNatClampNeg (0 : Int32).toNatClampNeg (60 : Int32).toNatClampNeg))), (r_numbers, .inl (cA.1 0, 60, .inl c_r_numbers)), (r_partners, .inl (cA.1 0, 60, .inl c_r_partners)), (rf, .inr (5, [.int rf_lines, .int rf_steps, .int rf_asksSure, .ref rf_kinds, .ref rf_features, .ref rf_compares, .ref rf_numbers, .ref rf_partners])), (rf_kinds, .inl (cA.1 0, 60, .inl c_rf_kinds)), (rf_features, .inl (cA.1 0, 60, .inl c_rf_features)), (rf_compares, .inl (cA.1 0, 60, .inl c_rf_compares)), (rf_numbers, .inl (cA.1 0, 60, .inl c_rf_numbers)), (rf_partners, .inl (cA.1 0, 60, .inl c_rf_partners))] := hD
  generalize hg_g_3 : (va_cpy c_rf_compares c_r_compares (0 : Int32).toNatClampNeg (0 : Int32).toNatClampNeg (60 : Int32).toNatClampNeg) = g_3 at hP hD
  refine lv_aload_n hx hb dX5_copy_78 rfl (lv_at hl 0 rfl) ?_
  refine va_get (D := G) (ci := 5) (v := .ref rf_numbers) (C := RX5) (T := TX5) (N := 8) hx hb hts inT5 hown hK hP 6 rfl rfl 6 (by decide) (hts _ tw_389) (fun _ h9 => h9) rfl dX5_copy_79 ?_
  refine lv_iconst (v := 0) hx hb dX5_copy_82 (by decide) ?_
  refine lv_aload_n hx hb dX5_copy_83 rfl (lv_at hl 1 rfl) ?_
  refine va_get (D := G) (ci := 5) (v := .ref r_numbers) (C := RX5) (T := TX5) (N := 8) hx hb hts inT5 hown hK hP 0 rfl rfl 6 (by decide) (hts _ tw_389) (fun _ h9 => h9) rfl dX5_copy_84 ?_
  refine lv_iconst (v := 0) hx hb dX5_copy_87 (by decide) ?_
  refine lv_bipush (v := 60) hx hb dX5_copy_88 (by decide) ?_
  refine va_copyi hx hb (by rw [hml]; exact hl.1.symm) hown (hts _ tw_1207) (hts _ tw_799) (hts _ tw_798) (hts _ tw_182) hK hP hD hS 10 4 0 0 rfl rfl rfl rfl rfl (by decide +kernel) (by decide +kernel) (by decide +kernel) (by decide +kernel) (by decide +kernel) (fun _ _ => rfl) (Nat.le_of_ble_eq_true rfl) (Nat.le_of_ble_eq_true rfl) dX5_copy_90 (fun H locs hP hD hS => ?_)
  have hP : va_P G vwCl [(r, .inr (5, [.int rf_lines, .int rf_steps, .int rf_asksSure, .ref r_kinds, .ref r_features, .ref r_compares, .ref r_numbers, .ref r_partners])), (r_kinds, .inl (cA.1 0, 60, .inl g_1)), (r_features, .inl (cA.1 0, 60, .inl g_2)), (r_compares, .inl (cA.1 0, 60, .inl g_3)), (r_numbers, .inl (cA.1 0, 60, .inl (va_cpy c_rf_numbers c_r_numbers (0 : Int32).toNatClampNeg (0 : Int32).toNatClampNeg (60 : Int32).toNatClampNeg))), (r_partners, .inl (cA.1 0, 60, .inl c_r_partners)), (rf, .inr (5, [.int rf_lines, .int rf_steps, .int rf_asksSure, .ref rf_kinds, .ref rf_features, .ref rf_compares, .ref rf_numbers, .ref rf_partners])), (rf_kinds, .inl (cA.1 0, 60, .inl c_rf_kinds)), (rf_features, .inl (cA.1 0, 60, .inl c_rf_features)), (rf_compares, .inl (cA.1 0, 60, .inl c_rf_compares)), (rf_numbers, .inl (cA.1 0, 60, .inl c_rf_numbers)), (rf_partners, .inl (cA.1 0, 60, .inl c_rf_partners))] H := hP
  have hD : va_D A [(r, .inr (5, [.int rf_lines, .int rf_steps, .int rf_asksSure, .ref r_kinds, .ref r_features, .ref r_compares, .ref r_numbers, .ref r_partners])), (r_kinds, .inl (cA.1 0, 60, .inl g_1)), (r_features, .inl (cA.1 0, 60, .inl g_2)), (r_compares, .inl (cA.1 0, 60, .inl g_3)), (r_numbers, .inl (cA.1 0, 60, .inl (va_cpy c_rf_numbers c_r_numbers (0 : Int32).toNatClampNeg (0 : Int32).toNatClampNeg (60 : Int32).toNatClampNeg))), (r_partners, .inl (cA.1 0, 60, .inl c_r_partners)), (rf, .inr (5, [.int rf_lines, .int rf_steps, .int rf_asksSure, .ref rf_kinds, .ref rf_features, .ref rf_compares, .ref rf_numbers, .ref rf_partners])), (rf_kinds, .inl (cA.1 0, 60, .inl c_rf_kinds)), (rf_features, .inl (cA.1 0, 60, .inl c_rf_features)), (rf_compares, .inl (cA.1 0, 60, .inl c_rf_compares)), (rf_numbers, .inl (cA.1 0, 60, .inl c_rf_numbers)), (rf_partners, .inl (cA.1 0, 60, .inl c_rf_partners))] := hD
  generalize hg_g_4 : (va_cpy c_rf_numbers c_r_numbers (0 : Int32).toNatClampNeg (0 : Int32).toNatClampNeg (60 : Int32).toNatClampNeg) = g_4 at hP hD
  refine lv_aload_n hx hb dX5_copy_93 rfl (lv_at hl 0 rfl) ?_
  refine va_get (D := G) (ci := 5) (v := .ref rf_partners) (C := RX5) (T := TX5) (N := 8) hx hb hts inT5 hown hK hP 6 rfl rfl 7 (by decide) (hts _ tw_390) (fun _ h9 => h9) rfl dX5_copy_94 ?_
  refine lv_iconst (v := 0) hx hb dX5_copy_97 (by decide) ?_
  refine lv_aload_n hx hb dX5_copy_98 rfl (lv_at hl 1 rfl) ?_
  refine va_get (D := G) (ci := 5) (v := .ref r_partners) (C := RX5) (T := TX5) (N := 8) hx hb hts inT5 hown hK hP 0 rfl rfl 7 (by decide) (hts _ tw_390) (fun _ h9 => h9) rfl dX5_copy_99 ?_
  refine lv_iconst (v := 0) hx hb dX5_copy_102 (by decide) ?_
  refine lv_bipush (v := 60) hx hb dX5_copy_103 (by decide) ?_
  refine va_copyi hx hb (by rw [hml]; exact hl.1.symm) hown (hts _ tw_1207) (hts _ tw_799) (hts _ tw_798) (hts _ tw_182) hK hP hD hS 11 5 0 0 rfl rfl rfl rfl rfl (by decide +kernel) (by decide +kernel) (by decide +kernel) (by decide +kernel) (by decide +kernel) (fun _ _ => rfl) (Nat.le_of_ble_eq_true rfl) (Nat.le_of_ble_eq_true rfl) dX5_copy_105 (fun H locs hP hD hS => ?_)
  have hP : va_P G vwCl [(r, .inr (5, [.int rf_lines, .int rf_steps, .int rf_asksSure, .ref r_kinds, .ref r_features, .ref r_compares, .ref r_numbers, .ref r_partners])), (r_kinds, .inl (cA.1 0, 60, .inl g_1)), (r_features, .inl (cA.1 0, 60, .inl g_2)), (r_compares, .inl (cA.1 0, 60, .inl g_3)), (r_numbers, .inl (cA.1 0, 60, .inl g_4)), (r_partners, .inl (cA.1 0, 60, .inl (va_cpy c_rf_partners c_r_partners (0 : Int32).toNatClampNeg (0 : Int32).toNatClampNeg (60 : Int32).toNatClampNeg))), (rf, .inr (5, [.int rf_lines, .int rf_steps, .int rf_asksSure, .ref rf_kinds, .ref rf_features, .ref rf_compares, .ref rf_numbers, .ref rf_partners])), (rf_kinds, .inl (cA.1 0, 60, .inl c_rf_kinds)), (rf_features, .inl (cA.1 0, 60, .inl c_rf_features)), (rf_compares, .inl (cA.1 0, 60, .inl c_rf_compares)), (rf_numbers, .inl (cA.1 0, 60, .inl c_rf_numbers)), (rf_partners, .inl (cA.1 0, 60, .inl c_rf_partners))] H := hP
  have hD : va_D A [(r, .inr (5, [.int rf_lines, .int rf_steps, .int rf_asksSure, .ref r_kinds, .ref r_features, .ref r_compares, .ref r_numbers, .ref r_partners])), (r_kinds, .inl (cA.1 0, 60, .inl g_1)), (r_features, .inl (cA.1 0, 60, .inl g_2)), (r_compares, .inl (cA.1 0, 60, .inl g_3)), (r_numbers, .inl (cA.1 0, 60, .inl g_4)), (r_partners, .inl (cA.1 0, 60, .inl (va_cpy c_rf_partners c_r_partners (0 : Int32).toNatClampNeg (0 : Int32).toNatClampNeg (60 : Int32).toNatClampNeg))), (rf, .inr (5, [.int rf_lines, .int rf_steps, .int rf_asksSure, .ref rf_kinds, .ref rf_features, .ref rf_compares, .ref rf_numbers, .ref rf_partners])), (rf_kinds, .inl (cA.1 0, 60, .inl c_rf_kinds)), (rf_features, .inl (cA.1 0, 60, .inl c_rf_features)), (rf_compares, .inl (cA.1 0, 60, .inl c_rf_compares)), (rf_numbers, .inl (cA.1 0, 60, .inl c_rf_numbers)), (rf_partners, .inl (cA.1 0, 60, .inl c_rf_partners))] := hD
  generalize hg_g_5 : (va_cpy c_rf_partners c_r_partners (0 : Int32).toNatClampNeg (0 : Int32).toNatClampNeg (60 : Int32).toNatClampNeg) = g_5 at hP hD
  have hX_6 : F_Ru_copy c_r_kinds c_r_features c_r_compares c_r_numbers c_r_partners rf_lines rf_steps rf_asksSure c_rf_kinds c_rf_features c_rf_compares c_rf_numbers c_rf_partners = ((rf_lines, rf_steps, rf_asksSure, g_1, g_2, g_3, g_4, g_5) : Int32 × Int32 × Int32 × (Nat → Int32) × (Nat → Int32) × (Nat → Int32) × (Nat → Int32) × (Nat → Int32)) := by
    refine (F_Ru_copy_s ..).trans ?_
    try (extract_lets -merge -useContext +onlyGivenNames y9; have e9 : g_1 = y9 := (by first | exact hg_g_1 | exact hg_g_1.symm); clear_value y9; subst e9)
    try (extract_lets -merge -useContext +onlyGivenNames y9; have e9 : g_2 = y9 := (by first | exact hg_g_2 | exact hg_g_2.symm); clear_value y9; subst e9)
    try (extract_lets -merge -useContext +onlyGivenNames y9; have e9 : g_3 = y9 := (by first | exact hg_g_3 | exact hg_g_3.symm); clear_value y9; subst e9)
    try (extract_lets -merge -useContext +onlyGivenNames y9; have e9 : g_4 = y9 := (by first | exact hg_g_4 | exact hg_g_4.symm); clear_value y9; subst e9)
    try (extract_lets -merge -useContext +onlyGivenNames y9; have e9 : g_5 = y9 := (by first | exact hg_g_5 | exact hg_g_5.symm); clear_value y9; subst e9)
    exact rfl
  exact hret _ _ _ _ _ (rf_lines, rf_steps, rf_asksSure, g_1, g_2, g_3, g_4, g_5) [0, 1, 2, 3, 4, 5, 6, 7, 8, 9, 10, 11] hP hD hS rfl (by decide) dX5_copy_108 ⟨(congrArg (fun z9 => z9.1) hX_6).symm, (congrArg (fun z9 => z9.2.1) hX_6).symm, (congrArg (fun z9 => z9.2.2.1) hX_6).symm, (congrArg (fun z9 => z9.2.2.2.1) hX_6).symm, (congrArg (fun z9 => z9.2.2.2.2.1) hX_6).symm, (congrArg (fun z9 => z9.2.2.2.2.2.1) hX_6).symm, (congrArg (fun z9 => z9.2.2.2.2.2.2.1) hX_6).symm, (congrArg (fun z9 => z9.2.2.2.2.2.2.2) hX_6).symm, hz_rf_asksSure⟩
set_option maxHeartbeats 40000000 in
set_option maxRecDepth 100000 in
theorem d_Se_load (l : Launch) (G : va_G) (cA : zCA) (se : Nat) (h : Nat) (se_row : Nat) (se_places : Int32) (se_found : Nat) (se_foundMany : Int32) (se_rr : Nat) (se_rp : Nat) (se_rs : Nat) (se_ro : Nat) (se_meanTop : Int64) (se_meanBottom : Int64) (h_features : Int32) (h_featureNames : Nat) (h_steps : Nat) (h_turnedFeatures : Nat) (h_sixteenths : Nat) (h_keys : Int32) (h_keySteps : Nat) (h_lent : Int32) (h_rings : Int32) (h_on : Nat) (h_onMany : Nat) (h_doors : Int32) (h_wanted : Nat) (h_openers : Nat) (h_seconds : Nat) (h_turned : Int32) (h_roundMany : Int32) (h_roundDoors : Nat) (c_h_on : Nat → Int32) (c_h_onMany : Nat → Int32) (c_se_row : Nat → Int32) (k : Int32) (hm_h_features : 0 ≤ h_features.toInt ∧ h_features.toInt ≤ 3) (hO_c_h_onMany : zOM c_h_onMany) : zCv l yX7_load cX7_load 2 none ({ frames := 4, cells := 0, slots := 0, locals := 89 }) G cA [.ref se, .int k] [(se, .inr (7, [.ref h, .ref se_row, .int se_places, .ref se_found, .int se_foundMany, .ref se_rr, .ref se_rp, .ref se_rs, .ref se_ro, .long se_meanTop, .long se_meanBottom])), (h, .inr (2, [.int h_features, .ref h_featureNames, .ref h_steps, .ref h_turnedFeatures, .ref h_sixteenths, .int h_keys, .ref h_keySteps, .int h_lent, .int h_rings, .ref h_on, .ref h_onMany, .int h_doors, .ref h_wanted, .ref h_openers, .ref h_seconds, .int h_turned, .int h_roundMany, .ref h_roundDoors])), (h_on, .inl (cA.1 0, 30, .inl c_h_on)), (h_onMany, .inl (cA.1 0, 3, .inl c_h_onMany)), (se_row, .inl (cA.1 0, 10, .inl c_se_row))] (S := Int32 × (Nat → Int32)) (fun (u : Int32 × (Nat → Int32)) => (u.1 = (F_Se_load h_keys h_lent h_rings c_h_on c_h_onMany c_se_row k).1) ∧ (u.2 = (F_Se_load h_keys h_lent h_rings c_h_on c_h_onMany c_se_row k).2) ∧ (True)) (fun (u : Int32 × (Nat → Int32)) => [(se, .inr (7, [.ref h, .ref se_row, .int u.1, .ref se_found, .int se_foundMany, .ref se_rr, .ref se_rp, .ref se_rs, .ref se_ro, .long se_meanTop, .long se_meanBottom])), (h, .inr (2, [.int h_features, .ref h_featureNames, .ref h_steps, .ref h_turnedFeatures, .ref h_sixteenths, .int h_keys, .ref h_keySteps, .int h_lent, .int h_rings, .ref h_on, .ref h_onMany, .int h_doors, .ref h_wanted, .ref h_openers, .ref h_seconds, .int h_turned, .int h_roundMany, .ref h_roundDoors])), (h_on, .inl (cA.1 0, 30, .inl c_h_on)), (h_onMany, .inl (cA.1 0, 3, .inl c_h_onMany)), (se_row, .inl (cA.1 0, 10, .inl u.2))]) 0 0 := by
  refine z_start2v (own := RX7) (by decide) (Nat.le_of_ble_eq_true rfl) rfl ?_
  intro p e s m args below meth c A ls Q hx hb hml hts hown hK hE hT hP hD hS hA hl hret
  have hl : lv_has ls 2 [(0, .ref se), (1, .int k)] := hl
  refine lv_aload_n hx hb dX7_load_0 rfl (lv_at hl 0 rfl) ?_
  refine lv_aload_n hx hb dX7_load_1 rfl (lv_at hl 0 rfl) ?_
  refine va_get (D := G) (ci := 7) (v := .ref h) (C := RX7) (T := TX7) (N := 11) hx hb hts inT7 hown hK hP 0 rfl rfl 0 (by decide) (hts _ tw_479) (fun _ h9 => h9) rfl dX7_load_2 ?_
  refine lv_iload_n hx hb dX7_load_5 rfl (lv_at hl 1 rfl) ?_
  refine lv_aload_n hx hb dX7_load_6 rfl (lv_at hl 0 rfl) ?_
  refine va_get (D := G) (ci := 7) (v := .ref se_row) (C := RX7) (T := TX7) (N := 11) hx hb hts inT7 hown hK hP 0 rfl rfl 1 (by decide) (hts _ tw_480) (fun _ h9 => h9) rfl dX7_load_7 ?_
  refine z_callVi (As := [.int k, .ref se_row]) (rest := [.ref se]) (wr := [(se, .inr (7, [.ref h, .ref se_row, .int se_places, .ref se_found, .int se_foundMany, .ref se_rr, .ref se_rp, .ref se_rs, .ref se_ro, .long se_meanTop, .long se_meanBottom]))]) ⟨hx, hb, hml, hown, hts⟩ hK hE hT hP hD hS hA (d_H_rowThere l G cA h h_features h_featureNames h_steps h_turnedFeatures h_sixteenths h_keys h_keySteps h_lent h_rings h_on h_onMany h_doors h_wanted h_openers h_seconds h_turned h_roundMany h_roundDoors c_h_on c_h_onMany se_row c_se_row k (by omega) hO_c_h_onMany) lk_RX7_46 ⟨rfl, rfl⟩ ⟨Nat.le_of_ble_eq_true rfl, Nat.le_of_ble_eq_true rfl⟩ 2 rfl rfl rfl [1, 2, 3, 4] [0] rfl rfl (by decide) rfl hl.1 rfl (lv_room (Nat.le_of_ble_eq_true rfl)) dX7_load_10 ⟨Nat.le_of_ble_eq_true rfl, Nat.le_of_ble_eq_true rfl⟩ (fun r_2 u_3 H locs hw hP hD hS => ?_)
  obtain ⟨nw0_1, rfl⟩ : ∃ z, z = u_3 := ⟨_, rfl⟩
  have hP : va_P G vwCl [(se, .inr (7, [.ref h, .ref se_row, .int se_places, .ref se_found, .int se_foundMany, .ref se_rr, .ref se_rp, .ref se_rs, .ref se_ro, .long se_meanTop, .long se_meanBottom])), (h, .inr (2, [.int h_features, .ref h_featureNames, .ref h_steps, .ref h_turnedFeatures, .ref h_sixteenths, .int h_keys, .ref h_keySteps, .int h_lent, .int h_rings, .ref h_on, .ref h_onMany, .int h_doors, .ref h_wanted, .ref h_openers, .ref h_seconds, .int h_turned, .int h_roundMany, .ref h_roundDoors])), (h_on, .inl (cA.1 0, 30, .inl c_h_on)), (h_onMany, .inl (cA.1 0, 3, .inl c_h_onMany)), (se_row, .inl (cA.1 0, 10, .inl nw0_1))] H := hP
  have hD : va_D A [(se, .inr (7, [.ref h, .ref se_row, .int se_places, .ref se_found, .int se_foundMany, .ref se_rr, .ref se_rp, .ref se_rs, .ref se_ro, .long se_meanTop, .long se_meanBottom])), (h, .inr (2, [.int h_features, .ref h_featureNames, .ref h_steps, .ref h_turnedFeatures, .ref h_sixteenths, .int h_keys, .ref h_keySteps, .int h_lent, .int h_rings, .ref h_on, .ref h_onMany, .int h_doors, .ref h_wanted, .ref h_openers, .ref h_seconds, .int h_turned, .int h_roundMany, .ref h_roundDoors])), (h_on, .inl (cA.1 0, 30, .inl c_h_on)), (h_onMany, .inl (cA.1 0, 3, .inl c_h_onMany)), (se_row, .inl (cA.1 0, 10, .inl nw0_1))] := hD
  obtain ⟨he_r_2, he_nw0_1, hw⟩ := hw
  have hx_r_2 := hw
  refine va_put (D := G) (ci := 7) (v := .int r_2) (ty := .int) (C := RX7) (T := TX7) (N := 11) hx hb hts inT7 tyX7 tyX7_ok nmX7 hown hK hP hD hS 0 rfl rfl 2 (by decide) (hts _ tw_481) (fun _ h9 => h9) rfl (tyX7_ok 2 (by decide)) rfl rfl (Nat.le_of_ble_eq_true rfl) dX7_load_13 (fun H locs hP hD hS => ?_)
  have hP : va_P G vwCl [(se, .inr (7, [.ref h, .ref se_row, .int r_2, .ref se_found, .int se_foundMany, .ref se_rr, .ref se_rp, .ref se_rs, .ref se_ro, .long se_meanTop, .long se_meanBottom])), (h, .inr (2, [.int h_features, .ref h_featureNames, .ref h_steps, .ref h_turnedFeatures, .ref h_sixteenths, .int h_keys, .ref h_keySteps, .int h_lent, .int h_rings, .ref h_on, .ref h_onMany, .int h_doors, .ref h_wanted, .ref h_openers, .ref h_seconds, .int h_turned, .int h_roundMany, .ref h_roundDoors])), (h_on, .inl (cA.1 0, 30, .inl c_h_on)), (h_onMany, .inl (cA.1 0, 3, .inl c_h_onMany)), (se_row, .inl (cA.1 0, 10, .inl nw0_1))] H := hP
  have hD : va_D A [(se, .inr (7, [.ref h, .ref se_row, .int r_2, .ref se_found, .int se_foundMany, .ref se_rr, .ref se_rp, .ref se_rs, .ref se_ro, .long se_meanTop, .long se_meanBottom])), (h, .inr (2, [.int h_features, .ref h_featureNames, .ref h_steps, .ref h_turnedFeatures, .ref h_sixteenths, .int h_keys, .ref h_keySteps, .int h_lent, .int h_rings, .ref h_on, .ref h_onMany, .int h_doors, .ref h_wanted, .ref h_openers, .ref h_seconds, .int h_turned, .int h_roundMany, .ref h_roundDoors])), (h_on, .inl (cA.1 0, 30, .inl c_h_on)), (h_onMany, .inl (cA.1 0, 3, .inl c_h_onMany)), (se_row, .inl (cA.1 0, 10, .inl nw0_1))] := hD
  have hX_5 : F_Se_load h_keys h_lent h_rings c_h_on c_h_onMany c_se_row k = ((r_2, nw0_1) : Int32 × (Nat → Int32)) := by
    refine (F_Se_load_s ..).trans ?_
    extract_lets -merge -useContext +onlyGivenNames w9 y0_0 y0_1; have e9 : (r_2, nw0_1) = w9 := ((z_tS he_r_2 he_nw0_1.symm)).symm; clear_value w9; subst e9
    exact rfl
  exact hret _ _ _ _ _ (r_2, nw0_1) [0, 1, 2, 3, 4] hP hD hS rfl (by decide) dX7_load_16 ⟨(congrArg (fun z9 => z9.1) hX_5).symm, (congrArg (fun z9 => z9.2) hX_5).symm, trivial⟩
set_option maxHeartbeats 40000000 in
set_option maxRecDepth 100000 in
theorem d_Se_hasPlace (l : Launch) (G : va_G) (cA : zCA) (se : Nat) (h : Nat) (se_row : Nat) (se_places : Int32) (se_found : Nat) (se_foundMany : Int32) (se_rr : Nat) (se_rp : Nat) (se_rs : Nat) (se_ro : Nat) (se_meanTop : Int64) (se_meanBottom : Int64) (k : Int32) : zCi l yX7_hasPlace cX7_hasPlace 2 (some .boolean) ({ frames := 0, cells := 0, slots := 0, locals := 0 }) G cA [.ref se, .int k] [(se, .inr (7, [.ref h, .ref se_row, .int se_places, .ref se_found, .int se_foundMany, .ref se_rr, .ref se_rp, .ref se_rs, .ref se_ro, .long se_meanTop, .long se_meanBottom]))] (S := Unit) (fun (r : Int32) (u : Unit) => (r = (F_Se_hasPlace se_places k)) ∧ (r = 0 ∨ r = 1)) (fun (u : Unit) => [(se, .inr (7, [.ref h, .ref se_row, .int se_places, .ref se_found, .int se_foundMany, .ref se_rr, .ref se_rp, .ref se_rs, .ref se_ro, .long se_meanTop, .long se_meanBottom]))]) 0 0 := by
  refine z_start2z (own := RX7) (by decide) (Nat.le_of_ble_eq_true rfl) rfl ?_
  intro p e s m args below meth c A ls Q hx hb hml hts hown hK hE hT hP hD hS hA hl hret
  have hl : lv_has ls 2 [(0, .ref se), (1, .int k)] := hl
  refine lv_iload_n hx hb dX7_hasPlace_0 rfl (lv_at hl 1 rfl) ?_
  refine lv_if_lt (tgt := 16) hx hb dX7_hasPlace_1 (by decide) (fun c_1 => ?_) (fun c_1 => ?_)
  · have b_2 := z_b3 c_1 (K := 0) (by decide +kernel)
    refine lv_iconst (v := 0) hx hb dX7_hasPlace_16 (by decide) ?_
    have hX_3 : F_Se_hasPlace se_places k = ((0 : Int32) : Int32) := by
      refine (F_Se_hasPlace_s ..).trans ?_
      refine (if_pos c_1).trans ?_
      exact rfl
    exact hret _ _ _ _ _ _ () [0] hP hD hS rfl (by decide) dX7_hasPlace_17 (Or.inl rfl) ⟨(congrArg (fun z9 => z9) hX_3).symm, (Or.inl rfl)⟩
  · have b_4 := z_b4 c_1 (K := 0) (by decide +kernel)
    refine lv_iload_n hx hb dX7_hasPlace_4 rfl (lv_at hl 1 rfl) ?_
    refine lv_aload_n hx hb dX7_hasPlace_5 rfl (lv_at hl 0 rfl) ?_
    refine va_get (D := G) (ci := 7) (v := .int se_places) (C := RX7) (T := TX7) (N := 11) hx hb hts inT7 hown hK hP 0 rfl rfl 2 (by decide) (hts _ tw_481) (fun _ h9 => h9) rfl dX7_hasPlace_6 ?_
    refine lv_icmp_ge (tgt := 16) hx hb dX7_hasPlace_9 (by decide) (fun c_5 => ?_) (fun c_5 => ?_)
    · have b_6 := z_s1 c_5
      refine lv_iconst (v := 0) hx hb dX7_hasPlace_16 (by decide) ?_
      have hX_7 : F_Se_hasPlace se_places k = ((0 : Int32) : Int32) := by
        refine (F_Se_hasPlace_s ..).trans ?_
        refine (if_neg c_1).trans ?_
        refine (if_pos c_5).trans ?_
        exact rfl
      exact hret _ _ _ _ _ _ () [0] hP hD hS rfl (by decide) dX7_hasPlace_17 (Or.inl rfl) ⟨(congrArg (fun z9 => z9) hX_7).symm, (Or.inl rfl)⟩
    · have b_8 := z_t2 c_5
      refine lv_iconst (v := 1) hx hb dX7_hasPlace_12 (by decide) ?_
      refine lv_goto (tgt := 17) hx hb dX7_hasPlace_13 (by decide) ?_
      have hX_9 : F_Se_hasPlace se_places k = ((1 : Int32) : Int32) := by
        refine (F_Se_hasPlace_s ..).trans ?_
        refine (if_neg c_1).trans ?_
        refine (if_neg c_5).trans ?_
        exact rfl
      exact hret _ _ _ _ _ _ () [0] hP hD hS rfl (by decide) dX7_hasPlace_17 (Or.inr rfl) ⟨(congrArg (fun z9 => z9) hX_9).symm, (Or.inr rfl)⟩
set_option maxHeartbeats 40000000 in
set_option maxRecDepth 100000 in
theorem d_Se_isOf (l : Launch) (G : va_G) (cA : zCA) (se : Nat) (h : Nat) (se_row : Nat) (se_places : Int32) (se_found : Nat) (se_foundMany : Int32) (se_rr : Nat) (se_rp : Nat) (se_rs : Nat) (se_ro : Nat) (se_meanTop : Int64) (se_meanBottom : Int64) (c_se_row : Nat → Int32) (k : Int32) (j : Int32) : zCi l yX7_isOf cX7_isOf 4 (some .boolean) ({ frames := 1, cells := 0, slots := 0, locals := 21 }) G cA [.ref se, .int k, .int j] [(se, .inr (7, [.ref h, .ref se_row, .int se_places, .ref se_found, .int se_foundMany, .ref se_rr, .ref se_rp, .ref se_rs, .ref se_ro, .long se_meanTop, .long se_meanBottom])), (se_row, .inl (cA.1 0, 10, .inl c_se_row))] (S := Unit) (fun (r : Int32) (u : Unit) => (r = (F_Se_isOf c_se_row k j)) ∧ (r = 0 ∨ r = 1)) (fun (u : Unit) => [(se, .inr (7, [.ref h, .ref se_row, .int se_places, .ref se_found, .int se_foundMany, .ref se_rr, .ref se_rp, .ref se_rs, .ref se_ro, .long se_meanTop, .long se_meanBottom])), (se_row, .inl (cA.1 0, 10, .inl c_se_row))]) 0 0 := by
  refine z_start2z (own := RX7) (by decide) (Nat.le_of_ble_eq_true rfl) rfl ?_
  intro p e s m args below meth c A ls Q hx hb hml hts hown hK hE hT hP hD hS hA hl hret
  have hl : lv_has ls 4 [(0, .ref se), (1, .int k), (2, .int j)] := hl
  refine lv_aload_n hx hb dX7_isOf_0 rfl (lv_at hl 0 rfl) ?_
  refine va_get (D := G) (ci := 7) (v := .ref se_row) (C := RX7) (T := TX7) (N := 11) hx hb hts inT7 hown hK hP 0 rfl rfl 1 (by decide) (hts _ tw_480) (fun _ h9 => h9) rfl dX7_isOf_1 ?_
  refine lv_iload_n hx hb dX7_isOf_4 rfl (lv_at hl 2 rfl) ?_
  refine z_callSNi (As := [.ref se_row, .int j]) (rest := []) (wr := [(se, .inr (7, [.ref h, .ref se_row, .int se_places, .ref se_found, .int se_foundMany, .ref se_rr, .ref se_rp, .ref se_rs, .ref se_ro, .long se_meanTop, .long se_meanBottom]))]) ⟨hx, hb, hml, hown, hts⟩ hK hE hT hP hD hS hA (d_at_10 l G cA se_row c_se_row j) lk_RX7_55 ⟨rfl, rfl⟩ ⟨Nat.le_of_ble_eq_true rfl, Nat.le_of_ble_eq_true rfl⟩ [1] [0] rfl rfl (by decide) rfl hl.1 rfl (lv_room (Nat.le_of_ble_eq_true rfl)) dX7_isOf_5 ⟨Nat.le_of_ble_eq_true rfl, Nat.le_of_ble_eq_true rfl⟩ (fun r_1 u_2 H locs hw hP hD hS => ?_)
  have hP : va_P G vwCl [(se, .inr (7, [.ref h, .ref se_row, .int se_places, .ref se_found, .int se_foundMany, .ref se_rr, .ref se_rp, .ref se_rs, .ref se_ro, .long se_meanTop, .long se_meanBottom])), (se_row, .inl (cA.1 0, 10, .inl c_se_row))] H := hP
  have hD : va_D A [(se, .inr (7, [.ref h, .ref se_row, .int se_places, .ref se_found, .int se_foundMany, .ref se_rr, .ref se_rp, .ref se_rs, .ref se_ro, .long se_meanTop, .long se_meanBottom])), (se_row, .inl (cA.1 0, 10, .inl c_se_row))] := hD
  obtain ⟨he_r_1, hw⟩ := hw
  refine lv_istore_n (lv' := [(3, .int r_1), (0, .ref se), (1, .int k), (2, .int j)]) hx hb dX7_isOf_8 rfl hl (by decide) rfl (fun ls hl => ?_)
  refine lv_iload_n hx hb dX7_isOf_9 rfl (lv_at hl 0 rfl) ?_
  refine lv_iconst (v := (-1)) hx hb dX7_isOf_10 (by decide) ?_
  refine lv_icmp_eq (tgt := 27) hx hb dX7_isOf_11 (by decide) (fun c_4 => ?_) (fun c_4 => ?_)
  · skip
    refine lv_iconst (v := 0) hx hb dX7_isOf_27 (by decide) ?_
    have hX_6 : F_Se_isOf c_se_row k j = ((0 : Int32) : Int32) := by
      refine (F_Se_isOf_s ..).trans ?_
      extract_lets -merge -useContext +onlyGivenNames w9 y9; have e9 : r_1 = w9 := he_r_1; clear_value w9; subst e9
      refine (if_pos c_4).trans ?_
      exact rfl
    exact hret _ _ _ _ _ _ () [0, 1] hP hD hS rfl (by decide) dX7_isOf_28 (Or.inl rfl) ⟨(congrArg (fun z9 => z9) hX_6).symm, (Or.inl rfl)⟩
  · skip
    refine lv_iload_n hx hb dX7_isOf_14 rfl (lv_at hl 2 rfl) ?_
    refine lv_iload_n hx hb dX7_isOf_15 rfl (lv_at hl 0 rfl) ?_
    refine lv_ishr hx hb dX7_isOf_16 ?_
    refine lv_topi (fun x_8 he_x_8 => ?_)
    refine lv_iconst (v := 1) hx hb dX7_isOf_17 (by decide) ?_
    refine lv_iand hx hb dX7_isOf_18 ?_
    refine lv_topi (fun x_9 he_x_9 => ?_)
    refine lv_iconst (v := 1) hx hb dX7_isOf_19 (by decide) ?_
    refine lv_icmp_ne (tgt := 27) hx hb dX7_isOf_20 (by decide) (fun c_10 => ?_) (fun c_10 => ?_)
    · skip
      refine lv_iconst (v := 0) hx hb dX7_isOf_27 (by decide) ?_
      have hX_12 : F_Se_isOf c_se_row k j = ((0 : Int32) : Int32) := by
        refine (F_Se_isOf_s ..).trans ?_
        extract_lets -merge -useContext +onlyGivenNames w9 y9; have e9 : r_1 = w9 := he_r_1; clear_value w9; subst e9
        refine (if_neg c_4).trans ?_
        try (extract_lets -merge -useContext +onlyGivenNames y9; have e9 : x_8 = y9 := (by first | exact he_x_8 | exact he_x_8.symm); clear_value y9; subst e9)
        try (extract_lets -merge -useContext +onlyGivenNames y9; have e9 : x_9 = y9 := (by first | exact he_x_9 | exact he_x_9.symm); clear_value y9; subst e9)
        refine (if_neg c_10).trans ?_
        exact rfl
      exact hret _ _ _ _ _ _ () [0, 1] hP hD hS rfl (by decide) dX7_isOf_28 (Or.inl rfl) ⟨(congrArg (fun z9 => z9) hX_12).symm, (Or.inl rfl)⟩
    · skip
      refine lv_iconst (v := 1) hx hb dX7_isOf_23 (by decide) ?_
      refine lv_goto (tgt := 28) hx hb dX7_isOf_24 (by decide) ?_
      have hX_14 : F_Se_isOf c_se_row k j = ((1 : Int32) : Int32) := by
        refine (F_Se_isOf_s ..).trans ?_
        extract_lets -merge -useContext +onlyGivenNames w9 y9; have e9 : r_1 = w9 := he_r_1; clear_value w9; subst e9
        refine (if_neg c_4).trans ?_
        try (extract_lets -merge -useContext +onlyGivenNames y9; have e9 : x_8 = y9 := (by first | exact he_x_8 | exact he_x_8.symm); clear_value y9; subst e9)
        try (extract_lets -merge -useContext +onlyGivenNames y9; have e9 : x_9 = y9 := (by first | exact he_x_9 | exact he_x_9.symm); clear_value y9; subst e9)
        refine (if_pos c_10).trans ?_
        exact rfl
      exact hret _ _ _ _ _ _ () [0, 1] hP hD hS rfl (by decide) dX7_isOf_28 (Or.inr rfl) ⟨(congrArg (fun z9 => z9) hX_14).symm, (Or.inr rfl)⟩
set_option maxHeartbeats 40000000 in
set_option maxRecDepth 100000 in
theorem d_Se_someOpens (l : Launch) (G : va_G) (cA : zCA) (se : Nat) (h : Nat) (se_row : Nat) (se_places : Int32) (se_found : Nat) (se_foundMany : Int32) (se_rr : Nat) (se_rp : Nat) (se_rs : Nat) (se_ro : Nat) (se_meanTop : Int64) (se_meanBottom : Int64) (h_features : Int32) (h_featureNames : Nat) (h_steps : Nat) (h_turnedFeatures : Nat) (h_sixteenths : Nat) (h_keys : Int32) (h_keySteps : Nat) (h_lent : Int32) (h_rings : Int32) (h_on : Nat) (h_onMany : Nat) (h_doors : Int32) (h_wanted : Nat) (h_openers : Nat) (h_seconds : Nat) (h_turned : Int32) (h_roundMany : Int32) (h_roundDoors : Nat) (c_h_openers : Nat → Int32) (c_se_row : Nat → Int32) (k : Int32) (hm_h_features : 0 ≤ h_features.toInt ∧ h_features.toInt ≤ 3) : zCi l yX7_someOpens cX7_someOpens 4 (some .boolean) ({ frames := 2, cells := 0, slots := 0, locals := 44 }) G cA [.ref se, .int k] [(se, .inr (7, [.ref h, .ref se_row, .int se_places, .ref se_found, .int se_foundMany, .ref se_rr, .ref se_rp, .ref se_rs, .ref se_ro, .long se_meanTop, .long se_meanBottom])), (h, .inr (2, [.int h_features, .ref h_featureNames, .ref h_steps, .ref h_turnedFeatures, .ref h_sixteenths, .int h_keys, .ref h_keySteps, .int h_lent, .int h_rings, .ref h_on, .ref h_onMany, .int h_doors, .ref h_wanted, .ref h_openers, .ref h_seconds, .int h_turned, .int h_roundMany, .ref h_roundDoors])), (h_openers, .inl (cA.1 0, 5, .inl c_h_openers)), (se_row, .inl (cA.1 0, 10, .inl c_se_row))] (S := Unit) (fun (r : Int32) (u : Unit) => (r = (F_Se_someOpens se_places h_doors c_h_openers c_se_row k)) ∧ (r = 0 ∨ r = 1)) (fun (u : Unit) => [(se, .inr (7, [.ref h, .ref se_row, .int se_places, .ref se_found, .int se_foundMany, .ref se_rr, .ref se_rp, .ref se_rs, .ref se_ro, .long se_meanTop, .long se_meanBottom])), (h, .inr (2, [.int h_features, .ref h_featureNames, .ref h_steps, .ref h_turnedFeatures, .ref h_sixteenths, .int h_keys, .ref h_keySteps, .int h_lent, .int h_rings, .ref h_on, .ref h_onMany, .int h_doors, .ref h_wanted, .ref h_openers, .ref h_seconds, .int h_turned, .int h_roundMany, .ref h_roundDoors])), (h_openers, .inl (cA.1 0, 5, .inl c_h_openers)), (se_row, .inl (cA.1 0, 10, .inl c_se_row))]) 0 0 := by
  refine z_start2z (own := RX7) (by decide) (Nat.le_of_ble_eq_true rfl) rfl ?_
  intro p e s m args below meth c A ls Q hx hb hml hts hown hK hE hT hP hD hS hA hl hret
  have hl : lv_has ls 4 [(0, .ref se), (1, .int k)] := hl
  refine lv_aload_n hx hb dX7_someOpens_0 rfl (lv_at hl 0 rfl) ?_
  refine va_get (D := G) (ci := 7) (v := .ref h) (C := RX7) (T := TX7) (N := 11) hx hb hts inT7 hown hK hP 0 rfl rfl 0 (by decide) (hts _ tw_479) (fun _ h9 => h9) rfl dX7_someOpens_1 ?_
  refine lv_iload_n hx hb dX7_someOpens_4 rfl (lv_at hl 1 rfl) ?_
  refine z_callVi (As := [.int k]) (rest := []) (wr := [(se, .inr (7, [.ref h, .ref se_row, .int se_places, .ref se_found, .int se_foundMany, .ref se_rr, .ref se_rp, .ref se_rs, .ref se_ro, .long se_meanTop, .long se_meanBottom])), (se_row, .inl (cA.1 0, 10, .inl c_se_row))]) ⟨hx, hb, hml, hown, hts⟩ hK hE hT hP hD hS hA (d_H_openersOf l G cA h h_features h_featureNames h_steps h_turnedFeatures h_sixteenths h_keys h_keySteps h_lent h_rings h_on h_onMany h_doors h_wanted h_openers h_seconds h_turned h_roundMany h_roundDoors c_h_openers k (by omega)) lk_RX7_59 ⟨rfl, rfl⟩ ⟨Nat.le_of_ble_eq_true rfl, Nat.le_of_ble_eq_true rfl⟩ 2 rfl rfl rfl [1, 2] [0, 3] rfl rfl (by decide) rfl hl.1 rfl (lv_room (Nat.le_of_ble_eq_true rfl)) dX7_someOpens_5 ⟨Nat.le_of_ble_eq_true rfl, Nat.le_of_ble_eq_true rfl⟩ (fun r_1 u_2 H locs hw hP hD hS => ?_)
  have hP : va_P G vwCl [(se, .inr (7, [.ref h, .ref se_row, .int se_places, .ref se_found, .int se_foundMany, .ref se_rr, .ref se_rp, .ref se_rs, .ref se_ro, .long se_meanTop, .long se_meanBottom])), (se_row, .inl (cA.1 0, 10, .inl c_se_row)), (h, .inr (2, [.int h_features, .ref h_featureNames, .ref h_steps, .ref h_turnedFeatures, .ref h_sixteenths, .int h_keys, .ref h_keySteps, .int h_lent, .int h_rings, .ref h_on, .ref h_onMany, .int h_doors, .ref h_wanted, .ref h_openers, .ref h_seconds, .int h_turned, .int h_roundMany, .ref h_roundDoors])), (h_openers, .inl (cA.1 0, 5, .inl c_h_openers))] H := hP
  have hD : va_D A [(se, .inr (7, [.ref h, .ref se_row, .int se_places, .ref se_found, .int se_foundMany, .ref se_rr, .ref se_rp, .ref se_rs, .ref se_ro, .long se_meanTop, .long se_meanBottom])), (se_row, .inl (cA.1 0, 10, .inl c_se_row)), (h, .inr (2, [.int h_features, .ref h_featureNames, .ref h_steps, .ref h_turnedFeatures, .ref h_sixteenths, .int h_keys, .ref h_keySteps, .int h_lent, .int h_rings, .ref h_on, .ref h_onMany, .int h_doors, .ref h_wanted, .ref h_openers, .ref h_seconds, .int h_turned, .int h_roundMany, .ref h_roundDoors])), (h_openers, .inl (cA.1 0, 5, .inl c_h_openers))] := hD
  obtain ⟨he_r_1, hw⟩ := hw
  refine lv_istore_n (lv' := [(2, .int r_1), (0, .ref se), (1, .int k)]) hx hb dX7_someOpens_8 rfl hl (by decide) rfl (fun ls hl => ?_)
  refine lv_iconst (v := 0) hx hb dX7_someOpens_9 (by decide) ?_
  refine lv_istore_n (lv' := [(3, .int 0), (2, .int r_1), (0, .ref se), (1, .int k)]) hx hb dX7_someOpens_10 rfl hl (by decide) rfl (fun ls hl => ?_)
  have hlp_31 : ∀ (n_L11a : Nat) (v_21 : Int32) (H : Heap) (locs : List Loc) (ls : Array Slot), (2147483647 - v_21.toInt).toNat < n_L11a → (0 ≤ v_21.toInt) → (F_Se_someOpens se_places h_doors c_h_openers c_se_row k = F_Se_someOpens_L11a se_places c_se_row r_1 n_L11a v_21) → va_P G vwCl [(se, .inr (7, [.ref h, .ref se_row, .int se_places, .ref se_found, .int se_foundMany, .ref se_rr, .ref se_rp, .ref se_rs, .ref se_ro, .long se_meanTop, .long se_meanBottom])), (se_row, .inl (cA.1 0, 10, .inl c_se_row)), (h, .inr (2, [.int h_features, .ref h_featureNames, .ref h_steps, .ref h_turnedFeatures, .ref h_sixteenths, .int h_keys, .ref h_keySteps, .int h_lent, .int h_rings, .ref h_on, .ref h_onMany, .int h_doors, .ref h_wanted, .ref h_openers, .ref h_seconds, .int h_turned, .int h_roundMany, .ref h_roundDoors])), (h_openers, .inl (cA.1 0, 5, .inl c_h_openers))] H → va_D A [(se, .inr (7, [.ref h, .ref se_row, .int se_places, .ref se_found, .int se_foundMany, .ref se_rr, .ref se_rp, .ref se_rs, .ref se_ro, .long se_meanTop, .long se_meanBottom])), (se_row, .inl (cA.1 0, 10, .inl c_se_row)), (h, .inr (2, [.int h_features, .ref h_featureNames, .ref h_steps, .ref h_turnedFeatures, .ref h_sixteenths, .int h_keys, .ref h_keySteps, .int h_lent, .int h_rings, .ref h_on, .ref h_onMany, .int h_doors, .ref h_wanted, .ref h_openers, .ref h_seconds, .int h_turned, .int h_roundMany, .ref h_roundDoors])), (h_openers, .inl (cA.1 0, 5, .inl c_h_openers))] → va_S A s.heap H locs → lv_has ls 4 [(0, .ref se), (1, .int k), (2, .int r_1), (3, .int v_21)] → W p l e ({ frames := 2, cells := 0, slots := 0, locals := 44 }) s m args below meth c H locs 0 0 Q (F0 m 11 ls []) := by
    intro n_L11a
    induction n_L11a with
    | zero =>
      intro v_21 H locs ls hmu_hlp_31 hi_32 hF_L11a hP hD hS hl
      exact absurd hmu_hlp_31 (Nat.not_lt_zero _)
    | succ n_L11a ih_33 =>
      intro v_21 H locs ls hmu_hlp_31 hi_32 hF_L11a hP hD hS hl
      refine lv_iload_n hx hb dX7_someOpens_11 rfl (lv_at hl 3 rfl) ?_
      refine lv_aload_n hx hb dX7_someOpens_12 rfl (lv_at hl 0 rfl) ?_
      refine va_get (D := G) (ci := 7) (v := .int se_places) (C := RX7) (T := TX7) (N := 11) hx hb hts inT7 hown hK hP 0 rfl rfl 2 (by decide) (hts _ tw_481) (fun _ h9 => h9) rfl dX7_someOpens_13 ?_
      refine lv_icmp_ge (tgt := 36) hx hb dX7_someOpens_16 (by decide) (fun c_34 => ?_) (fun c_34 => ?_)
      · have b_35 := z_s1 c_34
        refine lv_iconst (v := 0) hx hb dX7_someOpens_36 (by decide) ?_
        have hX_36 : F_Se_someOpens se_places h_doors c_h_openers c_se_row k = ((0 : Int32) : Int32) := by
          refine hF_L11a.trans ?_
          refine (F_Se_someOpens_L11a_s ..).trans ?_
          refine (if_pos c_34).trans ?_
          exact rfl
        exact hret _ _ _ _ _ _ () [0, 2, 3, 1] hP hD hS rfl (by decide) dX7_someOpens_37 (Or.inl rfl) ⟨(congrArg (fun z9 => z9) hX_36).symm, (Or.inl rfl)⟩
      · have b_37 := z_t2 c_34
        refine lv_aload_n hx hb dX7_someOpens_19 rfl (lv_at hl 0 rfl) ?_
        refine lv_iload_n hx hb dX7_someOpens_20 rfl (lv_at hl 2 rfl) ?_
        refine lv_iload_n hx hb dX7_someOpens_21 rfl (lv_at hl 3 rfl) ?_
        refine z_callVi (As := [.int r_1, .int v_21]) (rest := []) (wr := [(h, .inr (2, [.int h_features, .ref h_featureNames, .ref h_steps, .ref h_turnedFeatures, .ref h_sixteenths, .int h_keys, .ref h_keySteps, .int h_lent, .int h_rings, .ref h_on, .ref h_onMany, .int h_doors, .ref h_wanted, .ref h_openers, .ref h_seconds, .int h_turned, .int h_roundMany, .ref h_roundDoors])), (h_openers, .inl (cA.1 0, 5, .inl c_h_openers))]) ⟨hx, hb, hml, hown, hts⟩ hK hE hT hP hD hS hA (d_Se_isOf l G cA se h se_row se_places se_found se_foundMany se_rr se_rp se_rs se_ro se_meanTop se_meanBottom c_se_row r_1 v_21) lk_RX7_63 ⟨rfl, rfl⟩ ⟨Nat.le_of_ble_eq_true rfl, Nat.le_of_ble_eq_true rfl⟩ 7 rfl rfl rfl [0, 1] [2, 3] rfl rfl (by decide) rfl hl.1 rfl (lv_room (Nat.le_of_ble_eq_true rfl)) dX7_someOpens_22 ⟨Nat.le_of_ble_eq_true rfl, Nat.le_of_ble_eq_true rfl⟩ (fun r_38 u_39 H locs hw hP hD hS => ?_)
        have hP : va_P G vwCl [(h, .inr (2, [.int h_features, .ref h_featureNames, .ref h_steps, .ref h_turnedFeatures, .ref h_sixteenths, .int h_keys, .ref h_keySteps, .int h_lent, .int h_rings, .ref h_on, .ref h_onMany, .int h_doors, .ref h_wanted, .ref h_openers, .ref h_seconds, .int h_turned, .int h_roundMany, .ref h_roundDoors])), (h_openers, .inl (cA.1 0, 5, .inl c_h_openers)), (se, .inr (7, [.ref h, .ref se_row, .int se_places, .ref se_found, .int se_foundMany, .ref se_rr, .ref se_rp, .ref se_rs, .ref se_ro, .long se_meanTop, .long se_meanBottom])), (se_row, .inl (cA.1 0, 10, .inl c_se_row))] H := hP
        have hD : va_D A [(h, .inr (2, [.int h_features, .ref h_featureNames, .ref h_steps, .ref h_turnedFeatures, .ref h_sixteenths, .int h_keys, .ref h_keySteps, .int h_lent, .int h_rings, .ref h_on, .ref h_onMany, .int h_doors, .ref h_wanted, .ref h_openers, .ref h_seconds, .int h_turned, .int h_roundMany, .ref h_roundDoors])), (h_openers, .inl (cA.1 0, 5, .inl c_h_openers)), (se, .inr (7, [.ref h, .ref se_row, .int se_places, .ref se_found, .int se_foundMany, .ref se_rr, .ref se_rp, .ref se_rs, .ref se_ro, .long se_meanTop, .long se_meanBottom])), (se_row, .inl (cA.1 0, 10, .inl c_se_row))] := hD
        obtain ⟨he_r_38, hw⟩ := hw
        have hz_r_38 := hw
        refine lv_if_eq (tgt := 30) hx hb dX7_someOpens_25 (by decide) (fun c_41 => ?_) (fun c_41 => ?_)
        · skip
          refine lv_iinc (v := (v_21 + 1)) (lv' := [(3, .int (v_21 + 1)), (0, .ref se), (1, .int k), (2, .int r_1)]) hx hb dX7_someOpens_30 hl (k := 3) rfl (z_ofi (by decide +kernel)) (by decide) rfl (fun ls hl => ?_)
          refine lv_goto (tgt := 11) hx hb dX7_someOpens_33 (by decide) ?_
          have hX_43 : F_Se_someOpens se_places h_doors c_h_openers c_se_row k = F_Se_someOpens_L11a se_places c_se_row r_1 n_L11a (v_21 + 1) := by
            refine hF_L11a.trans ?_
            refine (F_Se_someOpens_L11a_s ..).trans ?_
            refine (if_neg c_34).trans ?_
            extract_lets -merge -useContext +onlyGivenNames w9 y9; have e9 : r_38 = w9 := he_r_38; clear_value w9; subst e9
            refine (if_pos c_41).trans ?_
            exact rfl
          have hP := hP.sub (ws' := [(se, .inr (7, [.ref h, .ref se_row, .int se_places, .ref se_found, .int se_foundMany, .ref se_rr, .ref se_rp, .ref se_rs, .ref se_ro, .long se_meanTop, .long se_meanBottom])), (se_row, .inl (cA.1 0, 10, .inl c_se_row)), (h, .inr (2, [.int h_features, .ref h_featureNames, .ref h_steps, .ref h_turnedFeatures, .ref h_sixteenths, .int h_keys, .ref h_keySteps, .int h_lent, .int h_rings, .ref h_on, .ref h_onMany, .int h_doors, .ref h_wanted, .ref h_openers, .ref h_seconds, .int h_turned, .int h_roundMany, .ref h_roundDoors])), (h_openers, .inl (cA.1 0, 5, .inl c_h_openers))]) [2, 3, 0, 1] rfl
          have hD := hD.sub (ws' := [(se, .inr (7, [.ref h, .ref se_row, .int se_places, .ref se_found, .int se_foundMany, .ref se_rr, .ref se_rp, .ref se_rs, .ref se_ro, .long se_meanTop, .long se_meanBottom])), (se_row, .inl (cA.1 0, 10, .inl c_se_row)), (h, .inr (2, [.int h_features, .ref h_featureNames, .ref h_steps, .ref h_turnedFeatures, .ref h_sixteenths, .int h_keys, .ref h_keySteps, .int h_lent, .int h_rings, .ref h_on, .ref h_onMany, .int h_doors, .ref h_wanted, .ref h_openers, .ref h_seconds, .int h_turned, .int h_roundMany, .ref h_roundDoors])), (h_openers, .inl (cA.1 0, 5, .inl c_h_openers))]) [2, 3, 0, 1] (by decide) rfl
          exact ih_33 (v_21 + 1) H locs ls (z_up hmu_hlp_31 (by omega) trivial) (z_upc hi_32 (by omega) trivial) hX_43 hP hD hS (lv_sub hl [1, 2, 3, 0] rfl)
        · skip
          refine lv_iconst (v := 1) hx hb dX7_someOpens_28 (by decide) ?_
          have hX_45 : F_Se_someOpens se_places h_doors c_h_openers c_se_row k = ((1 : Int32) : Int32) := by
            refine hF_L11a.trans ?_
            refine (F_Se_someOpens_L11a_s ..).trans ?_
            refine (if_neg c_34).trans ?_
            extract_lets -merge -useContext +onlyGivenNames w9 y9; have e9 : r_38 = w9 := he_r_38; clear_value w9; subst e9
            refine (if_neg c_41).trans ?_
            exact rfl
          exact hret _ _ _ _ _ _ () [2, 0, 1, 3] hP hD hS rfl (by decide) dX7_someOpens_29 (Or.inr rfl) ⟨(congrArg (fun z9 => z9) hX_45).symm, (Or.inr rfl)⟩
  have hX_46 : F_Se_someOpens se_places h_doors c_h_openers c_se_row k = F_Se_someOpens_L11a se_places c_se_row r_1 ((2147483647 - (0 : Int32).toInt).toNat + 1) (0 : Int32) := by
    refine (F_Se_someOpens_s ..).trans ?_
    extract_lets -merge -useContext +onlyGivenNames w9 y9; have e9 : r_1 = w9 := he_r_1; clear_value w9; subst e9
    exact rfl
  exact hlp_31 ((2147483647 - (0 : Int32).toInt).toNat + 1) 0 _ _ _ (Nat.lt_succ_self _) (by first | decide +kernel | omega) hX_46 hP hD hS (lv_sub hl [2, 3, 1, 0] rfl)
set_option maxHeartbeats 40000000 in
set_option maxRecDepth 100000 in
theorem d_Se_secondsOfTries (l : Launch) (G : va_G) (cA : zCA) (se : Nat) (h : Nat) (se_row : Nat) (se_places : Int32) (se_found : Nat) (se_foundMany : Int32) (se_rr : Nat) (se_rp : Nat) (se_rs : Nat) (se_ro : Nat) (se_meanTop : Int64) (se_meanBottom : Int64) (h_features : Int32) (h_featureNames : Nat) (h_steps : Nat) (h_turnedFeatures : Nat) (h_sixteenths : Nat) (h_keys : Int32) (h_keySteps : Nat) (h_lent : Int32) (h_rings : Int32) (h_on : Nat) (h_onMany : Nat) (h_doors : Int32) (h_wanted : Nat) (h_openers : Nat) (h_seconds : Nat) (h_turned : Int32) (h_roundMany : Int32) (h_roundDoors : Nat) (c_h_seconds : Nat → Int32) (k : Int32) (hm_h_features : 0 ≤ h_features.toInt ∧ h_features.toInt ≤ 3) : zCi l yX7_secondsOfTries cX7_secondsOfTries 2 (some .int) ({ frames := 2, cells := 0, slots := 0, locals := 42 }) G cA [.ref se, .int k] [(se, .inr (7, [.ref h, .ref se_row, .int se_places, .ref se_found, .int se_foundMany, .ref se_rr, .ref se_rp, .ref se_rs, .ref se_ro, .long se_meanTop, .long se_meanBottom])), (h, .inr (2, [.int h_features, .ref h_featureNames, .ref h_steps, .ref h_turnedFeatures, .ref h_sixteenths, .int h_keys, .ref h_keySteps, .int h_lent, .int h_rings, .ref h_on, .ref h_onMany, .int h_doors, .ref h_wanted, .ref h_openers, .ref h_seconds, .int h_turned, .int h_roundMany, .ref h_roundDoors])), (h_seconds, .inl (cA.1 0, 4, .inl c_h_seconds))] (S := Unit) (fun (r : Int32) (u : Unit) => (r = (F_Se_secondsOfTries c_h_seconds k)) ∧ (True)) (fun (u : Unit) => [(se, .inr (7, [.ref h, .ref se_row, .int se_places, .ref se_found, .int se_foundMany, .ref se_rr, .ref se_rp, .ref se_rs, .ref se_ro, .long se_meanTop, .long se_meanBottom])), (h, .inr (2, [.int h_features, .ref h_featureNames, .ref h_steps, .ref h_turnedFeatures, .ref h_sixteenths, .int h_keys, .ref h_keySteps, .int h_lent, .int h_rings, .ref h_on, .ref h_onMany, .int h_doors, .ref h_wanted, .ref h_openers, .ref h_seconds, .int h_turned, .int h_roundMany, .ref h_roundDoors])), (h_seconds, .inl (cA.1 0, 4, .inl c_h_seconds))]) 0 0 := by
  refine z_start2i (own := RX7) (by decide) (Nat.le_of_ble_eq_true rfl) rfl ?_
  intro p e s m args below meth c A ls Q hx hb hml hts hown hK hE hT hP hD hS hA hl hret
  have hl : lv_has ls 2 [(0, .ref se), (1, .int k)] := hl
  refine lv_iload_n hx hb dX7_secondsOfTries_0 rfl (lv_at hl 1 rfl) ?_
  refine lv_aload_n hx hb dX7_secondsOfTries_1 rfl (lv_at hl 0 rfl) ?_
  refine va_get (D := G) (ci := 7) (v := .ref h) (C := RX7) (T := TX7) (N := 11) hx hb hts inT7 hown hK hP 0 rfl rfl 0 (by decide) (hts _ tw_479) (fun _ h9 => h9) rfl dX7_secondsOfTries_2 ?_
  refine lv_iconst (v := 1) hx hb dX7_secondsOfTries_5 (by decide) ?_
  refine z_callVi (As := [.int 1]) (rest := [.int k]) (wr := [(se, .inr (7, [.ref h, .ref se_row, .int se_places, .ref se_found, .int se_foundMany, .ref se_rr, .ref se_rp, .ref se_rs, .ref se_ro, .long se_meanTop, .long se_meanBottom]))]) ⟨hx, hb, hml, hown, hts⟩ hK hE hT hP hD hS hA (d_H_secondsOf l G cA h h_features h_featureNames h_steps h_turnedFeatures h_sixteenths h_keys h_keySteps h_lent h_rings h_on h_onMany h_doors h_wanted h_openers h_seconds h_turned h_roundMany h_roundDoors c_h_seconds 1 (by omega)) lk_RX7_67 ⟨rfl, rfl⟩ ⟨Nat.le_of_ble_eq_true rfl, Nat.le_of_ble_eq_true rfl⟩ 2 rfl rfl rfl [1, 2] [0] rfl rfl (by decide) rfl hl.1 rfl (lv_room (Nat.le_of_ble_eq_true rfl)) dX7_secondsOfTries_6 ⟨Nat.le_of_ble_eq_true rfl, Nat.le_of_ble_eq_true rfl⟩ (fun r_1 u_2 H locs hw hP hD hS => ?_)
  have hP : va_P G vwCl [(se, .inr (7, [.ref h, .ref se_row, .int se_places, .ref se_found, .int se_foundMany, .ref se_rr, .ref se_rp, .ref se_rs, .ref se_ro, .long se_meanTop, .long se_meanBottom])), (h, .inr (2, [.int h_features, .ref h_featureNames, .ref h_steps, .ref h_turnedFeatures, .ref h_sixteenths, .int h_keys, .ref h_keySteps, .int h_lent, .int h_rings, .ref h_on, .ref h_onMany, .int h_doors, .ref h_wanted, .ref h_openers, .ref h_seconds, .int h_turned, .int h_roundMany, .ref h_roundDoors])), (h_seconds, .inl (cA.1 0, 4, .inl c_h_seconds))] H := hP
  have hD : va_D A [(se, .inr (7, [.ref h, .ref se_row, .int se_places, .ref se_found, .int se_foundMany, .ref se_rr, .ref se_rp, .ref se_rs, .ref se_ro, .long se_meanTop, .long se_meanBottom])), (h, .inr (2, [.int h_features, .ref h_featureNames, .ref h_steps, .ref h_turnedFeatures, .ref h_sixteenths, .int h_keys, .ref h_keySteps, .int h_lent, .int h_rings, .ref h_on, .ref h_onMany, .int h_doors, .ref h_wanted, .ref h_openers, .ref h_seconds, .int h_turned, .int h_roundMany, .ref h_roundDoors])), (h_seconds, .inl (cA.1 0, 4, .inl c_h_seconds))] := hD
  obtain ⟨he_r_1, hw⟩ := hw
  refine lv_imul hx hb dX7_secondsOfTries_9 ?_
  refine lv_topi (fun x_4 he_x_4 => ?_)
  refine lv_iload_n hx hb dX7_secondsOfTries_10 rfl (lv_at hl 1 rfl) ?_
  refine lv_iconst (v := 1) hx hb dX7_secondsOfTries_11 (by decide) ?_
  refine lv_isub hx hb dX7_secondsOfTries_12 ?_
  refine lv_aload_n hx hb dX7_secondsOfTries_13 rfl (lv_at hl 0 rfl) ?_
  refine va_get (D := G) (ci := 7) (v := .ref h) (C := RX7) (T := TX7) (N := 11) hx hb hts inT7 hown hK hP 0 rfl rfl 0 (by decide) (hts _ tw_479) (fun _ h9 => h9) rfl dX7_secondsOfTries_14 ?_
  refine lv_iconst (v := 2) hx hb dX7_secondsOfTries_17 (by decide) ?_
  refine z_callVi (As := [.int 2]) (rest := [.int (k - 1), .int x_4]) (wr := [(se, .inr (7, [.ref h, .ref se_row, .int se_places, .ref se_found, .int se_foundMany, .ref se_rr, .ref se_rp, .ref se_rs, .ref se_ro, .long se_meanTop, .long se_meanBottom]))]) ⟨hx, hb, hml, hown, hts⟩ hK hE hT hP hD hS hA (d_H_secondsOf l G cA h h_features h_featureNames h_steps h_turnedFeatures h_sixteenths h_keys h_keySteps h_lent h_rings h_on h_onMany h_doors h_wanted h_openers h_seconds h_turned h_roundMany h_roundDoors c_h_seconds 2 (by omega)) lk_RX7_67 ⟨rfl, rfl⟩ ⟨Nat.le_of_ble_eq_true rfl, Nat.le_of_ble_eq_true rfl⟩ 2 rfl rfl rfl [1, 2] [0] rfl rfl (by decide) rfl hl.1 rfl (lv_room (Nat.le_of_ble_eq_true rfl)) dX7_secondsOfTries_18 ⟨Nat.le_of_ble_eq_true rfl, Nat.le_of_ble_eq_true rfl⟩ (fun r_5 u_6 H locs hw hP hD hS => ?_)
  have hP : va_P G vwCl [(se, .inr (7, [.ref h, .ref se_row, .int se_places, .ref se_found, .int se_foundMany, .ref se_rr, .ref se_rp, .ref se_rs, .ref se_ro, .long se_meanTop, .long se_meanBottom])), (h, .inr (2, [.int h_features, .ref h_featureNames, .ref h_steps, .ref h_turnedFeatures, .ref h_sixteenths, .int h_keys, .ref h_keySteps, .int h_lent, .int h_rings, .ref h_on, .ref h_onMany, .int h_doors, .ref h_wanted, .ref h_openers, .ref h_seconds, .int h_turned, .int h_roundMany, .ref h_roundDoors])), (h_seconds, .inl (cA.1 0, 4, .inl c_h_seconds))] H := hP
  have hD : va_D A [(se, .inr (7, [.ref h, .ref se_row, .int se_places, .ref se_found, .int se_foundMany, .ref se_rr, .ref se_rp, .ref se_rs, .ref se_ro, .long se_meanTop, .long se_meanBottom])), (h, .inr (2, [.int h_features, .ref h_featureNames, .ref h_steps, .ref h_turnedFeatures, .ref h_sixteenths, .int h_keys, .ref h_keySteps, .int h_lent, .int h_rings, .ref h_on, .ref h_onMany, .int h_doors, .ref h_wanted, .ref h_openers, .ref h_seconds, .int h_turned, .int h_roundMany, .ref h_roundDoors])), (h_seconds, .inl (cA.1 0, 4, .inl c_h_seconds))] := hD
  obtain ⟨he_r_5, hw⟩ := hw
  refine lv_imul hx hb dX7_secondsOfTries_21 ?_
  refine lv_topi (fun x_8 he_x_8 => ?_)
  refine lv_iadd hx hb dX7_secondsOfTries_22 ?_
  refine lv_topi (fun x_9 he_x_9 => ?_)
  have hX_10 : F_Se_secondsOfTries c_h_seconds k = (x_9 : Int32) := by
    refine (F_Se_secondsOfTries_s ..).trans ?_
    extract_lets -merge -useContext +onlyGivenNames w9 y9; have e9 : r_1 = w9 := he_r_1; clear_value w9; subst e9
    try (extract_lets -merge -useContext +onlyGivenNames y9; have e9 : x_4 = y9 := (by first | exact he_x_4 | exact he_x_4.symm); clear_value y9; subst e9)
    extract_lets -merge -useContext +onlyGivenNames w9 y9; have e9 : r_5 = w9 := he_r_5; clear_value w9; subst e9
    try (extract_lets -merge -useContext +onlyGivenNames y9; have e9 : x_8 = y9 := (by first | exact he_x_8 | exact he_x_8.symm); clear_value y9; subst e9)
    try (extract_lets -merge -useContext +onlyGivenNames y9; have e9 : x_9 = y9 := (by first | exact he_x_9 | exact he_x_9.symm); clear_value y9; subst e9)
    exact rfl
  exact hret _ _ _ _ _ _ () [0, 1, 2] hP hD hS rfl (by decide) dX7_secondsOfTries_23 ⟨(congrArg (fun z9 => z9) hX_10).symm, trivial⟩
set_option maxHeartbeats 40000000 in
set_option maxRecDepth 100000 in
theorem d_Se_foundAt (l : Launch) (G : va_G) (cA : zCA) (se : Nat) (h : Nat) (se_row : Nat) (se_places : Int32) (se_found : Nat) (se_foundMany : Int32) (se_rr : Nat) (se_rp : Nat) (se_rs : Nat) (se_ro : Nat) (se_meanTop : Int64) (se_meanBottom : Int64) (c_se_found : Nat → Int32) (k : Int32) : zCi l yX7_foundAt cX7_foundAt 2 (some .int) ({ frames := 1, cells := 0, slots := 0, locals := 21 }) G cA [.ref se, .int k] [(se, .inr (7, [.ref h, .ref se_row, .int se_places, .ref se_found, .int se_foundMany, .ref se_rr, .ref se_rp, .ref se_rs, .ref se_ro, .long se_meanTop, .long se_meanBottom])), (se_found, .inl (cA.1 0, 10, .inl c_se_found))] (S := Unit) (fun (r : Int32) (u : Unit) => (r = (F_Se_foundAt se_foundMany c_se_found k)) ∧ (True)) (fun (u : Unit) => [(se, .inr (7, [.ref h, .ref se_row, .int se_places, .ref se_found, .int se_foundMany, .ref se_rr, .ref se_rp, .ref se_rs, .ref se_ro, .long se_meanTop, .long se_meanBottom])), (se_found, .inl (cA.1 0, 10, .inl c_se_found))]) 0 0 := by
  refine z_start2i (own := RX7) (by decide) (Nat.le_of_ble_eq_true rfl) rfl ?_
  intro p e s m args below meth c A ls Q hx hb hml hts hown hK hE hT hP hD hS hA hl hret
  have hl : lv_has ls 2 [(0, .ref se), (1, .int k)] := hl
  refine lv_iload_n hx hb dX7_foundAt_0 rfl (lv_at hl 1 rfl) ?_
  refine lv_if_lt (tgt := 23) hx hb dX7_foundAt_1 (by decide) (fun c_1 => ?_) (fun c_1 => ?_)
  · have b_2 := z_b3 c_1 (K := 0) (by decide +kernel)
    refine lv_iconst (v := (-1)) hx hb dX7_foundAt_23 (by decide) ?_
    have hX_3 : F_Se_foundAt se_foundMany c_se_found k = ((-1 : Int32) : Int32) := by
      refine (F_Se_foundAt_s ..).trans ?_
      refine (if_pos c_1).trans ?_
      exact rfl
    exact hret _ _ _ _ _ _ () [0, 1] hP hD hS rfl (by decide) dX7_foundAt_24 ⟨(congrArg (fun z9 => z9) hX_3).symm, trivial⟩
  · have b_4 := z_b4 c_1 (K := 0) (by decide +kernel)
    refine lv_iload_n hx hb dX7_foundAt_4 rfl (lv_at hl 1 rfl) ?_
    refine lv_aload_n hx hb dX7_foundAt_5 rfl (lv_at hl 0 rfl) ?_
    refine va_get (D := G) (ci := 7) (v := .int se_foundMany) (C := RX7) (T := TX7) (N := 11) hx hb hts inT7 hown hK hP 0 rfl rfl 4 (by decide) (hts _ tw_484) (fun _ h9 => h9) rfl dX7_foundAt_6 ?_
    refine lv_icmp_ge (tgt := 23) hx hb dX7_foundAt_9 (by decide) (fun c_5 => ?_) (fun c_5 => ?_)
    · have b_6 := z_s1 c_5
      refine lv_iconst (v := (-1)) hx hb dX7_foundAt_23 (by decide) ?_
      have hX_7 : F_Se_foundAt se_foundMany c_se_found k = ((-1 : Int32) : Int32) := by
        refine (F_Se_foundAt_s ..).trans ?_
        refine (if_neg c_1).trans ?_
        refine (if_pos c_5).trans ?_
        exact rfl
      exact hret _ _ _ _ _ _ () [0, 1] hP hD hS rfl (by decide) dX7_foundAt_24 ⟨(congrArg (fun z9 => z9) hX_7).symm, trivial⟩
    · have b_8 := z_t2 c_5
      refine lv_aload_n hx hb dX7_foundAt_12 rfl (lv_at hl 0 rfl) ?_
      refine va_get (D := G) (ci := 7) (v := .ref se_found) (C := RX7) (T := TX7) (N := 11) hx hb hts inT7 hown hK hP 0 rfl rfl 3 (by decide) (hts _ tw_483) (fun _ h9 => h9) rfl dX7_foundAt_13 ?_
      refine lv_iload_n hx hb dX7_foundAt_16 rfl (lv_at hl 1 rfl) ?_
      refine z_callSNi (As := [.ref se_found, .int k]) (rest := []) (wr := [(se, .inr (7, [.ref h, .ref se_row, .int se_places, .ref se_found, .int se_foundMany, .ref se_rr, .ref se_rp, .ref se_rs, .ref se_ro, .long se_meanTop, .long se_meanBottom]))]) ⟨hx, hb, hml, hown, hts⟩ hK hE hT hP hD hS hA (d_at_10 l G cA se_found c_se_found k) lk_RX7_55 ⟨rfl, rfl⟩ ⟨Nat.le_of_ble_eq_true rfl, Nat.le_of_ble_eq_true rfl⟩ [1] [0] rfl rfl (by decide) rfl hl.1 rfl (lv_room (Nat.le_of_ble_eq_true rfl)) dX7_foundAt_17 ⟨Nat.le_of_ble_eq_true rfl, Nat.le_of_ble_eq_true rfl⟩ (fun r_9 u_10 H locs hw hP hD hS => ?_)
      have hP : va_P G vwCl [(se, .inr (7, [.ref h, .ref se_row, .int se_places, .ref se_found, .int se_foundMany, .ref se_rr, .ref se_rp, .ref se_rs, .ref se_ro, .long se_meanTop, .long se_meanBottom])), (se_found, .inl (cA.1 0, 10, .inl c_se_found))] H := hP
      have hD : va_D A [(se, .inr (7, [.ref h, .ref se_row, .int se_places, .ref se_found, .int se_foundMany, .ref se_rr, .ref se_rp, .ref se_rs, .ref se_ro, .long se_meanTop, .long se_meanBottom])), (se_found, .inl (cA.1 0, 10, .inl c_se_found))] := hD
      obtain ⟨he_r_9, hw⟩ := hw
      refine lv_goto (tgt := 24) hx hb dX7_foundAt_20 (by decide) ?_
      have hX_12 : F_Se_foundAt se_foundMany c_se_found k = (r_9 : Int32) := by
        refine (F_Se_foundAt_s ..).trans ?_
        refine (if_neg c_1).trans ?_
        refine (if_neg c_5).trans ?_
        extract_lets -merge -useContext +onlyGivenNames w9 y9; have e9 : r_9 = w9 := he_r_9; clear_value w9; subst e9
        exact rfl
      exact hret _ _ _ _ _ _ () [0, 1] hP hD hS rfl (by decide) dX7_foundAt_24 ⟨(congrArg (fun z9 => z9) hX_12).symm, trivial⟩
set_option maxHeartbeats 40000000 in
set_option maxRecDepth 100000 in
theorem d_Se_wantedTogether (l : Launch) (G : va_G) (cA : zCA) (se : Nat) (h : Nat) (se_row : Nat) (se_places : Int32) (se_found : Nat) (se_foundMany : Int32) (se_rr : Nat) (se_rp : Nat) (se_rs : Nat) (se_ro : Nat) (se_meanTop : Int64) (se_meanBottom : Int64) (h_features : Int32) (h_featureNames : Nat) (h_steps : Nat) (h_turnedFeatures : Nat) (h_sixteenths : Nat) (h_keys : Int32) (h_keySteps : Nat) (h_lent : Int32) (h_rings : Int32) (h_on : Nat) (h_onMany : Nat) (h_doors : Int32) (h_wanted : Nat) (h_openers : Nat) (h_seconds : Nat) (h_turned : Int32) (h_roundMany : Int32) (h_roundDoors : Nat) (c_h_wanted : Nat → Int32) (c_h_openers : Nat → Int32) (c_se_row : Nat → Int32) (hm_h_features : 0 ≤ h_features.toInt ∧ h_features.toInt ≤ 3) : zCi l yX7_wantedTogether cX7_wantedTogether 3 (some .int) ({ frames := 3, cells := 0, slots := 0, locals := 67 }) G cA [.ref se] [(se, .inr (7, [.ref h, .ref se_row, .int se_places, .ref se_found, .int se_foundMany, .ref se_rr, .ref se_rp, .ref se_rs, .ref se_ro, .long se_meanTop, .long se_meanBottom])), (h, .inr (2, [.int h_features, .ref h_featureNames, .ref h_steps, .ref h_turnedFeatures, .ref h_sixteenths, .int h_keys, .ref h_keySteps, .int h_lent, .int h_rings, .ref h_on, .ref h_onMany, .int h_doors, .ref h_wanted, .ref h_openers, .ref h_seconds, .int h_turned, .int h_roundMany, .ref h_roundDoors])), (h_wanted, .inl (cA.1 0, 5, .inl c_h_wanted)), (h_openers, .inl (cA.1 0, 5, .inl c_h_openers)), (se_row, .inl (cA.1 0, 10, .inl c_se_row))] (S := Unit) (fun (r : Int32) (u : Unit) => (r = (F_Se_wantedTogether se_places h_doors c_h_wanted c_h_openers c_se_row)) ∧ (True)) (fun (u : Unit) => [(se, .inr (7, [.ref h, .ref se_row, .int se_places, .ref se_found, .int se_foundMany, .ref se_rr, .ref se_rp, .ref se_rs, .ref se_ro, .long se_meanTop, .long se_meanBottom])), (h, .inr (2, [.int h_features, .ref h_featureNames, .ref h_steps, .ref h_turnedFeatures, .ref h_sixteenths, .int h_keys, .ref h_keySteps, .int h_lent, .int h_rings, .ref h_on, .ref h_onMany, .int h_doors, .ref h_wanted, .ref h_openers, .ref h_seconds, .int h_turned, .int h_roundMany, .ref h_roundDoors])), (h_wanted, .inl (cA.1 0, 5, .inl c_h_wanted)), (h_openers, .inl (cA.1 0, 5, .inl c_h_openers)), (se_row, .inl (cA.1 0, 10, .inl c_se_row))]) 0 0 := by
  refine z_start2i (own := RX7) (by decide) (Nat.le_of_ble_eq_true rfl) rfl ?_
  intro p e s m args below meth c A ls Q hx hb hml hts hown hK hE hT hP hD hS hA hl hret
  have hl : lv_has ls 3 [(0, .ref se)] := hl
  refine lv_iconst (v := 0) hx hb dX7_wantedTogether_0 (by decide) ?_
  refine lv_istore_n (lv' := [(1, .int 0), (0, .ref se)]) hx hb dX7_wantedTogether_1 rfl hl (by decide) rfl (fun ls hl => ?_)
  refine lv_iconst (v := 0) hx hb dX7_wantedTogether_2 (by decide) ?_
  refine lv_istore_n (lv' := [(2, .int 0), (1, .int 0), (0, .ref se)]) hx hb dX7_wantedTogether_3 rfl hl (by decide) rfl (fun ls hl => ?_)
  have hlp_42 : ∀ (n_L4a : Nat) (v_27 : Int32) (v_28 : Int32) (H : Heap) (locs : List Loc) (ls : Array Slot), (2147483647 - v_28.toInt).toNat < n_L4a → (0 ≤ v_28.toInt) → (F_Se_wantedTogether se_places h_doors c_h_wanted c_h_openers c_se_row = F_Se_wantedTogether_L4a se_places h_doors c_h_wanted c_h_openers c_se_row n_L4a v_27 v_28) → va_P G vwCl [(se, .inr (7, [.ref h, .ref se_row, .int se_places, .ref se_found, .int se_foundMany, .ref se_rr, .ref se_rp, .ref se_rs, .ref se_ro, .long se_meanTop, .long se_meanBottom])), (h, .inr (2, [.int h_features, .ref h_featureNames, .ref h_steps, .ref h_turnedFeatures, .ref h_sixteenths, .int h_keys, .ref h_keySteps, .int h_lent, .int h_rings, .ref h_on, .ref h_onMany, .int h_doors, .ref h_wanted, .ref h_openers, .ref h_seconds, .int h_turned, .int h_roundMany, .ref h_roundDoors])), (h_wanted, .inl (cA.1 0, 5, .inl c_h_wanted)), (h_openers, .inl (cA.1 0, 5, .inl c_h_openers)), (se_row, .inl (cA.1 0, 10, .inl c_se_row))] H → va_D A [(se, .inr (7, [.ref h, .ref se_row, .int se_places, .ref se_found, .int se_foundMany, .ref se_rr, .ref se_rp, .ref se_rs, .ref se_ro, .long se_meanTop, .long se_meanBottom])), (h, .inr (2, [.int h_features, .ref h_featureNames, .ref h_steps, .ref h_turnedFeatures, .ref h_sixteenths, .int h_keys, .ref h_keySteps, .int h_lent, .int h_rings, .ref h_on, .ref h_onMany, .int h_doors, .ref h_wanted, .ref h_openers, .ref h_seconds, .int h_turned, .int h_roundMany, .ref h_roundDoors])), (h_wanted, .inl (cA.1 0, 5, .inl c_h_wanted)), (h_openers, .inl (cA.1 0, 5, .inl c_h_openers)), (se_row, .inl (cA.1 0, 10, .inl c_se_row))] → va_S A s.heap H locs → lv_has ls 3 [(0, .ref se), (1, .int v_27), (2, .int v_28)] → W p l e ({ frames := 3, cells := 0, slots := 0, locals := 67 }) s m args below meth c H locs 0 0 Q (F0 m 4 ls []) := by
    intro n_L4a
    induction n_L4a with
    | zero =>
      intro v_27 v_28 H locs ls hmu_hlp_42 hi_43 hF_L4a hP hD hS hl
      exact absurd hmu_hlp_42 (Nat.not_lt_zero _)
    | succ n_L4a ih_44 =>
      intro v_27 v_28 H locs ls hmu_hlp_42 hi_43 hF_L4a hP hD hS hl
      refine lv_iload_n hx hb dX7_wantedTogether_4 rfl (lv_at hl 2 rfl) ?_
      refine lv_aload_n hx hb dX7_wantedTogether_5 rfl (lv_at hl 0 rfl) ?_
      refine va_get (D := G) (ci := 7) (v := .ref h) (C := RX7) (T := TX7) (N := 11) hx hb hts inT7 hown hK hP 0 rfl rfl 0 (by decide) (hts _ tw_479) (fun _ h9 => h9) rfl dX7_wantedTogether_6 ?_
      refine va_get (D := G) (ci := 2) (v := .int h_doors) (C := RX2) (T := TX2) (N := 18) hx hb hts inT2 hown hK hP 1 rfl rfl 11 (by decide) (hts _ tw_287) (fun _ h9 => h9) rfl dX7_wantedTogether_9 ?_
      refine lv_icmp_ge (tgt := 40) hx hb dX7_wantedTogether_12 (by decide) (fun c_45 => ?_) (fun c_45 => ?_)
      · have b_46 := z_s1 c_45
        refine lv_iload_n hx hb dX7_wantedTogether_40 rfl (lv_at hl 1 rfl) ?_
        have hX_47 : F_Se_wantedTogether se_places h_doors c_h_wanted c_h_openers c_se_row = (v_27 : Int32) := by
          refine hF_L4a.trans ?_
          refine (F_Se_wantedTogether_L4a_s ..).trans ?_
          refine (if_pos c_45).trans ?_
          exact rfl
        exact hret _ _ _ _ _ _ () [0, 1, 2, 3, 4] hP hD hS rfl (by decide) dX7_wantedTogether_41 ⟨(congrArg (fun z9 => z9) hX_47).symm, trivial⟩
      · have b_48 := z_t2 c_45
        refine lv_aload_n hx hb dX7_wantedTogether_15 rfl (lv_at hl 0 rfl) ?_
        refine lv_iload_n hx hb dX7_wantedTogether_16 rfl (lv_at hl 2 rfl) ?_
        refine z_callVi (As := [.int v_28]) (rest := []) (wr := [(h_wanted, .inl (cA.1 0, 5, .inl c_h_wanted))]) ⟨hx, hb, hml, hown, hts⟩ hK hE hT hP hD hS hA (d_Se_someOpens l G cA se h se_row se_places se_found se_foundMany se_rr se_rp se_rs se_ro se_meanTop se_meanBottom h_features h_featureNames h_steps h_turnedFeatures h_sixteenths h_keys h_keySteps h_lent h_rings h_on h_onMany h_doors h_wanted h_openers h_seconds h_turned h_roundMany h_roundDoors c_h_openers c_se_row v_28 (by omega)) lk_RX7_80 ⟨rfl, rfl⟩ ⟨Nat.le_of_ble_eq_true rfl, Nat.le_of_ble_eq_true rfl⟩ 7 rfl rfl rfl [0, 1, 3, 4] [2] rfl rfl (by decide) rfl hl.1 rfl (lv_room (Nat.le_of_ble_eq_true rfl)) dX7_wantedTogether_17 ⟨Nat.le_of_ble_eq_true rfl, Nat.le_of_ble_eq_true rfl⟩ (fun r_49 u_50 H locs hw hP hD hS => ?_)
        have hP : va_P G vwCl [(h_wanted, .inl (cA.1 0, 5, .inl c_h_wanted)), (se, .inr (7, [.ref h, .ref se_row, .int se_places, .ref se_found, .int se_foundMany, .ref se_rr, .ref se_rp, .ref se_rs, .ref se_ro, .long se_meanTop, .long se_meanBottom])), (h, .inr (2, [.int h_features, .ref h_featureNames, .ref h_steps, .ref h_turnedFeatures, .ref h_sixteenths, .int h_keys, .ref h_keySteps, .int h_lent, .int h_rings, .ref h_on, .ref h_onMany, .int h_doors, .ref h_wanted, .ref h_openers, .ref h_seconds, .int h_turned, .int h_roundMany, .ref h_roundDoors])), (h_openers, .inl (cA.1 0, 5, .inl c_h_openers)), (se_row, .inl (cA.1 0, 10, .inl c_se_row))] H := hP
        have hD : va_D A [(h_wanted, .inl (cA.1 0, 5, .inl c_h_wanted)), (se, .inr (7, [.ref h, .ref se_row, .int se_places, .ref se_found, .int se_foundMany, .ref se_rr, .ref se_rp, .ref se_rs, .ref se_ro, .long se_meanTop, .long se_meanBottom])), (h, .inr (2, [.int h_features, .ref h_featureNames, .ref h_steps, .ref h_turnedFeatures, .ref h_sixteenths, .int h_keys, .ref h_keySteps, .int h_lent, .int h_rings, .ref h_on, .ref h_onMany, .int h_doors, .ref h_wanted, .ref h_openers, .ref h_seconds, .int h_turned, .int h_roundMany, .ref h_roundDoors])), (h_openers, .inl (cA.1 0, 5, .inl c_h_openers)), (se_row, .inl (cA.1 0, 10, .inl c_se_row))] := hD
        obtain ⟨he_r_49, hw⟩ := hw
        have hz_r_49 := hw
        refine lv_if_eq (tgt := 34) hx hb dX7_wantedTogether_20 (by decide) (fun c_52 => ?_) (fun c_52 => ?_)
        · skip
          refine lv_iinc (v := (v_28 + 1)) (lv' := [(2, .int (v_28 + 1)), (0, .ref se), (1, .int v_27)]) hx hb dX7_wantedTogether_34 hl (k := 2) rfl (z_ofi (by decide +kernel)) (by decide) rfl (fun ls hl => ?_)
          refine lv_goto (tgt := 4) hx hb dX7_wantedTogether_37 (by decide) ?_
          have hX_54 : F_Se_wantedTogether se_places h_doors c_h_wanted c_h_openers c_se_row = F_Se_wantedTogether_L4a se_places h_doors c_h_wanted c_h_openers c_se_row n_L4a v_27 (v_28 + 1) := by
            refine hF_L4a.trans ?_
            refine (F_Se_wantedTogether_L4a_s ..).trans ?_
            refine (if_neg c_45).trans ?_
            extract_lets -merge -useContext +onlyGivenNames w9 y9; have e9 : r_49 = w9 := he_r_49; clear_value w9; subst e9
            refine (if_pos c_52).trans ?_
            exact rfl
          have hP := hP.sub (ws' := [(se, .inr (7, [.ref h, .ref se_row, .int se_places, .ref se_found, .int se_foundMany, .ref se_rr, .ref se_rp, .ref se_rs, .ref se_ro, .long se_meanTop, .long se_meanBottom])), (h, .inr (2, [.int h_features, .ref h_featureNames, .ref h_steps, .ref h_turnedFeatures, .ref h_sixteenths, .int h_keys, .ref h_keySteps, .int h_lent, .int h_rings, .ref h_on, .ref h_onMany, .int h_doors, .ref h_wanted, .ref h_openers, .ref h_seconds, .int h_turned, .int h_roundMany, .ref h_roundDoors])), (h_wanted, .inl (cA.1 0, 5, .inl c_h_wanted)), (h_openers, .inl (cA.1 0, 5, .inl c_h_openers)), (se_row, .inl (cA.1 0, 10, .inl c_se_row))]) [1, 2, 0, 3, 4] rfl
          have hD := hD.sub (ws' := [(se, .inr (7, [.ref h, .ref se_row, .int se_places, .ref se_found, .int se_foundMany, .ref se_rr, .ref se_rp, .ref se_rs, .ref se_ro, .long se_meanTop, .long se_meanBottom])), (h, .inr (2, [.int h_features, .ref h_featureNames, .ref h_steps, .ref h_turnedFeatures, .ref h_sixteenths, .int h_keys, .ref h_keySteps, .int h_lent, .int h_rings, .ref h_on, .ref h_onMany, .int h_doors, .ref h_wanted, .ref h_openers, .ref h_seconds, .int h_turned, .int h_roundMany, .ref h_roundDoors])), (h_wanted, .inl (cA.1 0, 5, .inl c_h_wanted)), (h_openers, .inl (cA.1 0, 5, .inl c_h_openers)), (se_row, .inl (cA.1 0, 10, .inl c_se_row))]) [1, 2, 0, 3, 4] (by decide) rfl
          exact ih_44 v_27 (v_28 + 1) H locs ls (z_up hmu_hlp_42 (by omega) trivial) (z_upc hi_43 (by omega) trivial) hX_54 hP hD hS (lv_sub hl [1, 2, 0] rfl)
        · skip
          refine lv_iload_n hx hb dX7_wantedTogether_23 rfl (lv_at hl 1 rfl) ?_
          refine lv_aload_n hx hb dX7_wantedTogether_24 rfl (lv_at hl 0 rfl) ?_
          refine va_get (D := G) (ci := 7) (v := .ref h) (C := RX7) (T := TX7) (N := 11) hx hb hts inT7 hown hK hP 1 rfl rfl 0 (by decide) (hts _ tw_479) (fun _ h9 => h9) rfl dX7_wantedTogether_25 ?_
          refine lv_iload_n hx hb dX7_wantedTogether_28 rfl (lv_at hl 2 rfl) ?_
          refine z_callVi (As := [.int v_28]) (rest := [.int v_27]) (wr := [(se, .inr (7, [.ref h, .ref se_row, .int se_places, .ref se_found, .int se_foundMany, .ref se_rr, .ref se_rp, .ref se_rs, .ref se_ro, .long se_meanTop, .long se_meanBottom])), (h_openers, .inl (cA.1 0, 5, .inl c_h_openers)), (se_row, .inl (cA.1 0, 10, .inl c_se_row))]) ⟨hx, hb, hml, hown, hts⟩ hK hE hT hP hD hS hA (d_H_wantedOf l G cA h h_features h_featureNames h_steps h_turnedFeatures h_sixteenths h_keys h_keySteps h_lent h_rings h_on h_onMany h_doors h_wanted h_openers h_seconds h_turned h_roundMany h_roundDoors c_h_wanted v_28 (by omega)) lk_RX7_84 ⟨rfl, rfl⟩ ⟨Nat.le_of_ble_eq_true rfl, Nat.le_of_ble_eq_true rfl⟩ 2 rfl rfl rfl [2, 0] [1, 3, 4] rfl rfl (by decide) rfl hl.1 rfl (lv_room (Nat.le_of_ble_eq_true rfl)) dX7_wantedTogether_29 ⟨Nat.le_of_ble_eq_true rfl, Nat.le_of_ble_eq_true rfl⟩ (fun r_56 u_57 H locs hw hP hD hS => ?_)
          have hP : va_P G vwCl [(se, .inr (7, [.ref h, .ref se_row, .int se_places, .ref se_found, .int se_foundMany, .ref se_rr, .ref se_rp, .ref se_rs, .ref se_ro, .long se_meanTop, .long se_meanBottom])), (h_openers, .inl (cA.1 0, 5, .inl c_h_openers)), (se_row, .inl (cA.1 0, 10, .inl c_se_row)), (h, .inr (2, [.int h_features, .ref h_featureNames, .ref h_steps, .ref h_turnedFeatures, .ref h_sixteenths, .int h_keys, .ref h_keySteps, .int h_lent, .int h_rings, .ref h_on, .ref h_onMany, .int h_doors, .ref h_wanted, .ref h_openers, .ref h_seconds, .int h_turned, .int h_roundMany, .ref h_roundDoors])), (h_wanted, .inl (cA.1 0, 5, .inl c_h_wanted))] H := hP
          have hD : va_D A [(se, .inr (7, [.ref h, .ref se_row, .int se_places, .ref se_found, .int se_foundMany, .ref se_rr, .ref se_rp, .ref se_rs, .ref se_ro, .long se_meanTop, .long se_meanBottom])), (h_openers, .inl (cA.1 0, 5, .inl c_h_openers)), (se_row, .inl (cA.1 0, 10, .inl c_se_row)), (h, .inr (2, [.int h_features, .ref h_featureNames, .ref h_steps, .ref h_turnedFeatures, .ref h_sixteenths, .int h_keys, .ref h_keySteps, .int h_lent, .int h_rings, .ref h_on, .ref h_onMany, .int h_doors, .ref h_wanted, .ref h_openers, .ref h_seconds, .int h_turned, .int h_roundMany, .ref h_roundDoors])), (h_wanted, .inl (cA.1 0, 5, .inl c_h_wanted))] := hD
          obtain ⟨he_r_56, hw⟩ := hw
          refine lv_iadd hx hb dX7_wantedTogether_32 ?_
          refine lv_topi (fun x_59 he_x_59 => ?_)
          refine lv_istore_n (lv' := [(1, .int x_59), (0, .ref se), (2, .int v_28)]) hx hb dX7_wantedTogether_33 rfl hl (by decide) rfl (fun ls hl => ?_)
          refine lv_iinc (v := (v_28 + 1)) (lv' := [(2, .int (v_28 + 1)), (1, .int x_59), (0, .ref se)]) hx hb dX7_wantedTogether_34 hl (k := 2) rfl (z_ofi (by decide +kernel)) (by decide) rfl (fun ls hl => ?_)
          refine lv_goto (tgt := 4) hx hb dX7_wantedTogether_37 (by decide) ?_
          have hX_60 : F_Se_wantedTogether se_places h_doors c_h_wanted c_h_openers c_se_row = F_Se_wantedTogether_L4a se_places h_doors c_h_wanted c_h_openers c_se_row n_L4a x_59 (v_28 + 1) := by
            refine hF_L4a.trans ?_
            refine (F_Se_wantedTogether_L4a_s ..).trans ?_
            refine (if_neg c_45).trans ?_
            extract_lets -merge -useContext +onlyGivenNames w9 y9; have e9 : r_49 = w9 := he_r_49; clear_value w9; subst e9
            refine (if_neg c_52).trans ?_
            extract_lets -merge -useContext +onlyGivenNames w9 y9; have e9 : r_56 = w9 := he_r_56; clear_value w9; subst e9
            try (extract_lets -merge -useContext +onlyGivenNames y9; have e9 : x_59 = y9 := (by first | exact he_x_59 | exact he_x_59.symm); clear_value y9; subst e9)
            exact rfl
          have hP := hP.sub (ws' := [(se, .inr (7, [.ref h, .ref se_row, .int se_places, .ref se_found, .int se_foundMany, .ref se_rr, .ref se_rp, .ref se_rs, .ref se_ro, .long se_meanTop, .long se_meanBottom])), (h, .inr (2, [.int h_features, .ref h_featureNames, .ref h_steps, .ref h_turnedFeatures, .ref h_sixteenths, .int h_keys, .ref h_keySteps, .int h_lent, .int h_rings, .ref h_on, .ref h_onMany, .int h_doors, .ref h_wanted, .ref h_openers, .ref h_seconds, .int h_turned, .int h_roundMany, .ref h_roundDoors])), (h_wanted, .inl (cA.1 0, 5, .inl c_h_wanted)), (h_openers, .inl (cA.1 0, 5, .inl c_h_openers)), (se_row, .inl (cA.1 0, 10, .inl c_se_row))]) [0, 3, 4, 1, 2] rfl
          have hD := hD.sub (ws' := [(se, .inr (7, [.ref h, .ref se_row, .int se_places, .ref se_found, .int se_foundMany, .ref se_rr, .ref se_rp, .ref se_rs, .ref se_ro, .long se_meanTop, .long se_meanBottom])), (h, .inr (2, [.int h_features, .ref h_featureNames, .ref h_steps, .ref h_turnedFeatures, .ref h_sixteenths, .int h_keys, .ref h_keySteps, .int h_lent, .int h_rings, .ref h_on, .ref h_onMany, .int h_doors, .ref h_wanted, .ref h_openers, .ref h_seconds, .int h_turned, .int h_roundMany, .ref h_roundDoors])), (h_wanted, .inl (cA.1 0, 5, .inl c_h_wanted)), (h_openers, .inl (cA.1 0, 5, .inl c_h_openers)), (se_row, .inl (cA.1 0, 10, .inl c_se_row))]) [0, 3, 4, 1, 2] (by decide) rfl
          exact ih_44 x_59 (v_28 + 1) H locs ls (z_up hmu_hlp_42 (by omega) trivial) (z_upc hi_43 (by omega) trivial) hX_60 hP hD hS (lv_sub hl [2, 1, 0] rfl)
  have hX_61 : F_Se_wantedTogether se_places h_doors c_h_wanted c_h_openers c_se_row = F_Se_wantedTogether_L4a se_places h_doors c_h_wanted c_h_openers c_se_row ((2147483647 - (0 : Int32).toInt).toNat + 1) (0 : Int32) (0 : Int32) := by
    refine (F_Se_wantedTogether_s ..).trans ?_
    exact rfl
  exact hlp_42 ((2147483647 - (0 : Int32).toInt).toNat + 1) 0 0 _ _ _ (Nat.lt_succ_self _) (by first | decide +kernel | omega) hX_61 hP hD hS (lv_sub hl [2, 1, 0] rfl)
set_option maxHeartbeats 40000000 in
set_option maxRecDepth 100000 in
theorem d_Se_secondsFromAll (l : Launch) (G : va_G) (cA : zCA) (se : Nat) (h : Nat) (se_row : Nat) (se_places : Int32) (se_found : Nat) (se_foundMany : Int32) (se_rr : Nat) (se_rp : Nat) (se_rs : Nat) (se_ro : Nat) (se_meanTop : Int64) (se_meanBottom : Int64) (h_features : Int32) (h_featureNames : Nat) (h_steps : Nat) (h_turnedFeatures : Nat) (h_sixteenths : Nat) (h_keys : Int32) (h_keySteps : Nat) (h_lent : Int32) (h_rings : Int32) (h_on : Nat) (h_onMany : Nat) (h_doors : Int32) (h_wanted : Nat) (h_openers : Nat) (h_seconds : Nat) (h_turned : Int32) (h_roundMany : Int32) (h_roundDoors : Nat) (c_h_openers : Nat → Int32) (c_h_seconds : Nat → Int32) (c_se_row : Nat → Int32) (k : Int32) (hm_h_features : 0 ≤ h_features.toInt ∧ h_features.toInt ≤ 3) : zCi l yX7_secondsFromAll cX7_secondsFromAll 6 (some .int) ({ frames := 2, cells := 0, slots := 0, locals := 44 }) G cA [.ref se, .int k] [(se, .inr (7, [.ref h, .ref se_row, .int se_places, .ref se_found, .int se_foundMany, .ref se_rr, .ref se_rp, .ref se_rs, .ref se_ro, .long se_meanTop, .long se_meanBottom])), (h, .inr (2, [.int h_features, .ref h_featureNames, .ref h_steps, .ref h_turnedFeatures, .ref h_sixteenths, .int h_keys, .ref h_keySteps, .int h_lent, .int h_rings, .ref h_on, .ref h_onMany, .int h_doors, .ref h_wanted, .ref h_openers, .ref h_seconds, .int h_turned, .int h_roundMany, .ref h_roundDoors])), (h_openers, .inl (cA.1 0, 5, .inl c_h_openers)), (h_seconds, .inl (cA.1 0, 4, .inl c_h_seconds)), (se_row, .inl (cA.1 0, 10, .inl c_se_row))] (S := Unit) (fun (r : Int32) (u : Unit) => (r = (F_Se_secondsFromAll se_places h_doors c_h_openers c_h_seconds c_se_row k)) ∧ (True)) (fun (u : Unit) => [(se, .inr (7, [.ref h, .ref se_row, .int se_places, .ref se_found, .int se_foundMany, .ref se_rr, .ref se_rp, .ref se_rs, .ref se_ro, .long se_meanTop, .long se_meanBottom])), (h, .inr (2, [.int h_features, .ref h_featureNames, .ref h_steps, .ref h_turnedFeatures, .ref h_sixteenths, .int h_keys, .ref h_keySteps, .int h_lent, .int h_rings, .ref h_on, .ref h_onMany, .int h_doors, .ref h_wanted, .ref h_openers, .ref h_seconds, .int h_turned, .int h_roundMany, .ref h_roundDoors])), (h_openers, .inl (cA.1 0, 5, .inl c_h_openers)), (h_seconds, .inl (cA.1 0, 4, .inl c_h_seconds)), (se_row, .inl (cA.1 0, 10, .inl c_se_row))]) 0 0 := by
  refine z_start2i (own := RX7) (by decide) (Nat.le_of_ble_eq_true rfl) rfl ?_
  intro p e s m args below meth c A ls Q hx hb hml hts hown hK hE hT hP hD hS hA hl hret
  have hl : lv_has ls 6 [(0, .ref se), (1, .int k)] := hl
  refine lv_aload_n hx hb dX7_secondsFromAll_0 rfl (lv_at hl 0 rfl) ?_
  refine va_get (D := G) (ci := 7) (v := .ref h) (C := RX7) (T := TX7) (N := 11) hx hb hts inT7 hown hK hP 0 rfl rfl 0 (by decide) (hts _ tw_479) (fun _ h9 => h9) rfl dX7_secondsFromAll_1 ?_
  refine lv_iload_n hx hb dX7_secondsFromAll_4 rfl (lv_at hl 1 rfl) ?_
  refine z_callVi (As := [.int k]) (rest := []) (wr := [(se, .inr (7, [.ref h, .ref se_row, .int se_places, .ref se_found, .int se_foundMany, .ref se_rr, .ref se_rp, .ref se_rs, .ref se_ro, .long se_meanTop, .long se_meanBottom])), (h_seconds, .inl (cA.1 0, 4, .inl c_h_seconds)), (se_row, .inl (cA.1 0, 10, .inl c_se_row))]) ⟨hx, hb, hml, hown, hts⟩ hK hE hT hP hD hS hA (d_H_openersOf l G cA h h_features h_featureNames h_steps h_turnedFeatures h_sixteenths h_keys h_keySteps h_lent h_rings h_on h_onMany h_doors h_wanted h_openers h_seconds h_turned h_roundMany h_roundDoors c_h_openers k (by omega)) lk_RX7_59 ⟨rfl, rfl⟩ ⟨Nat.le_of_ble_eq_true rfl, Nat.le_of_ble_eq_true rfl⟩ 2 rfl rfl rfl [1, 2] [0, 3, 4] rfl rfl (by decide) rfl hl.1 rfl (lv_room (Nat.le_of_ble_eq_true rfl)) dX7_secondsFromAll_5 ⟨Nat.le_of_ble_eq_true rfl, Nat.le_of_ble_eq_true rfl⟩ (fun r_1 u_2 H locs hw hP hD hS => ?_)
  have hP : va_P G vwCl [(se, .inr (7, [.ref h, .ref se_row, .int se_places, .ref se_found, .int se_foundMany, .ref se_rr, .ref se_rp, .ref se_rs, .ref se_ro, .long se_meanTop, .long se_meanBottom])), (h_seconds, .inl (cA.1 0, 4, .inl c_h_seconds)), (se_row, .inl (cA.1 0, 10, .inl c_se_row)), (h, .inr (2, [.int h_features, .ref h_featureNames, .ref h_steps, .ref h_turnedFeatures, .ref h_sixteenths, .int h_keys, .ref h_keySteps, .int h_lent, .int h_rings, .ref h_on, .ref h_onMany, .int h_doors, .ref h_wanted, .ref h_openers, .ref h_seconds, .int h_turned, .int h_roundMany, .ref h_roundDoors])), (h_openers, .inl (cA.1 0, 5, .inl c_h_openers))] H := hP
  have hD : va_D A [(se, .inr (7, [.ref h, .ref se_row, .int se_places, .ref se_found, .int se_foundMany, .ref se_rr, .ref se_rp, .ref se_rs, .ref se_ro, .long se_meanTop, .long se_meanBottom])), (h_seconds, .inl (cA.1 0, 4, .inl c_h_seconds)), (se_row, .inl (cA.1 0, 10, .inl c_se_row)), (h, .inr (2, [.int h_features, .ref h_featureNames, .ref h_steps, .ref h_turnedFeatures, .ref h_sixteenths, .int h_keys, .ref h_keySteps, .int h_lent, .int h_rings, .ref h_on, .ref h_onMany, .int h_doors, .ref h_wanted, .ref h_openers, .ref h_seconds, .int h_turned, .int h_roundMany, .ref h_roundDoors])), (h_openers, .inl (cA.1 0, 5, .inl c_h_openers))] := hD
  obtain ⟨he_r_1, hw⟩ := hw
  refine lv_istore_n (lv' := [(2, .int r_1), (0, .ref se), (1, .int k)]) hx hb dX7_secondsFromAll_8 rfl hl (by decide) rfl (fun ls hl => ?_)
  refine lv_iconst (v := 0) hx hb dX7_secondsFromAll_9 (by decide) ?_
  refine lv_istore_n (lv' := [(3, .int 0), (2, .int r_1), (0, .ref se), (1, .int k)]) hx hb dX7_secondsFromAll_10 rfl hl (by decide) rfl (fun ls hl => ?_)
  refine lv_iconst (v := 0) hx hb dX7_secondsFromAll_11 (by decide) ?_
  refine lv_istore (lv' := [(4, .int 0), (3, .int 0), (2, .int r_1), (0, .ref se), (1, .int k)]) hx hb dX7_secondsFromAll_12 hl (by decide) rfl (fun ls hl => ?_)
  refine lv_iconst (v := 2) hx hb dX7_secondsFromAll_14 (by decide) ?_
  refine lv_aload_n hx hb dX7_secondsFromAll_15 rfl (lv_at hl 3 rfl) ?_
  refine va_get (D := G) (ci := 7) (v := .int se_places) (C := RX7) (T := TX7) (N := 11) hx hb hts inT7 hown hK hP 0 rfl rfl 2 (by decide) (hts _ tw_481) (fun _ h9 => h9) rfl dX7_secondsFromAll_16 ?_
  refine lv_imul hx hb dX7_secondsFromAll_19 ?_
  refine lv_topi (fun x_4 he_x_4 => ?_)
  refine lv_iconst (v := 1) hx hb dX7_secondsFromAll_20 (by decide) ?_
  refine lv_isub hx hb dX7_secondsFromAll_21 ?_
  refine lv_istore (lv' := [(5, .int (x_4 - 1)), (4, .int 0), (3, .int 0), (2, .int r_1), (0, .ref se), (1, .int k)]) hx hb dX7_secondsFromAll_22 hl (by decide) rfl (fun ls hl => ?_)
  have hlp_126 : ∀ (n_L24a : Nat) (v_80 : Int32) (v_81 : Int32) (v_82 : Int32) (H : Heap) (locs : List Loc) (ls : Array Slot), (v_82.toInt + 2147483648).toNat < n_L24a → (F_Se_secondsFromAll se_places h_doors c_h_openers c_h_seconds c_se_row k = F_Se_secondsFromAll_L24a se_places c_h_seconds c_se_row r_1 n_L24a v_80 v_81 v_82) → va_P G vwCl [(se, .inr (7, [.ref h, .ref se_row, .int se_places, .ref se_found, .int se_foundMany, .ref se_rr, .ref se_rp, .ref se_rs, .ref se_ro, .long se_meanTop, .long se_meanBottom])), (h_seconds, .inl (cA.1 0, 4, .inl c_h_seconds)), (se_row, .inl (cA.1 0, 10, .inl c_se_row)), (h, .inr (2, [.int h_features, .ref h_featureNames, .ref h_steps, .ref h_turnedFeatures, .ref h_sixteenths, .int h_keys, .ref h_keySteps, .int h_lent, .int h_rings, .ref h_on, .ref h_onMany, .int h_doors, .ref h_wanted, .ref h_openers, .ref h_seconds, .int h_turned, .int h_roundMany, .ref h_roundDoors])), (h_openers, .inl (cA.1 0, 5, .inl c_h_openers))] H → va_D A [(se, .inr (7, [.ref h, .ref se_row, .int se_places, .ref se_found, .int se_foundMany, .ref se_rr, .ref se_rp, .ref se_rs, .ref se_ro, .long se_meanTop, .long se_meanBottom])), (h_seconds, .inl (cA.1 0, 4, .inl c_h_seconds)), (se_row, .inl (cA.1 0, 10, .inl c_se_row)), (h, .inr (2, [.int h_features, .ref h_featureNames, .ref h_steps, .ref h_turnedFeatures, .ref h_sixteenths, .int h_keys, .ref h_keySteps, .int h_lent, .int h_rings, .ref h_on, .ref h_onMany, .int h_doors, .ref h_wanted, .ref h_openers, .ref h_seconds, .int h_turned, .int h_roundMany, .ref h_roundDoors])), (h_openers, .inl (cA.1 0, 5, .inl c_h_openers))] → va_S A s.heap H locs → lv_has ls 6 [(0, .ref se), (1, .int k), (2, .int r_1), (3, .int v_80), (4, .int v_81), (5, .int v_82)] → W p l e ({ frames := 2, cells := 0, slots := 0, locals := 44 }) s m args below meth c H locs 0 0 Q (F0 m 24 ls []) := by
    intro n_L24a
    induction n_L24a with
    | zero =>
      intro v_80 v_81 v_82 H locs ls hmu_hlp_126 hF_L24a hP hD hS hl
      exact absurd hmu_hlp_126 (Nat.not_lt_zero _)
    | succ n_L24a ih_127 =>
      intro v_80 v_81 v_82 H locs ls hmu_hlp_126 hF_L24a hP hD hS hl
      refine lv_iload hx hb dX7_secondsFromAll_24 (lv_at hl 5 rfl) ?_
      refine lv_if_lt (tgt := 87) hx hb dX7_secondsFromAll_26 (by decide) (fun c_128 => ?_) (fun c_128 => ?_)
      · have b_129 := z_b3 c_128 (K := 0) (by decide +kernel)
        refine lv_iload hx hb dX7_secondsFromAll_87 (lv_at hl 4 rfl) ?_
        refine lv_aload_n hx hb dX7_secondsFromAll_89 rfl (lv_at hl 0 rfl) ?_
        refine va_get (D := G) (ci := 7) (v := .ref h) (C := RX7) (T := TX7) (N := 11) hx hb hts inT7 hown hK hP 0 rfl rfl 0 (by decide) (hts _ tw_479) (fun _ h9 => h9) rfl dX7_secondsFromAll_90 ?_
        refine lv_iconst (v := 1) hx hb dX7_secondsFromAll_93 (by decide) ?_
        refine z_callVi (As := [.int 1]) (rest := [.int v_81]) (wr := [(se, .inr (7, [.ref h, .ref se_row, .int se_places, .ref se_found, .int se_foundMany, .ref se_rr, .ref se_rp, .ref se_rs, .ref se_ro, .long se_meanTop, .long se_meanBottom])), (se_row, .inl (cA.1 0, 10, .inl c_se_row)), (h_openers, .inl (cA.1 0, 5, .inl c_h_openers))]) ⟨hx, hb, hml, hown, hts⟩ hK hE hT hP hD hS hA (d_H_secondsOf l G cA h h_features h_featureNames h_steps h_turnedFeatures h_sixteenths h_keys h_keySteps h_lent h_rings h_on h_onMany h_doors h_wanted h_openers h_seconds h_turned h_roundMany h_roundDoors c_h_seconds 1 (by omega)) lk_RX7_67 ⟨rfl, rfl⟩ ⟨Nat.le_of_ble_eq_true rfl, Nat.le_of_ble_eq_true rfl⟩ 2 rfl rfl rfl [3, 1] [0, 2, 4] rfl rfl (by decide) rfl hl.1 rfl (lv_room (Nat.le_of_ble_eq_true rfl)) dX7_secondsFromAll_94 ⟨Nat.le_of_ble_eq_true rfl, Nat.le_of_ble_eq_true rfl⟩ (fun r_130 u_131 H locs hw hP hD hS => ?_)
        have hP : va_P G vwCl [(se, .inr (7, [.ref h, .ref se_row, .int se_places, .ref se_found, .int se_foundMany, .ref se_rr, .ref se_rp, .ref se_rs, .ref se_ro, .long se_meanTop, .long se_meanBottom])), (se_row, .inl (cA.1 0, 10, .inl c_se_row)), (h_openers, .inl (cA.1 0, 5, .inl c_h_openers)), (h, .inr (2, [.int h_features, .ref h_featureNames, .ref h_steps, .ref h_turnedFeatures, .ref h_sixteenths, .int h_keys, .ref h_keySteps, .int h_lent, .int h_rings, .ref h_on, .ref h_onMany, .int h_doors, .ref h_wanted, .ref h_openers, .ref h_seconds, .int h_turned, .int h_roundMany, .ref h_roundDoors])), (h_seconds, .inl (cA.1 0, 4, .inl c_h_seconds))] H := hP
        have hD : va_D A [(se, .inr (7, [.ref h, .ref se_row, .int se_places, .ref se_found, .int se_foundMany, .ref se_rr, .ref se_rp, .ref se_rs, .ref se_ro, .long se_meanTop, .long se_meanBottom])), (se_row, .inl (cA.1 0, 10, .inl c_se_row)), (h_openers, .inl (cA.1 0, 5, .inl c_h_openers)), (h, .inr (2, [.int h_features, .ref h_featureNames, .ref h_steps, .ref h_turnedFeatures, .ref h_sixteenths, .int h_keys, .ref h_keySteps, .int h_lent, .int h_rings, .ref h_on, .ref h_onMany, .int h_doors, .ref h_wanted, .ref h_openers, .ref h_seconds, .int h_turned, .int h_roundMany, .ref h_roundDoors])), (h_seconds, .inl (cA.1 0, 4, .inl c_h_seconds))] := hD
        obtain ⟨he_r_130, hw⟩ := hw
        refine lv_imul hx hb dX7_secondsFromAll_97 ?_
        refine lv_topi (fun x_133 he_x_133 => ?_)
        refine lv_iload hx hb dX7_secondsFromAll_98 (lv_at hl 4 rfl) ?_
        refine lv_aload_n hx hb dX7_secondsFromAll_100 rfl (lv_at hl 0 rfl) ?_
        refine va_get (D := G) (ci := 7) (v := .int se_places) (C := RX7) (T := TX7) (N := 11) hx hb hts inT7 hown hK hP 0 rfl rfl 2 (by decide) (hts _ tw_481) (fun _ h9 => h9) rfl dX7_secondsFromAll_101 ?_
        refine lv_isub hx hb dX7_secondsFromAll_104 ?_
        refine lv_topi (fun x_134 he_x_134 => ?_)
        refine lv_aload_n hx hb dX7_secondsFromAll_105 rfl (lv_at hl 0 rfl) ?_
        refine va_get (D := G) (ci := 7) (v := .ref h) (C := RX7) (T := TX7) (N := 11) hx hb hts inT7 hown hK hP 0 rfl rfl 0 (by decide) (hts _ tw_479) (fun _ h9 => h9) rfl dX7_secondsFromAll_106 ?_
        refine lv_iconst (v := 2) hx hb dX7_secondsFromAll_109 (by decide) ?_
        refine z_callVi (As := [.int 2]) (rest := [.int x_134, .int x_133]) (wr := [(se, .inr (7, [.ref h, .ref se_row, .int se_places, .ref se_found, .int se_foundMany, .ref se_rr, .ref se_rp, .ref se_rs, .ref se_ro, .long se_meanTop, .long se_meanBottom])), (se_row, .inl (cA.1 0, 10, .inl c_se_row)), (h_openers, .inl (cA.1 0, 5, .inl c_h_openers))]) ⟨hx, hb, hml, hown, hts⟩ hK hE hT hP hD hS hA (d_H_secondsOf l G cA h h_features h_featureNames h_steps h_turnedFeatures h_sixteenths h_keys h_keySteps h_lent h_rings h_on h_onMany h_doors h_wanted h_openers h_seconds h_turned h_roundMany h_roundDoors c_h_seconds 2 (by omega)) lk_RX7_67 ⟨rfl, rfl⟩ ⟨Nat.le_of_ble_eq_true rfl, Nat.le_of_ble_eq_true rfl⟩ 2 rfl rfl rfl [3, 4] [0, 1, 2] rfl rfl (by decide) rfl hl.1 rfl (lv_room (Nat.le_of_ble_eq_true rfl)) dX7_secondsFromAll_110 ⟨Nat.le_of_ble_eq_true rfl, Nat.le_of_ble_eq_true rfl⟩ (fun r_135 u_136 H locs hw hP hD hS => ?_)
        have hP : va_P G vwCl [(se, .inr (7, [.ref h, .ref se_row, .int se_places, .ref se_found, .int se_foundMany, .ref se_rr, .ref se_rp, .ref se_rs, .ref se_ro, .long se_meanTop, .long se_meanBottom])), (se_row, .inl (cA.1 0, 10, .inl c_se_row)), (h_openers, .inl (cA.1 0, 5, .inl c_h_openers)), (h, .inr (2, [.int h_features, .ref h_featureNames, .ref h_steps, .ref h_turnedFeatures, .ref h_sixteenths, .int h_keys, .ref h_keySteps, .int h_lent, .int h_rings, .ref h_on, .ref h_onMany, .int h_doors, .ref h_wanted, .ref h_openers, .ref h_seconds, .int h_turned, .int h_roundMany, .ref h_roundDoors])), (h_seconds, .inl (cA.1 0, 4, .inl c_h_seconds))] H := hP
        have hD : va_D A [(se, .inr (7, [.ref h, .ref se_row, .int se_places, .ref se_found, .int se_foundMany, .ref se_rr, .ref se_rp, .ref se_rs, .ref se_ro, .long se_meanTop, .long se_meanBottom])), (se_row, .inl (cA.1 0, 10, .inl c_se_row)), (h_openers, .inl (cA.1 0, 5, .inl c_h_openers)), (h, .inr (2, [.int h_features, .ref h_featureNames, .ref h_steps, .ref h_turnedFeatures, .ref h_sixteenths, .int h_keys, .ref h_keySteps, .int h_lent, .int h_rings, .ref h_on, .ref h_onMany, .int h_doors, .ref h_wanted, .ref h_openers, .ref h_seconds, .int h_turned, .int h_roundMany, .ref h_roundDoors])), (h_seconds, .inl (cA.1 0, 4, .inl c_h_seconds))] := hD
        obtain ⟨he_r_135, hw⟩ := hw
        refine lv_imul hx hb dX7_secondsFromAll_113 ?_
        refine lv_topi (fun x_138 he_x_138 => ?_)
        refine lv_iadd hx hb dX7_secondsFromAll_114 ?_
        refine lv_topi (fun x_139 he_x_139 => ?_)
        have hX_140 : F_Se_secondsFromAll se_places h_doors c_h_openers c_h_seconds c_se_row k = (x_139 : Int32) := by
          refine hF_L24a.trans ?_
          refine (F_Se_secondsFromAll_L24a_s ..).trans ?_
          refine (if_pos c_128).trans ?_
          extract_lets -merge -useContext +onlyGivenNames w9 y9; have e9 : r_130 = w9 := he_r_130; clear_value w9; subst e9
          try (extract_lets -merge -useContext +onlyGivenNames y9; have e9 : x_133 = y9 := (by first | exact he_x_133 | exact he_x_133.symm); clear_value y9; subst e9)
          try (extract_lets -merge -useContext +onlyGivenNames y9; have e9 : x_134 = y9 := (by first | exact he_x_134 | exact he_x_134.symm); clear_value y9; subst e9)
          extract_lets -merge -useContext +onlyGivenNames w9 y9; have e9 : r_135 = w9 := he_r_135; clear_value w9; subst e9
          try (extract_lets -merge -useContext +onlyGivenNames y9; have e9 : x_138 = y9 := (by first | exact he_x_138 | exact he_x_138.symm); clear_value y9; subst e9)
          try (extract_lets -merge -useContext +onlyGivenNames y9; have e9 : x_139 = y9 := (by first | exact he_x_139 | exact he_x_139.symm); clear_value y9; subst e9)
          exact rfl
        exact hret _ _ _ _ _ _ () [0, 3, 2, 4, 1] hP hD hS rfl (by decide) dX7_secondsFromAll_115 ⟨(congrArg (fun z9 => z9) hX_140).symm, trivial⟩
      · have b_141 := z_b4 c_128 (K := 0) (by decide +kernel)
        refine lv_aload_n hx hb dX7_secondsFromAll_29 rfl (lv_at hl 0 rfl) ?_
        refine lv_iload_n hx hb dX7_secondsFromAll_30 rfl (lv_at hl 2 rfl) ?_
        refine lv_iload hx hb dX7_secondsFromAll_31 (lv_at hl 5 rfl) ?_
        refine lv_aload_n hx hb dX7_secondsFromAll_33 rfl (lv_at hl 0 rfl) ?_
        refine va_get (D := G) (ci := 7) (v := .int se_places) (C := RX7) (T := TX7) (N := 11) hx hb hts inT7 hown hK hP 0 rfl rfl 2 (by decide) (hts _ tw_481) (fun _ h9 => h9) rfl dX7_secondsFromAll_34 ?_
        refine lv_icmp_ge (tgt := 45) hx hb dX7_secondsFromAll_37 (by decide) (fun c_142 => ?_) (fun c_142 => ?_)
        · have b_143 := z_s1 c_142
          refine lv_iload hx hb dX7_secondsFromAll_45 (lv_at hl 5 rfl) ?_
          refine lv_aload_n hx hb dX7_secondsFromAll_47 rfl (lv_at hl 0 rfl) ?_
          refine va_get (D := G) (ci := 7) (v := .int se_places) (C := RX7) (T := TX7) (N := 11) hx hb hts inT7 hown hK hP 0 rfl rfl 2 (by decide) (hts _ tw_481) (fun _ h9 => h9) rfl dX7_secondsFromAll_48 ?_
          refine lv_isub hx hb dX7_secondsFromAll_51 ?_
          refine lv_topi (fun x_144 he_x_144 => ?_)
          refine z_callVi (As := [.int r_1, .int x_144]) (rest := []) (wr := [(h_seconds, .inl (cA.1 0, 4, .inl c_h_seconds)), (h, .inr (2, [.int h_features, .ref h_featureNames, .ref h_steps, .ref h_turnedFeatures, .ref h_sixteenths, .int h_keys, .ref h_keySteps, .int h_lent, .int h_rings, .ref h_on, .ref h_onMany, .int h_doors, .ref h_wanted, .ref h_openers, .ref h_seconds, .int h_turned, .int h_roundMany, .ref h_roundDoors])), (h_openers, .inl (cA.1 0, 5, .inl c_h_openers))]) ⟨hx, hb, hml, hown, hts⟩ hK hE hT hP hD hS hA (d_Se_isOf l G cA se h se_row se_places se_found se_foundMany se_rr se_rp se_rs se_ro se_meanTop se_meanBottom c_se_row r_1 x_144) lk_RX7_63 ⟨rfl, rfl⟩ ⟨Nat.le_of_ble_eq_true rfl, Nat.le_of_ble_eq_true rfl⟩ 7 rfl rfl rfl [0, 2] [1, 3, 4] rfl rfl (by decide) rfl hl.1 rfl (lv_room (Nat.le_of_ble_eq_true rfl)) dX7_secondsFromAll_52 ⟨Nat.le_of_ble_eq_true rfl, Nat.le_of_ble_eq_true rfl⟩ (fun r_145 u_146 H locs hw hP hD hS => ?_)
          have hP : va_P G vwCl [(h_seconds, .inl (cA.1 0, 4, .inl c_h_seconds)), (h, .inr (2, [.int h_features, .ref h_featureNames, .ref h_steps, .ref h_turnedFeatures, .ref h_sixteenths, .int h_keys, .ref h_keySteps, .int h_lent, .int h_rings, .ref h_on, .ref h_onMany, .int h_doors, .ref h_wanted, .ref h_openers, .ref h_seconds, .int h_turned, .int h_roundMany, .ref h_roundDoors])), (h_openers, .inl (cA.1 0, 5, .inl c_h_openers)), (se, .inr (7, [.ref h, .ref se_row, .int se_places, .ref se_found, .int se_foundMany, .ref se_rr, .ref se_rp, .ref se_rs, .ref se_ro, .long se_meanTop, .long se_meanBottom])), (se_row, .inl (cA.1 0, 10, .inl c_se_row))] H := hP
          have hD : va_D A [(h_seconds, .inl (cA.1 0, 4, .inl c_h_seconds)), (h, .inr (2, [.int h_features, .ref h_featureNames, .ref h_steps, .ref h_turnedFeatures, .ref h_sixteenths, .int h_keys, .ref h_keySteps, .int h_lent, .int h_rings, .ref h_on, .ref h_onMany, .int h_doors, .ref h_wanted, .ref h_openers, .ref h_seconds, .int h_turned, .int h_roundMany, .ref h_roundDoors])), (h_openers, .inl (cA.1 0, 5, .inl c_h_openers)), (se, .inr (7, [.ref h, .ref se_row, .int se_places, .ref se_found, .int se_foundMany, .ref se_rr, .ref se_rp, .ref se_rs, .ref se_ro, .long se_meanTop, .long se_meanBottom])), (se_row, .inl (cA.1 0, 10, .inl c_se_row))] := hD
          obtain ⟨he_r_145, hw⟩ := hw
          have hz_r_145 := hw
          refine lv_if_eq (tgt := 62) hx hb dX7_secondsFromAll_55 (by decide) (fun c_148 => ?_) (fun c_148 => ?_)
          · skip
            refine lv_iload_n hx hb dX7_secondsFromAll_62 rfl (lv_at hl 3 rfl) ?_
            refine lv_iconst (v := 1) hx hb dX7_secondsFromAll_63 (by decide) ?_
            refine lv_iadd hx hb dX7_secondsFromAll_64 ?_
            refine lv_istore_n (lv' := [(3, .int (v_80 + 1)), (0, .ref se), (1, .int k), (2, .int r_1), (4, .int v_81), (5, .int v_82)]) hx hb dX7_secondsFromAll_65 rfl hl (by decide) rfl (fun ls hl => ?_)
            refine lv_iload hx hb dX7_secondsFromAll_66 (lv_at hl 5 rfl) ?_
            refine lv_aload_n hx hb dX7_secondsFromAll_68 rfl (lv_at hl 1 rfl) ?_
            refine va_get (D := G) (ci := 7) (v := .int se_places) (C := RX7) (T := TX7) (N := 11) hx hb hts inT7 hown hK hP 3 rfl rfl 2 (by decide) (hts _ tw_481) (fun _ h9 => h9) rfl dX7_secondsFromAll_69 ?_
            refine lv_icmp_ge (tgt := 81) hx hb dX7_secondsFromAll_72 (by decide) (fun c_150 => ?_) (fun c_150 => ?_)
            · have b_151 := z_s1 c_150
              refine lv_iinc (v := (v_82 + (-1))) (lv' := [(5, .int (v_82 + (-1))), (3, .int (v_80 + 1)), (0, .ref se), (1, .int k), (2, .int r_1), (4, .int v_81)]) hx hb dX7_secondsFromAll_81 hl (k := 5) rfl (z_ofi (by decide +kernel)) (by decide) rfl (fun ls hl => ?_)
              refine lv_goto (tgt := 24) hx hb dX7_secondsFromAll_84 (by decide) ?_
              have hX_152 : F_Se_secondsFromAll se_places h_doors c_h_openers c_h_seconds c_se_row k = F_Se_secondsFromAll_L24a se_places c_h_seconds c_se_row r_1 n_L24a (v_80 + 1) v_81 (v_82 + (-1)) := by
                refine hF_L24a.trans ?_
                refine (F_Se_secondsFromAll_L24a_s ..).trans ?_
                refine (if_neg c_128).trans ?_
                refine (if_pos c_142).trans ?_
                try (extract_lets -merge -useContext +onlyGivenNames y9; have e9 : x_144 = y9 := (by first | exact he_x_144 | exact he_x_144.symm); clear_value y9; subst e9)
                extract_lets -merge -useContext +onlyGivenNames w9 y9; have e9 : r_145 = w9 := he_r_145; clear_value w9; subst e9
                refine (if_pos c_148).trans ?_
                refine (if_pos c_150).trans ?_
                exact rfl
              have hP := hP.sub (ws' := [(se, .inr (7, [.ref h, .ref se_row, .int se_places, .ref se_found, .int se_foundMany, .ref se_rr, .ref se_rp, .ref se_rs, .ref se_ro, .long se_meanTop, .long se_meanBottom])), (h_seconds, .inl (cA.1 0, 4, .inl c_h_seconds)), (se_row, .inl (cA.1 0, 10, .inl c_se_row)), (h, .inr (2, [.int h_features, .ref h_featureNames, .ref h_steps, .ref h_turnedFeatures, .ref h_sixteenths, .int h_keys, .ref h_keySteps, .int h_lent, .int h_rings, .ref h_on, .ref h_onMany, .int h_doors, .ref h_wanted, .ref h_openers, .ref h_seconds, .int h_turned, .int h_roundMany, .ref h_roundDoors])), (h_openers, .inl (cA.1 0, 5, .inl c_h_openers))]) [3, 0, 4, 1, 2] rfl
              have hD := hD.sub (ws' := [(se, .inr (7, [.ref h, .ref se_row, .int se_places, .ref se_found, .int se_foundMany, .ref se_rr, .ref se_rp, .ref se_rs, .ref se_ro, .long se_meanTop, .long se_meanBottom])), (h_seconds, .inl (cA.1 0, 4, .inl c_h_seconds)), (se_row, .inl (cA.1 0, 10, .inl c_se_row)), (h, .inr (2, [.int h_features, .ref h_featureNames, .ref h_steps, .ref h_turnedFeatures, .ref h_sixteenths, .int h_keys, .ref h_keySteps, .int h_lent, .int h_rings, .ref h_on, .ref h_onMany, .int h_doors, .ref h_wanted, .ref h_openers, .ref h_seconds, .int h_turned, .int h_roundMany, .ref h_roundDoors])), (h_openers, .inl (cA.1 0, 5, .inl c_h_openers))]) [3, 0, 4, 1, 2] (by decide) rfl
              exact ih_127 (v_80 + 1) v_81 (v_82 + (-1)) H locs ls (z_dn hmu_hlp_126 (by omega) trivial) hX_152 hP hD hS (lv_sub hl [2, 3, 4, 1, 5, 0] rfl)
            · have b_153 := z_t2 c_150
              refine lv_iload hx hb dX7_secondsFromAll_75 (lv_at hl 4 rfl) ?_
              refine lv_iload_n hx hb dX7_secondsFromAll_77 rfl (lv_at hl 0 rfl) ?_
              refine lv_iadd hx hb dX7_secondsFromAll_78 ?_
              refine lv_topi (fun x_154 he_x_154 => ?_)
              refine lv_istore (lv' := [(4, .int x_154), (3, .int (v_80 + 1)), (0, .ref se), (1, .int k), (2, .int r_1), (5, .int v_82)]) hx hb dX7_secondsFromAll_79 hl (by decide) rfl (fun ls hl => ?_)
              refine lv_iinc (v := (v_82 + (-1))) (lv' := [(5, .int (v_82 + (-1))), (4, .int x_154), (3, .int (v_80 + 1)), (0, .ref se), (1, .int k), (2, .int r_1)]) hx hb dX7_secondsFromAll_81 hl (k := 5) rfl (z_ofi (by decide +kernel)) (by decide) rfl (fun ls hl => ?_)
              refine lv_goto (tgt := 24) hx hb dX7_secondsFromAll_84 (by decide) ?_
              have hX_155 : F_Se_secondsFromAll se_places h_doors c_h_openers c_h_seconds c_se_row k = F_Se_secondsFromAll_L24a se_places c_h_seconds c_se_row r_1 n_L24a (v_80 + 1) x_154 (v_82 + (-1)) := by
                refine hF_L24a.trans ?_
                refine (F_Se_secondsFromAll_L24a_s ..).trans ?_
                refine (if_neg c_128).trans ?_
                refine (if_pos c_142).trans ?_
                try (extract_lets -merge -useContext +onlyGivenNames y9; have e9 : x_144 = y9 := (by first | exact he_x_144 | exact he_x_144.symm); clear_value y9; subst e9)
                extract_lets -merge -useContext +onlyGivenNames w9 y9; have e9 : r_145 = w9 := he_r_145; clear_value w9; subst e9
                refine (if_pos c_148).trans ?_
                refine (if_neg c_150).trans ?_
                try (extract_lets -merge -useContext +onlyGivenNames y9; have e9 : x_154 = y9 := (by first | exact he_x_154 | exact he_x_154.symm); clear_value y9; subst e9)
                exact rfl
              have hP := hP.sub (ws' := [(se, .inr (7, [.ref h, .ref se_row, .int se_places, .ref se_found, .int se_foundMany, .ref se_rr, .ref se_rp, .ref se_rs, .ref se_ro, .long se_meanTop, .long se_meanBottom])), (h_seconds, .inl (cA.1 0, 4, .inl c_h_seconds)), (se_row, .inl (cA.1 0, 10, .inl c_se_row)), (h, .inr (2, [.int h_features, .ref h_featureNames, .ref h_steps, .ref h_turnedFeatures, .ref h_sixteenths, .int h_keys, .ref h_keySteps, .int h_lent, .int h_rings, .ref h_on, .ref h_onMany, .int h_doors, .ref h_wanted, .ref h_openers, .ref h_seconds, .int h_turned, .int h_roundMany, .ref h_roundDoors])), (h_openers, .inl (cA.1 0, 5, .inl c_h_openers))]) [3, 0, 4, 1, 2] rfl
              have hD := hD.sub (ws' := [(se, .inr (7, [.ref h, .ref se_row, .int se_places, .ref se_found, .int se_foundMany, .ref se_rr, .ref se_rp, .ref se_rs, .ref se_ro, .long se_meanTop, .long se_meanBottom])), (h_seconds, .inl (cA.1 0, 4, .inl c_h_seconds)), (se_row, .inl (cA.1 0, 10, .inl c_se_row)), (h, .inr (2, [.int h_features, .ref h_featureNames, .ref h_steps, .ref h_turnedFeatures, .ref h_sixteenths, .int h_keys, .ref h_keySteps, .int h_lent, .int h_rings, .ref h_on, .ref h_onMany, .int h_doors, .ref h_wanted, .ref h_openers, .ref h_seconds, .int h_turned, .int h_roundMany, .ref h_roundDoors])), (h_openers, .inl (cA.1 0, 5, .inl c_h_openers))]) [3, 0, 4, 1, 2] (by decide) rfl
              exact ih_127 (v_80 + 1) x_154 (v_82 + (-1)) H locs ls (z_dn hmu_hlp_126 (by omega) trivial) hX_155 hP hD hS (lv_sub hl [3, 4, 5, 2, 1, 0] rfl)
          · skip
            refine lv_iconst (v := 1) hx hb dX7_secondsFromAll_58 (by decide) ?_
            refine lv_goto (tgt := 65) hx hb dX7_secondsFromAll_59 (by decide) ?_
            refine lv_istore_n (lv' := [(3, .int 1), (0, .ref se), (1, .int k), (2, .int r_1), (4, .int v_81), (5, .int v_82)]) hx hb dX7_secondsFromAll_65 rfl hl (by decide) rfl (fun ls hl => ?_)
            refine lv_iload hx hb dX7_secondsFromAll_66 (lv_at hl 5 rfl) ?_
            refine lv_aload_n hx hb dX7_secondsFromAll_68 rfl (lv_at hl 1 rfl) ?_
            refine va_get (D := G) (ci := 7) (v := .int se_places) (C := RX7) (T := TX7) (N := 11) hx hb hts inT7 hown hK hP 3 rfl rfl 2 (by decide) (hts _ tw_481) (fun _ h9 => h9) rfl dX7_secondsFromAll_69 ?_
            refine lv_icmp_ge (tgt := 81) hx hb dX7_secondsFromAll_72 (by decide) (fun c_157 => ?_) (fun c_157 => ?_)
            · have b_158 := z_s1 c_157
              refine lv_iinc (v := (v_82 + (-1))) (lv' := [(5, .int (v_82 + (-1))), (3, .int 1), (0, .ref se), (1, .int k), (2, .int r_1), (4, .int v_81)]) hx hb dX7_secondsFromAll_81 hl (k := 5) rfl (z_ofi (by decide +kernel)) (by decide) rfl (fun ls hl => ?_)
              refine lv_goto (tgt := 24) hx hb dX7_secondsFromAll_84 (by decide) ?_
              have hX_159 : F_Se_secondsFromAll se_places h_doors c_h_openers c_h_seconds c_se_row k = F_Se_secondsFromAll_L24a se_places c_h_seconds c_se_row r_1 n_L24a (1 : Int32) v_81 (v_82 + (-1)) := by
                refine hF_L24a.trans ?_
                refine (F_Se_secondsFromAll_L24a_s ..).trans ?_
                refine (if_neg c_128).trans ?_
                refine (if_pos c_142).trans ?_
                try (extract_lets -merge -useContext +onlyGivenNames y9; have e9 : x_144 = y9 := (by first | exact he_x_144 | exact he_x_144.symm); clear_value y9; subst e9)
                extract_lets -merge -useContext +onlyGivenNames w9 y9; have e9 : r_145 = w9 := he_r_145; clear_value w9; subst e9
                refine (if_neg c_148).trans ?_
                refine (if_pos c_157).trans ?_
                exact rfl
              have hP := hP.sub (ws' := [(se, .inr (7, [.ref h, .ref se_row, .int se_places, .ref se_found, .int se_foundMany, .ref se_rr, .ref se_rp, .ref se_rs, .ref se_ro, .long se_meanTop, .long se_meanBottom])), (h_seconds, .inl (cA.1 0, 4, .inl c_h_seconds)), (se_row, .inl (cA.1 0, 10, .inl c_se_row)), (h, .inr (2, [.int h_features, .ref h_featureNames, .ref h_steps, .ref h_turnedFeatures, .ref h_sixteenths, .int h_keys, .ref h_keySteps, .int h_lent, .int h_rings, .ref h_on, .ref h_onMany, .int h_doors, .ref h_wanted, .ref h_openers, .ref h_seconds, .int h_turned, .int h_roundMany, .ref h_roundDoors])), (h_openers, .inl (cA.1 0, 5, .inl c_h_openers))]) [3, 0, 4, 1, 2] rfl
              have hD := hD.sub (ws' := [(se, .inr (7, [.ref h, .ref se_row, .int se_places, .ref se_found, .int se_foundMany, .ref se_rr, .ref se_rp, .ref se_rs, .ref se_ro, .long se_meanTop, .long se_meanBottom])), (h_seconds, .inl (cA.1 0, 4, .inl c_h_seconds)), (se_row, .inl (cA.1 0, 10, .inl c_se_row)), (h, .inr (2, [.int h_features, .ref h_featureNames, .ref h_steps, .ref h_turnedFeatures, .ref h_sixteenths, .int h_keys, .ref h_keySteps, .int h_lent, .int h_rings, .ref h_on, .ref h_onMany, .int h_doors, .ref h_wanted, .ref h_openers, .ref h_seconds, .int h_turned, .int h_roundMany, .ref h_roundDoors])), (h_openers, .inl (cA.1 0, 5, .inl c_h_openers))]) [3, 0, 4, 1, 2] (by decide) rfl
              exact ih_127 1 v_81 (v_82 + (-1)) H locs ls (z_dn hmu_hlp_126 (by omega) trivial) hX_159 hP hD hS (lv_sub hl [2, 3, 4, 1, 5, 0] rfl)
            · have b_160 := z_t2 c_157
              refine lv_iload hx hb dX7_secondsFromAll_75 (lv_at hl 4 rfl) ?_
              refine lv_iload_n hx hb dX7_secondsFromAll_77 rfl (lv_at hl 0 rfl) ?_
              refine lv_iadd hx hb dX7_secondsFromAll_78 ?_
              refine lv_istore (lv' := [(4, .int (v_81 + 1)), (3, .int 1), (0, .ref se), (1, .int k), (2, .int r_1), (5, .int v_82)]) hx hb dX7_secondsFromAll_79 hl (by decide) rfl (fun ls hl => ?_)
              refine lv_iinc (v := (v_82 + (-1))) (lv' := [(5, .int (v_82 + (-1))), (4, .int (v_81 + 1)), (3, .int 1), (0, .ref se), (1, .int k), (2, .int r_1)]) hx hb dX7_secondsFromAll_81 hl (k := 5) rfl (z_ofi (by decide +kernel)) (by decide) rfl (fun ls hl => ?_)
              refine lv_goto (tgt := 24) hx hb dX7_secondsFromAll_84 (by decide) ?_
              have hX_161 : F_Se_secondsFromAll se_places h_doors c_h_openers c_h_seconds c_se_row k = F_Se_secondsFromAll_L24a se_places c_h_seconds c_se_row r_1 n_L24a (1 : Int32) (v_81 + 1) (v_82 + (-1)) := by
                refine hF_L24a.trans ?_
                refine (F_Se_secondsFromAll_L24a_s ..).trans ?_
                refine (if_neg c_128).trans ?_
                refine (if_pos c_142).trans ?_
                try (extract_lets -merge -useContext +onlyGivenNames y9; have e9 : x_144 = y9 := (by first | exact he_x_144 | exact he_x_144.symm); clear_value y9; subst e9)
                extract_lets -merge -useContext +onlyGivenNames w9 y9; have e9 : r_145 = w9 := he_r_145; clear_value w9; subst e9
                refine (if_neg c_148).trans ?_
                refine (if_neg c_157).trans ?_
                exact rfl
              have hP := hP.sub (ws' := [(se, .inr (7, [.ref h, .ref se_row, .int se_places, .ref se_found, .int se_foundMany, .ref se_rr, .ref se_rp, .ref se_rs, .ref se_ro, .long se_meanTop, .long se_meanBottom])), (h_seconds, .inl (cA.1 0, 4, .inl c_h_seconds)), (se_row, .inl (cA.1 0, 10, .inl c_se_row)), (h, .inr (2, [.int h_features, .ref h_featureNames, .ref h_steps, .ref h_turnedFeatures, .ref h_sixteenths, .int h_keys, .ref h_keySteps, .int h_lent, .int h_rings, .ref h_on, .ref h_onMany, .int h_doors, .ref h_wanted, .ref h_openers, .ref h_seconds, .int h_turned, .int h_roundMany, .ref h_roundDoors])), (h_openers, .inl (cA.1 0, 5, .inl c_h_openers))]) [3, 0, 4, 1, 2] rfl
              have hD := hD.sub (ws' := [(se, .inr (7, [.ref h, .ref se_row, .int se_places, .ref se_found, .int se_foundMany, .ref se_rr, .ref se_rp, .ref se_rs, .ref se_ro, .long se_meanTop, .long se_meanBottom])), (h_seconds, .inl (cA.1 0, 4, .inl c_h_seconds)), (se_row, .inl (cA.1 0, 10, .inl c_se_row)), (h, .inr (2, [.int h_features, .ref h_featureNames, .ref h_steps, .ref h_turnedFeatures, .ref h_sixteenths, .int h_keys, .ref h_keySteps, .int h_lent, .int h_rings, .ref h_on, .ref h_onMany, .int h_doors, .ref h_wanted, .ref h_openers, .ref h_seconds, .int h_turned, .int h_roundMany, .ref h_roundDoors])), (h_openers, .inl (cA.1 0, 5, .inl c_h_openers))]) [3, 0, 4, 1, 2] (by decide) rfl
              exact ih_127 1 (v_81 + 1) (v_82 + (-1)) H locs ls (z_dn hmu_hlp_126 (by omega) trivial) hX_161 hP hD hS (lv_sub hl [3, 4, 5, 2, 1, 0] rfl)
        · have b_162 := z_t2 c_142
          refine lv_iload hx hb dX7_secondsFromAll_40 (lv_at hl 5 rfl) ?_
          refine lv_goto (tgt := 52) hx hb dX7_secondsFromAll_42 (by decide) ?_
          refine z_callVi (As := [.int r_1, .int v_82]) (rest := []) (wr := [(h_seconds, .inl (cA.1 0, 4, .inl c_h_seconds)), (h, .inr (2, [.int h_features, .ref h_featureNames, .ref h_steps, .ref h_turnedFeatures, .ref h_sixteenths, .int h_keys, .ref h_keySteps, .int h_lent, .int h_rings, .ref h_on, .ref h_onMany, .int h_doors, .ref h_wanted, .ref h_openers, .ref h_seconds, .int h_turned, .int h_roundMany, .ref h_roundDoors])), (h_openers, .inl (cA.1 0, 5, .inl c_h_openers))]) ⟨hx, hb, hml, hown, hts⟩ hK hE hT hP hD hS hA (d_Se_isOf l G cA se h se_row se_places se_found se_foundMany se_rr se_rp se_rs se_ro se_meanTop se_meanBottom c_se_row r_1 v_82) lk_RX7_63 ⟨rfl, rfl⟩ ⟨Nat.le_of_ble_eq_true rfl, Nat.le_of_ble_eq_true rfl⟩ 7 rfl rfl rfl [0, 2] [1, 3, 4] rfl rfl (by decide) rfl hl.1 rfl (lv_room (Nat.le_of_ble_eq_true rfl)) dX7_secondsFromAll_52 ⟨Nat.le_of_ble_eq_true rfl, Nat.le_of_ble_eq_true rfl⟩ (fun r_163 u_164 H locs hw hP hD hS => ?_)
          have hP : va_P G vwCl [(h_seconds, .inl (cA.1 0, 4, .inl c_h_seconds)), (h, .inr (2, [.int h_features, .ref h_featureNames, .ref h_steps, .ref h_turnedFeatures, .ref h_sixteenths, .int h_keys, .ref h_keySteps, .int h_lent, .int h_rings, .ref h_on, .ref h_onMany, .int h_doors, .ref h_wanted, .ref h_openers, .ref h_seconds, .int h_turned, .int h_roundMany, .ref h_roundDoors])), (h_openers, .inl (cA.1 0, 5, .inl c_h_openers)), (se, .inr (7, [.ref h, .ref se_row, .int se_places, .ref se_found, .int se_foundMany, .ref se_rr, .ref se_rp, .ref se_rs, .ref se_ro, .long se_meanTop, .long se_meanBottom])), (se_row, .inl (cA.1 0, 10, .inl c_se_row))] H := hP
          have hD : va_D A [(h_seconds, .inl (cA.1 0, 4, .inl c_h_seconds)), (h, .inr (2, [.int h_features, .ref h_featureNames, .ref h_steps, .ref h_turnedFeatures, .ref h_sixteenths, .int h_keys, .ref h_keySteps, .int h_lent, .int h_rings, .ref h_on, .ref h_onMany, .int h_doors, .ref h_wanted, .ref h_openers, .ref h_seconds, .int h_turned, .int h_roundMany, .ref h_roundDoors])), (h_openers, .inl (cA.1 0, 5, .inl c_h_openers)), (se, .inr (7, [.ref h, .ref se_row, .int se_places, .ref se_found, .int se_foundMany, .ref se_rr, .ref se_rp, .ref se_rs, .ref se_ro, .long se_meanTop, .long se_meanBottom])), (se_row, .inl (cA.1 0, 10, .inl c_se_row))] := hD
          obtain ⟨he_r_163, hw⟩ := hw
          have hz_r_163 := hw
          refine lv_if_eq (tgt := 62) hx hb dX7_secondsFromAll_55 (by decide) (fun c_166 => ?_) (fun c_166 => ?_)
          · skip
            refine lv_iload_n hx hb dX7_secondsFromAll_62 rfl (lv_at hl 3 rfl) ?_
            refine lv_iconst (v := 1) hx hb dX7_secondsFromAll_63 (by decide) ?_
            refine lv_iadd hx hb dX7_secondsFromAll_64 ?_
            refine lv_istore_n (lv' := [(3, .int (v_80 + 1)), (0, .ref se), (1, .int k), (2, .int r_1), (4, .int v_81), (5, .int v_82)]) hx hb dX7_secondsFromAll_65 rfl hl (by decide) rfl (fun ls hl => ?_)
            refine lv_iload hx hb dX7_secondsFromAll_66 (lv_at hl 5 rfl) ?_
            refine lv_aload_n hx hb dX7_secondsFromAll_68 rfl (lv_at hl 1 rfl) ?_
            refine va_get (D := G) (ci := 7) (v := .int se_places) (C := RX7) (T := TX7) (N := 11) hx hb hts inT7 hown hK hP 3 rfl rfl 2 (by decide) (hts _ tw_481) (fun _ h9 => h9) rfl dX7_secondsFromAll_69 ?_
            refine lv_icmp_ge (tgt := 81) hx hb dX7_secondsFromAll_72 (by decide) (fun c_168 => ?_) (fun c_168 => ?_)
            · have b_169 := z_s1 c_168
              refine lv_iinc (v := (v_82 + (-1))) (lv' := [(5, .int (v_82 + (-1))), (3, .int (v_80 + 1)), (0, .ref se), (1, .int k), (2, .int r_1), (4, .int v_81)]) hx hb dX7_secondsFromAll_81 hl (k := 5) rfl (z_ofi (by decide +kernel)) (by decide) rfl (fun ls hl => ?_)
              refine lv_goto (tgt := 24) hx hb dX7_secondsFromAll_84 (by decide) ?_
              have hX_170 : F_Se_secondsFromAll se_places h_doors c_h_openers c_h_seconds c_se_row k = F_Se_secondsFromAll_L24a se_places c_h_seconds c_se_row r_1 n_L24a (v_80 + 1) v_81 (v_82 + (-1)) := by
                refine hF_L24a.trans ?_
                refine (F_Se_secondsFromAll_L24a_s ..).trans ?_
                refine (if_neg c_128).trans ?_
                refine (if_neg c_142).trans ?_
                extract_lets -merge -useContext +onlyGivenNames w9 y9; have e9 : r_163 = w9 := he_r_163; clear_value w9; subst e9
                refine (if_pos c_166).trans ?_
                refine (if_pos c_168).trans ?_
                exact rfl
              have hP := hP.sub (ws' := [(se, .inr (7, [.ref h, .ref se_row, .int se_places, .ref se_found, .int se_foundMany, .ref se_rr, .ref se_rp, .ref se_rs, .ref se_ro, .long se_meanTop, .long se_meanBottom])), (h_seconds, .inl (cA.1 0, 4, .inl c_h_seconds)), (se_row, .inl (cA.1 0, 10, .inl c_se_row)), (h, .inr (2, [.int h_features, .ref h_featureNames, .ref h_steps, .ref h_turnedFeatures, .ref h_sixteenths, .int h_keys, .ref h_keySteps, .int h_lent, .int h_rings, .ref h_on, .ref h_onMany, .int h_doors, .ref h_wanted, .ref h_openers, .ref h_seconds, .int h_turned, .int h_roundMany, .ref h_roundDoors])), (h_openers, .inl (cA.1 0, 5, .inl c_h_openers))]) [3, 0, 4, 1, 2] rfl
              have hD := hD.sub (ws' := [(se, .inr (7, [.ref h, .ref se_row, .int se_places, .ref se_found, .int se_foundMany, .ref se_rr, .ref se_rp, .ref se_rs, .ref se_ro, .long se_meanTop, .long se_meanBottom])), (h_seconds, .inl (cA.1 0, 4, .inl c_h_seconds)), (se_row, .inl (cA.1 0, 10, .inl c_se_row)), (h, .inr (2, [.int h_features, .ref h_featureNames, .ref h_steps, .ref h_turnedFeatures, .ref h_sixteenths, .int h_keys, .ref h_keySteps, .int h_lent, .int h_rings, .ref h_on, .ref h_onMany, .int h_doors, .ref h_wanted, .ref h_openers, .ref h_seconds, .int h_turned, .int h_roundMany, .ref h_roundDoors])), (h_openers, .inl (cA.1 0, 5, .inl c_h_openers))]) [3, 0, 4, 1, 2] (by decide) rfl
              exact ih_127 (v_80 + 1) v_81 (v_82 + (-1)) H locs ls (z_dn hmu_hlp_126 (by omega) trivial) hX_170 hP hD hS (lv_sub hl [2, 3, 4, 1, 5, 0] rfl)
            · have b_171 := z_t2 c_168
              refine lv_iload hx hb dX7_secondsFromAll_75 (lv_at hl 4 rfl) ?_
              refine lv_iload_n hx hb dX7_secondsFromAll_77 rfl (lv_at hl 0 rfl) ?_
              refine lv_iadd hx hb dX7_secondsFromAll_78 ?_
              refine lv_topi (fun x_172 he_x_172 => ?_)
              refine lv_istore (lv' := [(4, .int x_172), (3, .int (v_80 + 1)), (0, .ref se), (1, .int k), (2, .int r_1), (5, .int v_82)]) hx hb dX7_secondsFromAll_79 hl (by decide) rfl (fun ls hl => ?_)
              refine lv_iinc (v := (v_82 + (-1))) (lv' := [(5, .int (v_82 + (-1))), (4, .int x_172), (3, .int (v_80 + 1)), (0, .ref se), (1, .int k), (2, .int r_1)]) hx hb dX7_secondsFromAll_81 hl (k := 5) rfl (z_ofi (by decide +kernel)) (by decide) rfl (fun ls hl => ?_)
              refine lv_goto (tgt := 24) hx hb dX7_secondsFromAll_84 (by decide) ?_
              have hX_173 : F_Se_secondsFromAll se_places h_doors c_h_openers c_h_seconds c_se_row k = F_Se_secondsFromAll_L24a se_places c_h_seconds c_se_row r_1 n_L24a (v_80 + 1) x_172 (v_82 + (-1)) := by
                refine hF_L24a.trans ?_
                refine (F_Se_secondsFromAll_L24a_s ..).trans ?_
                refine (if_neg c_128).trans ?_
                refine (if_neg c_142).trans ?_
                extract_lets -merge -useContext +onlyGivenNames w9 y9; have e9 : r_163 = w9 := he_r_163; clear_value w9; subst e9
                refine (if_pos c_166).trans ?_
                refine (if_neg c_168).trans ?_
                try (extract_lets -merge -useContext +onlyGivenNames y9; have e9 : x_172 = y9 := (by first | exact he_x_172 | exact he_x_172.symm); clear_value y9; subst e9)
                exact rfl
              have hP := hP.sub (ws' := [(se, .inr (7, [.ref h, .ref se_row, .int se_places, .ref se_found, .int se_foundMany, .ref se_rr, .ref se_rp, .ref se_rs, .ref se_ro, .long se_meanTop, .long se_meanBottom])), (h_seconds, .inl (cA.1 0, 4, .inl c_h_seconds)), (se_row, .inl (cA.1 0, 10, .inl c_se_row)), (h, .inr (2, [.int h_features, .ref h_featureNames, .ref h_steps, .ref h_turnedFeatures, .ref h_sixteenths, .int h_keys, .ref h_keySteps, .int h_lent, .int h_rings, .ref h_on, .ref h_onMany, .int h_doors, .ref h_wanted, .ref h_openers, .ref h_seconds, .int h_turned, .int h_roundMany, .ref h_roundDoors])), (h_openers, .inl (cA.1 0, 5, .inl c_h_openers))]) [3, 0, 4, 1, 2] rfl
              have hD := hD.sub (ws' := [(se, .inr (7, [.ref h, .ref se_row, .int se_places, .ref se_found, .int se_foundMany, .ref se_rr, .ref se_rp, .ref se_rs, .ref se_ro, .long se_meanTop, .long se_meanBottom])), (h_seconds, .inl (cA.1 0, 4, .inl c_h_seconds)), (se_row, .inl (cA.1 0, 10, .inl c_se_row)), (h, .inr (2, [.int h_features, .ref h_featureNames, .ref h_steps, .ref h_turnedFeatures, .ref h_sixteenths, .int h_keys, .ref h_keySteps, .int h_lent, .int h_rings, .ref h_on, .ref h_onMany, .int h_doors, .ref h_wanted, .ref h_openers, .ref h_seconds, .int h_turned, .int h_roundMany, .ref h_roundDoors])), (h_openers, .inl (cA.1 0, 5, .inl c_h_openers))]) [3, 0, 4, 1, 2] (by decide) rfl
              exact ih_127 (v_80 + 1) x_172 (v_82 + (-1)) H locs ls (z_dn hmu_hlp_126 (by omega) trivial) hX_173 hP hD hS (lv_sub hl [3, 4, 5, 2, 1, 0] rfl)
          · skip
            refine lv_iconst (v := 1) hx hb dX7_secondsFromAll_58 (by decide) ?_
            refine lv_goto (tgt := 65) hx hb dX7_secondsFromAll_59 (by decide) ?_
            refine lv_istore_n (lv' := [(3, .int 1), (0, .ref se), (1, .int k), (2, .int r_1), (4, .int v_81), (5, .int v_82)]) hx hb dX7_secondsFromAll_65 rfl hl (by decide) rfl (fun ls hl => ?_)
            refine lv_iload hx hb dX7_secondsFromAll_66 (lv_at hl 5 rfl) ?_
            refine lv_aload_n hx hb dX7_secondsFromAll_68 rfl (lv_at hl 1 rfl) ?_
            refine va_get (D := G) (ci := 7) (v := .int se_places) (C := RX7) (T := TX7) (N := 11) hx hb hts inT7 hown hK hP 3 rfl rfl 2 (by decide) (hts _ tw_481) (fun _ h9 => h9) rfl dX7_secondsFromAll_69 ?_
            refine lv_icmp_ge (tgt := 81) hx hb dX7_secondsFromAll_72 (by decide) (fun c_175 => ?_) (fun c_175 => ?_)
            · have b_176 := z_s1 c_175
              refine lv_iinc (v := (v_82 + (-1))) (lv' := [(5, .int (v_82 + (-1))), (3, .int 1), (0, .ref se), (1, .int k), (2, .int r_1), (4, .int v_81)]) hx hb dX7_secondsFromAll_81 hl (k := 5) rfl (z_ofi (by decide +kernel)) (by decide) rfl (fun ls hl => ?_)
              refine lv_goto (tgt := 24) hx hb dX7_secondsFromAll_84 (by decide) ?_
              have hX_177 : F_Se_secondsFromAll se_places h_doors c_h_openers c_h_seconds c_se_row k = F_Se_secondsFromAll_L24a se_places c_h_seconds c_se_row r_1 n_L24a (1 : Int32) v_81 (v_82 + (-1)) := by
                refine hF_L24a.trans ?_
                refine (F_Se_secondsFromAll_L24a_s ..).trans ?_
                refine (if_neg c_128).trans ?_
                refine (if_neg c_142).trans ?_
                extract_lets -merge -useContext +onlyGivenNames w9 y9; have e9 : r_163 = w9 := he_r_163; clear_value w9; subst e9
                refine (if_neg c_166).trans ?_
                refine (if_pos c_175).trans ?_
                exact rfl
              have hP := hP.sub (ws' := [(se, .inr (7, [.ref h, .ref se_row, .int se_places, .ref se_found, .int se_foundMany, .ref se_rr, .ref se_rp, .ref se_rs, .ref se_ro, .long se_meanTop, .long se_meanBottom])), (h_seconds, .inl (cA.1 0, 4, .inl c_h_seconds)), (se_row, .inl (cA.1 0, 10, .inl c_se_row)), (h, .inr (2, [.int h_features, .ref h_featureNames, .ref h_steps, .ref h_turnedFeatures, .ref h_sixteenths, .int h_keys, .ref h_keySteps, .int h_lent, .int h_rings, .ref h_on, .ref h_onMany, .int h_doors, .ref h_wanted, .ref h_openers, .ref h_seconds, .int h_turned, .int h_roundMany, .ref h_roundDoors])), (h_openers, .inl (cA.1 0, 5, .inl c_h_openers))]) [3, 0, 4, 1, 2] rfl
              have hD := hD.sub (ws' := [(se, .inr (7, [.ref h, .ref se_row, .int se_places, .ref se_found, .int se_foundMany, .ref se_rr, .ref se_rp, .ref se_rs, .ref se_ro, .long se_meanTop, .long se_meanBottom])), (h_seconds, .inl (cA.1 0, 4, .inl c_h_seconds)), (se_row, .inl (cA.1 0, 10, .inl c_se_row)), (h, .inr (2, [.int h_features, .ref h_featureNames, .ref h_steps, .ref h_turnedFeatures, .ref h_sixteenths, .int h_keys, .ref h_keySteps, .int h_lent, .int h_rings, .ref h_on, .ref h_onMany, .int h_doors, .ref h_wanted, .ref h_openers, .ref h_seconds, .int h_turned, .int h_roundMany, .ref h_roundDoors])), (h_openers, .inl (cA.1 0, 5, .inl c_h_openers))]) [3, 0, 4, 1, 2] (by decide) rfl
              exact ih_127 1 v_81 (v_82 + (-1)) H locs ls (z_dn hmu_hlp_126 (by omega) trivial) hX_177 hP hD hS (lv_sub hl [2, 3, 4, 1, 5, 0] rfl)
            · have b_178 := z_t2 c_175
              refine lv_iload hx hb dX7_secondsFromAll_75 (lv_at hl 4 rfl) ?_
              refine lv_iload_n hx hb dX7_secondsFromAll_77 rfl (lv_at hl 0 rfl) ?_
              refine lv_iadd hx hb dX7_secondsFromAll_78 ?_
              refine lv_istore (lv' := [(4, .int (v_81 + 1)), (3, .int 1), (0, .ref se), (1, .int k), (2, .int r_1), (5, .int v_82)]) hx hb dX7_secondsFromAll_79 hl (by decide) rfl (fun ls hl => ?_)
              refine lv_iinc (v := (v_82 + (-1))) (lv' := [(5, .int (v_82 + (-1))), (4, .int (v_81 + 1)), (3, .int 1), (0, .ref se), (1, .int k), (2, .int r_1)]) hx hb dX7_secondsFromAll_81 hl (k := 5) rfl (z_ofi (by decide +kernel)) (by decide) rfl (fun ls hl => ?_)
              refine lv_goto (tgt := 24) hx hb dX7_secondsFromAll_84 (by decide) ?_
              have hX_179 : F_Se_secondsFromAll se_places h_doors c_h_openers c_h_seconds c_se_row k = F_Se_secondsFromAll_L24a se_places c_h_seconds c_se_row r_1 n_L24a (1 : Int32) (v_81 + 1) (v_82 + (-1)) := by
                refine hF_L24a.trans ?_
                refine (F_Se_secondsFromAll_L24a_s ..).trans ?_
                refine (if_neg c_128).trans ?_
                refine (if_neg c_142).trans ?_
                extract_lets -merge -useContext +onlyGivenNames w9 y9; have e9 : r_163 = w9 := he_r_163; clear_value w9; subst e9
                refine (if_neg c_166).trans ?_
                refine (if_neg c_175).trans ?_
                exact rfl
              have hP := hP.sub (ws' := [(se, .inr (7, [.ref h, .ref se_row, .int se_places, .ref se_found, .int se_foundMany, .ref se_rr, .ref se_rp, .ref se_rs, .ref se_ro, .long se_meanTop, .long se_meanBottom])), (h_seconds, .inl (cA.1 0, 4, .inl c_h_seconds)), (se_row, .inl (cA.1 0, 10, .inl c_se_row)), (h, .inr (2, [.int h_features, .ref h_featureNames, .ref h_steps, .ref h_turnedFeatures, .ref h_sixteenths, .int h_keys, .ref h_keySteps, .int h_lent, .int h_rings, .ref h_on, .ref h_onMany, .int h_doors, .ref h_wanted, .ref h_openers, .ref h_seconds, .int h_turned, .int h_roundMany, .ref h_roundDoors])), (h_openers, .inl (cA.1 0, 5, .inl c_h_openers))]) [3, 0, 4, 1, 2] rfl
              have hD := hD.sub (ws' := [(se, .inr (7, [.ref h, .ref se_row, .int se_places, .ref se_found, .int se_foundMany, .ref se_rr, .ref se_rp, .ref se_rs, .ref se_ro, .long se_meanTop, .long se_meanBottom])), (h_seconds, .inl (cA.1 0, 4, .inl c_h_seconds)), (se_row, .inl (cA.1 0, 10, .inl c_se_row)), (h, .inr (2, [.int h_features, .ref h_featureNames, .ref h_steps, .ref h_turnedFeatures, .ref h_sixteenths, .int h_keys, .ref h_keySteps, .int h_lent, .int h_rings, .ref h_on, .ref h_onMany, .int h_doors, .ref h_wanted, .ref h_openers, .ref h_seconds, .int h_turned, .int h_roundMany, .ref h_roundDoors])), (h_openers, .inl (cA.1 0, 5, .inl c_h_openers))]) [3, 0, 4, 1, 2] (by decide) rfl
              exact ih_127 1 (v_81 + 1) (v_82 + (-1)) H locs ls (z_dn hmu_hlp_126 (by omega) trivial) hX_179 hP hD hS (lv_sub hl [3, 4, 5, 2, 1, 0] rfl)
  have hX_180 : F_Se_secondsFromAll se_places h_doors c_h_openers c_h_seconds c_se_row k = F_Se_secondsFromAll_L24a se_places c_h_seconds c_se_row r_1 (((x_4 - 1).toInt + 2147483648).toNat + 1) (0 : Int32) (0 : Int32) (x_4 - 1) := by
    refine (F_Se_secondsFromAll_s ..).trans ?_
    extract_lets -merge -useContext +onlyGivenNames w9 y9; have e9 : r_1 = w9 := he_r_1; clear_value w9; subst e9
    try (extract_lets -merge -useContext +onlyGivenNames y9; have e9 : x_4 = y9 := (by first | exact he_x_4 | exact he_x_4.symm); clear_value y9; subst e9)
    exact rfl
  exact hlp_126 (((x_4 - 1).toInt + 2147483648).toNat + 1) 0 0 (x_4 - 1) _ _ _ (Nat.lt_succ_self _) hX_180 hP hD hS (lv_sub hl [4, 5, 3, 2, 1, 0] rfl)
