set_option maxHeartbeats 40000000 in
set_option maxRecDepth 100000 in
theorem d_Se_wantedSecondsAnywhere (l : Launch) (G : va_G) (cA : zCA) (se : Nat) (h : Nat) (se_row : Nat) (se_places : Int32) (se_found : Nat) (se_foundMany : Int32) (se_rr : Nat) (se_rp : Nat) (se_rs : Nat) (se_ro : Nat) (se_meanTop : Int64) (se_meanBottom : Int64) (h_features : Int32) (h_featureNames : Nat) (h_steps : Nat) (h_turnedFeatures : Nat) (h_sixteenths : Nat) (h_keys : Int32) (h_keySteps : Nat) (h_lent : Int32) (h_rings : Int32) (h_on : Nat) (h_onMany : Nat) (h_doors : Int32) (h_wanted : Nat) (h_openers : Nat) (h_seconds : Nat) (h_turned : Int32) (h_roundMany : Int32) (h_roundDoors : Nat) (c_h_wanted : Nat → Int32) (c_h_openers : Nat → Int32) (c_h_seconds : Nat → Int32) (c_se_row : Nat → Int32) (hm_h_features : 0 ≤ h_features.toInt ∧ h_features.toInt ≤ 3) : zCi l yX7_wantedSecondsAnywhere cX7_wantedSecondsAnywhere 4 (some .int) ({ frames := 3, cells := 0, slots := 0, locals := 69 }) G cA [.ref se] [(se, .inr (7, [.ref h, .ref se_row, .int se_places, .ref se_found, .int se_foundMany, .ref se_rr, .ref se_rp, .ref se_rs, .ref se_ro, .long se_meanTop, .long se_meanBottom])), (h, .inr (2, [.int h_features, .ref h_featureNames, .ref h_steps, .ref h_turnedFeatures, .ref h_sixteenths, .int h_keys, .ref h_keySteps, .int h_lent, .int h_rings, .ref h_on, .ref h_onMany, .int h_doors, .ref h_wanted, .ref h_openers, .ref h_seconds, .int h_turned, .int h_roundMany, .ref h_roundDoors])), (h_wanted, .inl (cA.1 0, 5, .inl c_h_wanted)), (h_openers, .inl (cA.1 0, 5, .inl c_h_openers)), (h_seconds, .inl (cA.1 0, 4, .inl c_h_seconds)), (se_row, .inl (cA.1 0, 10, .inl c_se_row))] (S := Unit) (fun (r : Int32) (u : Unit) => (r = (F_Se_wantedSecondsAnywhere se_places h_doors c_h_wanted c_h_openers c_h_seconds c_se_row)) ∧ (True)) (fun (u : Unit) => [(se, .inr (7, [.ref h, .ref se_row, .int se_places, .ref se_found, .int se_foundMany, .ref se_rr, .ref se_rp, .ref se_rs, .ref se_ro, .long se_meanTop, .long se_meanBottom])), (h, .inr (2, [.int h_features, .ref h_featureNames, .ref h_steps, .ref h_turnedFeatures, .ref h_sixteenths, .int h_keys, .ref h_keySteps, .int h_lent, .int h_rings, .ref h_on, .ref h_onMany, .int h_doors, .ref h_wanted, .ref h_openers, .ref h_seconds, .int h_turned, .int h_roundMany, .ref h_roundDoors])), (h_wanted, .inl (cA.1 0, 5, .inl c_h_wanted)), (h_openers, .inl (cA.1 0, 5, .inl c_h_openers)), (h_seconds, .inl (cA.1 0, 4, .inl c_h_seconds)), (se_row, .inl (cA.1 0, 10, .inl c_se_row))]) 0 0 := by
  refine z_start2i (own := RX7) (by decide) (Nat.le_of_ble_eq_true rfl) rfl ?_
  intro p e s m args below meth c A ls Q hx hb hml hts hown hK hE hT hP hD hS hA hl hret
  have hl : lv_has ls 4 [(0, .ref se)] := hl
  refine lv_iconst (v := 0) hx hb dX7_wantedSecondsAnywhere_0 (by decide) ?_
  refine lv_istore_n (lv' := [(1, .int 0), (0, .ref se)]) hx hb dX7_wantedSecondsAnywhere_1 rfl hl (by decide) rfl (fun ls hl => ?_)
  refine lv_iconst (v := 0) hx hb dX7_wantedSecondsAnywhere_2 (by decide) ?_
  refine lv_istore_n (lv' := [(2, .int 0), (1, .int 0), (0, .ref se)]) hx hb dX7_wantedSecondsAnywhere_3 rfl hl (by decide) rfl (fun ls hl => ?_)
  have hlp_63 : ∀ (n_L4a : Nat) (v_41 : Int32) (v_42 : Int32) (H : Heap) (locs : List Loc) (ls : Array Slot), (2147483647 - v_42.toInt).toNat < n_L4a → (0 ≤ v_42.toInt) → (F_Se_wantedSecondsAnywhere se_places h_doors c_h_wanted c_h_openers c_h_seconds c_se_row = F_Se_wantedSecondsAnywhere_L4a se_places h_doors c_h_wanted c_h_openers c_h_seconds c_se_row n_L4a v_41 v_42) → va_P G vwCl [(se, .inr (7, [.ref h, .ref se_row, .int se_places, .ref se_found, .int se_foundMany, .ref se_rr, .ref se_rp, .ref se_rs, .ref se_ro, .long se_meanTop, .long se_meanBottom])), (h, .inr (2, [.int h_features, .ref h_featureNames, .ref h_steps, .ref h_turnedFeatures, .ref h_sixteenths, .int h_keys, .ref h_keySteps, .int h_lent, .int h_rings, .ref h_on, .ref h_onMany, .int h_doors, .ref h_wanted, .ref h_openers, .ref h_seconds, .int h_turned, .int h_roundMany, .ref h_roundDoors])), (h_wanted, .inl (cA.1 0, 5, .inl c_h_wanted)), (h_openers, .inl (cA.1 0, 5, .inl c_h_openers)), (h_seconds, .inl (cA.1 0, 4, .inl c_h_seconds)), (se_row, .inl (cA.1 0, 10, .inl c_se_row))] H → va_D A [(se, .inr (7, [.ref h, .ref se_row, .int se_places, .ref se_found, .int se_foundMany, .ref se_rr, .ref se_rp, .ref se_rs, .ref se_ro, .long se_meanTop, .long se_meanBottom])), (h, .inr (2, [.int h_features, .ref h_featureNames, .ref h_steps, .ref h_turnedFeatures, .ref h_sixteenths, .int h_keys, .ref h_keySteps, .int h_lent, .int h_rings, .ref h_on, .ref h_onMany, .int h_doors, .ref h_wanted, .ref h_openers, .ref h_seconds, .int h_turned, .int h_roundMany, .ref h_roundDoors])), (h_wanted, .inl (cA.1 0, 5, .inl c_h_wanted)), (h_openers, .inl (cA.1 0, 5, .inl c_h_openers)), (h_seconds, .inl (cA.1 0, 4, .inl c_h_seconds)), (se_row, .inl (cA.1 0, 10, .inl c_se_row))] → va_S A s.heap H locs → lv_has ls 4 [(0, .ref se), (1, .int v_41), (2, .int v_42)] → W p l e ({ frames := 3, cells := 0, slots := 0, locals := 69 }) s m args below meth c H locs 0 0 Q (F0 m 4 ls []) := by
    intro n_L4a
    induction n_L4a with
    | zero =>
      intro v_41 v_42 H locs ls hmu_hlp_63 hi_64 hF_L4a hP hD hS hl
      exact absurd hmu_hlp_63 (Nat.not_lt_zero _)
    | succ n_L4a ih_65 =>
      intro v_41 v_42 H locs ls hmu_hlp_63 hi_64 hF_L4a hP hD hS hl
      refine lv_iload_n hx hb dX7_wantedSecondsAnywhere_4 rfl (lv_at hl 2 rfl) ?_
      refine lv_aload_n hx hb dX7_wantedSecondsAnywhere_5 rfl (lv_at hl 0 rfl) ?_
      refine va_get (D := G) (ci := 7) (v := .ref h) (C := RX7) (T := TX7) (N := 11) hx hb hts inT7 hown hK hP 0 rfl rfl 0 (by decide) (hts _ tw_479) (fun _ h9 => h9) rfl dX7_wantedSecondsAnywhere_6 ?_
      refine va_get (D := G) (ci := 2) (v := .int h_doors) (C := RX2) (T := TX2) (N := 18) hx hb hts inT2 hown hK hP 1 rfl rfl 11 (by decide) (hts _ tw_287) (fun _ h9 => h9) rfl dX7_wantedSecondsAnywhere_9 ?_
      refine lv_icmp_ge (tgt := 52) hx hb dX7_wantedSecondsAnywhere_12 (by decide) (fun c_66 => ?_) (fun c_66 => ?_)
      · have b_67 := z_s1 c_66
        refine lv_iload_n hx hb dX7_wantedSecondsAnywhere_52 rfl (lv_at hl 1 rfl) ?_
        have hX_68 : F_Se_wantedSecondsAnywhere se_places h_doors c_h_wanted c_h_openers c_h_seconds c_se_row = (v_41 : Int32) := by
          refine hF_L4a.trans ?_
          refine (F_Se_wantedSecondsAnywhere_L4a_s ..).trans ?_
          refine (if_pos c_66).trans ?_
          exact rfl
        exact hret _ _ _ _ _ _ () [0, 1, 2, 3, 4, 5] hP hD hS rfl (by decide) dX7_wantedSecondsAnywhere_53 ⟨(congrArg (fun z9 => z9) hX_68).symm, trivial⟩
      · have b_69 := z_t2 c_66
        refine lv_aload_n hx hb dX7_wantedSecondsAnywhere_15 rfl (lv_at hl 0 rfl) ?_
        refine va_get (D := G) (ci := 7) (v := .ref h) (C := RX7) (T := TX7) (N := 11) hx hb hts inT7 hown hK hP 0 rfl rfl 0 (by decide) (hts _ tw_479) (fun _ h9 => h9) rfl dX7_wantedSecondsAnywhere_16 ?_
        refine lv_iload_n hx hb dX7_wantedSecondsAnywhere_19 rfl (lv_at hl 2 rfl) ?_
        refine z_callVi (As := [.int v_42]) (rest := []) (wr := [(se, .inr (7, [.ref h, .ref se_row, .int se_places, .ref se_found, .int se_foundMany, .ref se_rr, .ref se_rp, .ref se_rs, .ref se_ro, .long se_meanTop, .long se_meanBottom])), (h_openers, .inl (cA.1 0, 5, .inl c_h_openers)), (h_seconds, .inl (cA.1 0, 4, .inl c_h_seconds)), (se_row, .inl (cA.1 0, 10, .inl c_se_row))]) ⟨hx, hb, hml, hown, hts⟩ hK hE hT hP hD hS hA (d_H_wantedOf l G cA h h_features h_featureNames h_steps h_turnedFeatures h_sixteenths h_keys h_keySteps h_lent h_rings h_on h_onMany h_doors h_wanted h_openers h_seconds h_turned h_roundMany h_roundDoors c_h_wanted v_42 (by omega)) lk_RX7_84 ⟨rfl, rfl⟩ ⟨Nat.le_of_ble_eq_true rfl, Nat.le_of_ble_eq_true rfl⟩ 2 rfl rfl rfl [1, 2] [0, 3, 4, 5] rfl rfl (by decide) rfl hl.1 rfl (lv_room (Nat.le_of_ble_eq_true rfl)) dX7_wantedSecondsAnywhere_20 ⟨Nat.le_of_ble_eq_true rfl, Nat.le_of_ble_eq_true rfl⟩ (fun r_70 u_71 H locs hw hP hD hS => ?_)
        have hP : va_P G vwCl [(se, .inr (7, [.ref h, .ref se_row, .int se_places, .ref se_found, .int se_foundMany, .ref se_rr, .ref se_rp, .ref se_rs, .ref se_ro, .long se_meanTop, .long se_meanBottom])), (h_openers, .inl (cA.1 0, 5, .inl c_h_openers)), (h_seconds, .inl (cA.1 0, 4, .inl c_h_seconds)), (se_row, .inl (cA.1 0, 10, .inl c_se_row)), (h, .inr (2, [.int h_features, .ref h_featureNames, .ref h_steps, .ref h_turnedFeatures, .ref h_sixteenths, .int h_keys, .ref h_keySteps, .int h_lent, .int h_rings, .ref h_on, .ref h_onMany, .int h_doors, .ref h_wanted, .ref h_openers, .ref h_seconds, .int h_turned, .int h_roundMany, .ref h_roundDoors])), (h_wanted, .inl (cA.1 0, 5, .inl c_h_wanted))] H := hP
        have hD : va_D A [(se, .inr (7, [.ref h, .ref se_row, .int se_places, .ref se_found, .int se_foundMany, .ref se_rr, .ref se_rp, .ref se_rs, .ref se_ro, .long se_meanTop, .long se_meanBottom])), (h_openers, .inl (cA.1 0, 5, .inl c_h_openers)), (h_seconds, .inl (cA.1 0, 4, .inl c_h_seconds)), (se_row, .inl (cA.1 0, 10, .inl c_se_row)), (h, .inr (2, [.int h_features, .ref h_featureNames, .ref h_steps, .ref h_turnedFeatures, .ref h_sixteenths, .int h_keys, .ref h_keySteps, .int h_lent, .int h_rings, .ref h_on, .ref h_onMany, .int h_doors, .ref h_wanted, .ref h_openers, .ref h_seconds, .int h_turned, .int h_roundMany, .ref h_roundDoors])), (h_wanted, .inl (cA.1 0, 5, .inl c_h_wanted))] := hD
        obtain ⟨he_r_70, hw⟩ := hw
        refine lv_istore_n (lv' := [(3, .int r_70), (0, .ref se), (1, .int v_41), (2, .int v_42)]) hx hb dX7_wantedSecondsAnywhere_23 rfl hl (by decide) rfl (fun ls hl => ?_)
        refine lv_iload_n hx hb dX7_wantedSecondsAnywhere_24 rfl (lv_at hl 0 rfl) ?_
        refine lv_if_le (tgt := 46) hx hb dX7_wantedSecondsAnywhere_25 (by decide) (fun c_73 => ?_) (fun c_73 => ?_)
        · have b_74 := z_b5 c_73 (K := 0) (by decide +kernel)
          refine lv_iinc (v := (v_42 + 1)) (lv' := [(2, .int (v_42 + 1)), (3, .int r_70), (0, .ref se), (1, .int v_41)]) hx hb dX7_wantedSecondsAnywhere_46 hl (k := 3) rfl (z_ofi (by decide +kernel)) (by decide) rfl (fun ls hl => ?_)
          refine lv_goto (tgt := 4) hx hb dX7_wantedSecondsAnywhere_49 (by decide) ?_
          have hX_75 : F_Se_wantedSecondsAnywhere se_places h_doors c_h_wanted c_h_openers c_h_seconds c_se_row = F_Se_wantedSecondsAnywhere_L4a se_places h_doors c_h_wanted c_h_openers c_h_seconds c_se_row n_L4a v_41 (v_42 + 1) := by
            refine hF_L4a.trans ?_
            refine (F_Se_wantedSecondsAnywhere_L4a_s ..).trans ?_
            refine (if_neg c_66).trans ?_
            extract_lets -merge -useContext +onlyGivenNames w9 y9; have e9 : r_70 = w9 := he_r_70; clear_value w9; subst e9
            refine (if_pos c_73).trans ?_
            exact rfl
          have hP := hP.sub (ws' := [(se, .inr (7, [.ref h, .ref se_row, .int se_places, .ref se_found, .int se_foundMany, .ref se_rr, .ref se_rp, .ref se_rs, .ref se_ro, .long se_meanTop, .long se_meanBottom])), (h, .inr (2, [.int h_features, .ref h_featureNames, .ref h_steps, .ref h_turnedFeatures, .ref h_sixteenths, .int h_keys, .ref h_keySteps, .int h_lent, .int h_rings, .ref h_on, .ref h_onMany, .int h_doors, .ref h_wanted, .ref h_openers, .ref h_seconds, .int h_turned, .int h_roundMany, .ref h_roundDoors])), (h_wanted, .inl (cA.1 0, 5, .inl c_h_wanted)), (h_openers, .inl (cA.1 0, 5, .inl c_h_openers)), (h_seconds, .inl (cA.1 0, 4, .inl c_h_seconds)), (se_row, .inl (cA.1 0, 10, .inl c_se_row))]) [0, 4, 5, 1, 2, 3] rfl
          have hD := hD.sub (ws' := [(se, .inr (7, [.ref h, .ref se_row, .int se_places, .ref se_found, .int se_foundMany, .ref se_rr, .ref se_rp, .ref se_rs, .ref se_ro, .long se_meanTop, .long se_meanBottom])), (h, .inr (2, [.int h_features, .ref h_featureNames, .ref h_steps, .ref h_turnedFeatures, .ref h_sixteenths, .int h_keys, .ref h_keySteps, .int h_lent, .int h_rings, .ref h_on, .ref h_onMany, .int h_doors, .ref h_wanted, .ref h_openers, .ref h_seconds, .int h_turned, .int h_roundMany, .ref h_roundDoors])), (h_wanted, .inl (cA.1 0, 5, .inl c_h_wanted)), (h_openers, .inl (cA.1 0, 5, .inl c_h_openers)), (h_seconds, .inl (cA.1 0, 4, .inl c_h_seconds)), (se_row, .inl (cA.1 0, 10, .inl c_se_row))]) [0, 4, 5, 1, 2, 3] (by decide) rfl
          exact ih_65 v_41 (v_42 + 1) H locs ls (z_up hmu_hlp_63 (by omega) trivial) (z_upc hi_64 (by omega) trivial) hX_75 hP hD hS (lv_sub hl [2, 3, 0] rfl)
        · have b_76 := z_b6 c_73 (K := 0) (by decide +kernel)
          refine lv_aload_n hx hb dX7_wantedSecondsAnywhere_28 rfl (lv_at hl 1 rfl) ?_
          refine lv_iload_n hx hb dX7_wantedSecondsAnywhere_29 rfl (lv_at hl 3 rfl) ?_
          refine z_callVi (As := [.int v_42]) (rest := []) (wr := [(h_seconds, .inl (cA.1 0, 4, .inl c_h_seconds)), (h_wanted, .inl (cA.1 0, 5, .inl c_h_wanted))]) ⟨hx, hb, hml, hown, hts⟩ hK hE hT hP hD hS hA (d_Se_someOpens l G cA se h se_row se_places se_found se_foundMany se_rr se_rp se_rs se_ro se_meanTop se_meanBottom h_features h_featureNames h_steps h_turnedFeatures h_sixteenths h_keys h_keySteps h_lent h_rings h_on h_onMany h_doors h_wanted h_openers h_seconds h_turned h_roundMany h_roundDoors c_h_openers c_se_row v_42 (by omega)) lk_RX7_80 ⟨rfl, rfl⟩ ⟨Nat.le_of_ble_eq_true rfl, Nat.le_of_ble_eq_true rfl⟩ 7 rfl rfl rfl [0, 4, 1, 3] [2, 5] rfl rfl (by decide) rfl hl.1 rfl (lv_room (Nat.le_of_ble_eq_true rfl)) dX7_wantedSecondsAnywhere_30 ⟨Nat.le_of_ble_eq_true rfl, Nat.le_of_ble_eq_true rfl⟩ (fun r_77 u_78 H locs hw hP hD hS => ?_)
          have hP : va_P G vwCl [(h_seconds, .inl (cA.1 0, 4, .inl c_h_seconds)), (h_wanted, .inl (cA.1 0, 5, .inl c_h_wanted)), (se, .inr (7, [.ref h, .ref se_row, .int se_places, .ref se_found, .int se_foundMany, .ref se_rr, .ref se_rp, .ref se_rs, .ref se_ro, .long se_meanTop, .long se_meanBottom])), (h, .inr (2, [.int h_features, .ref h_featureNames, .ref h_steps, .ref h_turnedFeatures, .ref h_sixteenths, .int h_keys, .ref h_keySteps, .int h_lent, .int h_rings, .ref h_on, .ref h_onMany, .int h_doors, .ref h_wanted, .ref h_openers, .ref h_seconds, .int h_turned, .int h_roundMany, .ref h_roundDoors])), (h_openers, .inl (cA.1 0, 5, .inl c_h_openers)), (se_row, .inl (cA.1 0, 10, .inl c_se_row))] H := hP
          have hD : va_D A [(h_seconds, .inl (cA.1 0, 4, .inl c_h_seconds)), (h_wanted, .inl (cA.1 0, 5, .inl c_h_wanted)), (se, .inr (7, [.ref h, .ref se_row, .int se_places, .ref se_found, .int se_foundMany, .ref se_rr, .ref se_rp, .ref se_rs, .ref se_ro, .long se_meanTop, .long se_meanBottom])), (h, .inr (2, [.int h_features, .ref h_featureNames, .ref h_steps, .ref h_turnedFeatures, .ref h_sixteenths, .int h_keys, .ref h_keySteps, .int h_lent, .int h_rings, .ref h_on, .ref h_onMany, .int h_doors, .ref h_wanted, .ref h_openers, .ref h_seconds, .int h_turned, .int h_roundMany, .ref h_roundDoors])), (h_openers, .inl (cA.1 0, 5, .inl c_h_openers)), (se_row, .inl (cA.1 0, 10, .inl c_se_row))] := hD
          obtain ⟨he_r_77, hw⟩ := hw
          have hz_r_77 := hw
          refine lv_if_eq (tgt := 46) hx hb dX7_wantedSecondsAnywhere_33 (by decide) (fun c_80 => ?_) (fun c_80 => ?_)
          · skip
            refine lv_iinc (v := (v_42 + 1)) (lv' := [(2, .int (v_42 + 1)), (3, .int r_70), (0, .ref se), (1, .int v_41)]) hx hb dX7_wantedSecondsAnywhere_46 hl (k := 3) rfl (z_ofi (by decide +kernel)) (by decide) rfl (fun ls hl => ?_)
            refine lv_goto (tgt := 4) hx hb dX7_wantedSecondsAnywhere_49 (by decide) ?_
            have hX_82 : F_Se_wantedSecondsAnywhere se_places h_doors c_h_wanted c_h_openers c_h_seconds c_se_row = F_Se_wantedSecondsAnywhere_L4a se_places h_doors c_h_wanted c_h_openers c_h_seconds c_se_row n_L4a v_41 (v_42 + 1) := by
              refine hF_L4a.trans ?_
              refine (F_Se_wantedSecondsAnywhere_L4a_s ..).trans ?_
              refine (if_neg c_66).trans ?_
              extract_lets -merge -useContext +onlyGivenNames w9 y9; have e9 : r_70 = w9 := he_r_70; clear_value w9; subst e9
              refine (if_neg c_73).trans ?_
              extract_lets -merge -useContext +onlyGivenNames w9 y9; have e9 : r_77 = w9 := he_r_77; clear_value w9; subst e9
              refine (if_pos c_80).trans ?_
              exact rfl
            have hP := hP.sub (ws' := [(se, .inr (7, [.ref h, .ref se_row, .int se_places, .ref se_found, .int se_foundMany, .ref se_rr, .ref se_rp, .ref se_rs, .ref se_ro, .long se_meanTop, .long se_meanBottom])), (h, .inr (2, [.int h_features, .ref h_featureNames, .ref h_steps, .ref h_turnedFeatures, .ref h_sixteenths, .int h_keys, .ref h_keySteps, .int h_lent, .int h_rings, .ref h_on, .ref h_onMany, .int h_doors, .ref h_wanted, .ref h_openers, .ref h_seconds, .int h_turned, .int h_roundMany, .ref h_roundDoors])), (h_wanted, .inl (cA.1 0, 5, .inl c_h_wanted)), (h_openers, .inl (cA.1 0, 5, .inl c_h_openers)), (h_seconds, .inl (cA.1 0, 4, .inl c_h_seconds)), (se_row, .inl (cA.1 0, 10, .inl c_se_row))]) [2, 3, 1, 4, 0, 5] rfl
            have hD := hD.sub (ws' := [(se, .inr (7, [.ref h, .ref se_row, .int se_places, .ref se_found, .int se_foundMany, .ref se_rr, .ref se_rp, .ref se_rs, .ref se_ro, .long se_meanTop, .long se_meanBottom])), (h, .inr (2, [.int h_features, .ref h_featureNames, .ref h_steps, .ref h_turnedFeatures, .ref h_sixteenths, .int h_keys, .ref h_keySteps, .int h_lent, .int h_rings, .ref h_on, .ref h_onMany, .int h_doors, .ref h_wanted, .ref h_openers, .ref h_seconds, .int h_turned, .int h_roundMany, .ref h_roundDoors])), (h_wanted, .inl (cA.1 0, 5, .inl c_h_wanted)), (h_openers, .inl (cA.1 0, 5, .inl c_h_openers)), (h_seconds, .inl (cA.1 0, 4, .inl c_h_seconds)), (se_row, .inl (cA.1 0, 10, .inl c_se_row))]) [2, 3, 1, 4, 0, 5] (by decide) rfl
            exact ih_65 v_41 (v_42 + 1) H locs ls (z_up hmu_hlp_63 (by omega) trivial) (z_upc hi_64 (by omega) trivial) hX_82 hP hD hS (lv_sub hl [2, 3, 0] rfl)
          · skip
            refine lv_iload_n hx hb dX7_wantedSecondsAnywhere_36 rfl (lv_at hl 2 rfl) ?_
            refine lv_iload_n hx hb dX7_wantedSecondsAnywhere_37 rfl (lv_at hl 0 rfl) ?_
            refine lv_aload_n hx hb dX7_wantedSecondsAnywhere_38 rfl (lv_at hl 1 rfl) ?_
            refine lv_iload_n hx hb dX7_wantedSecondsAnywhere_39 rfl (lv_at hl 3 rfl) ?_
            refine z_callVi (As := [.int v_42]) (rest := [.int r_70, .int v_41]) (wr := [(h_wanted, .inl (cA.1 0, 5, .inl c_h_wanted))]) ⟨hx, hb, hml, hown, hts⟩ hK hE hT hP hD hS hA (d_Se_secondsFromAll l G cA se h se_row se_places se_found se_foundMany se_rr se_rp se_rs se_ro se_meanTop se_meanBottom h_features h_featureNames h_steps h_turnedFeatures h_sixteenths h_keys h_keySteps h_lent h_rings h_on h_onMany h_doors h_wanted h_openers h_seconds h_turned h_roundMany h_roundDoors c_h_openers c_h_seconds c_se_row v_42 (by omega)) lk_RX7_91 ⟨rfl, rfl⟩ ⟨Nat.le_of_ble_eq_true rfl, Nat.le_of_ble_eq_true rfl⟩ 7 rfl rfl rfl [2, 3, 4, 0, 5] [1] rfl rfl (by decide) rfl hl.1 rfl (lv_room (Nat.le_of_ble_eq_true rfl)) dX7_wantedSecondsAnywhere_40 ⟨Nat.le_of_ble_eq_true rfl, Nat.le_of_ble_eq_true rfl⟩ (fun r_84 u_85 H locs hw hP hD hS => ?_)
            have hP : va_P G vwCl [(h_wanted, .inl (cA.1 0, 5, .inl c_h_wanted)), (se, .inr (7, [.ref h, .ref se_row, .int se_places, .ref se_found, .int se_foundMany, .ref se_rr, .ref se_rp, .ref se_rs, .ref se_ro, .long se_meanTop, .long se_meanBottom])), (h, .inr (2, [.int h_features, .ref h_featureNames, .ref h_steps, .ref h_turnedFeatures, .ref h_sixteenths, .int h_keys, .ref h_keySteps, .int h_lent, .int h_rings, .ref h_on, .ref h_onMany, .int h_doors, .ref h_wanted, .ref h_openers, .ref h_seconds, .int h_turned, .int h_roundMany, .ref h_roundDoors])), (h_openers, .inl (cA.1 0, 5, .inl c_h_openers)), (h_seconds, .inl (cA.1 0, 4, .inl c_h_seconds)), (se_row, .inl (cA.1 0, 10, .inl c_se_row))] H := hP
            have hD : va_D A [(h_wanted, .inl (cA.1 0, 5, .inl c_h_wanted)), (se, .inr (7, [.ref h, .ref se_row, .int se_places, .ref se_found, .int se_foundMany, .ref se_rr, .ref se_rp, .ref se_rs, .ref se_ro, .long se_meanTop, .long se_meanBottom])), (h, .inr (2, [.int h_features, .ref h_featureNames, .ref h_steps, .ref h_turnedFeatures, .ref h_sixteenths, .int h_keys, .ref h_keySteps, .int h_lent, .int h_rings, .ref h_on, .ref h_onMany, .int h_doors, .ref h_wanted, .ref h_openers, .ref h_seconds, .int h_turned, .int h_roundMany, .ref h_roundDoors])), (h_openers, .inl (cA.1 0, 5, .inl c_h_openers)), (h_seconds, .inl (cA.1 0, 4, .inl c_h_seconds)), (se_row, .inl (cA.1 0, 10, .inl c_se_row))] := hD
            obtain ⟨he_r_84, hw⟩ := hw
            refine lv_imul hx hb dX7_wantedSecondsAnywhere_43 ?_
            refine lv_topi (fun x_87 he_x_87 => ?_)
            refine lv_iadd hx hb dX7_wantedSecondsAnywhere_44 ?_
            refine lv_topi (fun x_88 he_x_88 => ?_)
            refine lv_istore_n (lv' := [(1, .int x_88), (3, .int r_70), (0, .ref se), (2, .int v_42)]) hx hb dX7_wantedSecondsAnywhere_45 rfl hl (by decide) rfl (fun ls hl => ?_)
            refine lv_iinc (v := (v_42 + 1)) (lv' := [(2, .int (v_42 + 1)), (1, .int x_88), (3, .int r_70), (0, .ref se)]) hx hb dX7_wantedSecondsAnywhere_46 hl (k := 3) rfl (z_ofi (by decide +kernel)) (by decide) rfl (fun ls hl => ?_)
            refine lv_goto (tgt := 4) hx hb dX7_wantedSecondsAnywhere_49 (by decide) ?_
            have hX_89 : F_Se_wantedSecondsAnywhere se_places h_doors c_h_wanted c_h_openers c_h_seconds c_se_row = F_Se_wantedSecondsAnywhere_L4a se_places h_doors c_h_wanted c_h_openers c_h_seconds c_se_row n_L4a x_88 (v_42 + 1) := by
              refine hF_L4a.trans ?_
              refine (F_Se_wantedSecondsAnywhere_L4a_s ..).trans ?_
              refine (if_neg c_66).trans ?_
              extract_lets -merge -useContext +onlyGivenNames w9 y9; have e9 : r_70 = w9 := he_r_70; clear_value w9; subst e9
              refine (if_neg c_73).trans ?_
              extract_lets -merge -useContext +onlyGivenNames w9 y9; have e9 : r_77 = w9 := he_r_77; clear_value w9; subst e9
              refine (if_neg c_80).trans ?_
              extract_lets -merge -useContext +onlyGivenNames w9 y9; have e9 : r_84 = w9 := he_r_84; clear_value w9; subst e9
              try (extract_lets -merge -useContext +onlyGivenNames y9; have e9 : x_87 = y9 := (by first | exact he_x_87 | exact he_x_87.symm); clear_value y9; subst e9)
              try (extract_lets -merge -useContext +onlyGivenNames y9; have e9 : x_88 = y9 := (by first | exact he_x_88 | exact he_x_88.symm); clear_value y9; subst e9)
              exact rfl
            have hP := hP.sub (ws' := [(se, .inr (7, [.ref h, .ref se_row, .int se_places, .ref se_found, .int se_foundMany, .ref se_rr, .ref se_rp, .ref se_rs, .ref se_ro, .long se_meanTop, .long se_meanBottom])), (h, .inr (2, [.int h_features, .ref h_featureNames, .ref h_steps, .ref h_turnedFeatures, .ref h_sixteenths, .int h_keys, .ref h_keySteps, .int h_lent, .int h_rings, .ref h_on, .ref h_onMany, .int h_doors, .ref h_wanted, .ref h_openers, .ref h_seconds, .int h_turned, .int h_roundMany, .ref h_roundDoors])), (h_wanted, .inl (cA.1 0, 5, .inl c_h_wanted)), (h_openers, .inl (cA.1 0, 5, .inl c_h_openers)), (h_seconds, .inl (cA.1 0, 4, .inl c_h_seconds)), (se_row, .inl (cA.1 0, 10, .inl c_se_row))]) [1, 2, 0, 3, 4, 5] rfl
            have hD := hD.sub (ws' := [(se, .inr (7, [.ref h, .ref se_row, .int se_places, .ref se_found, .int se_foundMany, .ref se_rr, .ref se_rp, .ref se_rs, .ref se_ro, .long se_meanTop, .long se_meanBottom])), (h, .inr (2, [.int h_features, .ref h_featureNames, .ref h_steps, .ref h_turnedFeatures, .ref h_sixteenths, .int h_keys, .ref h_keySteps, .int h_lent, .int h_rings, .ref h_on, .ref h_onMany, .int h_doors, .ref h_wanted, .ref h_openers, .ref h_seconds, .int h_turned, .int h_roundMany, .ref h_roundDoors])), (h_wanted, .inl (cA.1 0, 5, .inl c_h_wanted)), (h_openers, .inl (cA.1 0, 5, .inl c_h_openers)), (h_seconds, .inl (cA.1 0, 4, .inl c_h_seconds)), (se_row, .inl (cA.1 0, 10, .inl c_se_row))]) [1, 2, 0, 3, 4, 5] (by decide) rfl
            exact ih_65 x_88 (v_42 + 1) H locs ls (z_up hmu_hlp_63 (by omega) trivial) (z_upc hi_64 (by omega) trivial) hX_89 hP hD hS (lv_sub hl [3, 1, 0] rfl)
  have hX_90 : F_Se_wantedSecondsAnywhere se_places h_doors c_h_wanted c_h_openers c_h_seconds c_se_row = F_Se_wantedSecondsAnywhere_L4a se_places h_doors c_h_wanted c_h_openers c_h_seconds c_se_row ((2147483647 - (0 : Int32).toInt).toNat + 1) (0 : Int32) (0 : Int32) := by
    refine (F_Se_wantedSecondsAnywhere_s ..).trans ?_
    exact rfl
  exact hlp_63 ((2147483647 - (0 : Int32).toInt).toNat + 1) 0 0 _ _ _ (Nat.lt_succ_self _) (by first | decide +kernel | omega) hX_90 hP hD hS (lv_sub hl [2, 1, 0] rfl)
set_option maxHeartbeats 40000000 in
set_option maxRecDepth 100000 in
theorem d_Se_secondsFrom (l : Launch) (G : va_G) (cA : zCA) (se : Nat) (h : Nat) (se_row : Nat) (se_places : Int32) (se_found : Nat) (se_foundMany : Int32) (se_rr : Nat) (se_rp : Nat) (se_rs : Nat) (se_ro : Nat) (se_meanTop : Int64) (se_meanBottom : Int64) (h_features : Int32) (h_featureNames : Nat) (h_steps : Nat) (h_turnedFeatures : Nat) (h_sixteenths : Nat) (h_keys : Int32) (h_keySteps : Nat) (h_lent : Int32) (h_rings : Int32) (h_on : Nat) (h_onMany : Nat) (h_doors : Int32) (h_wanted : Nat) (h_openers : Nat) (h_seconds : Nat) (h_turned : Int32) (h_roundMany : Int32) (h_roundDoors : Nat) (c_h_openers : Nat → Int32) (c_h_seconds : Nat → Int32) (c_se_row : Nat → Int32) (k : Int32) (j : Int32) (i1 : Int32) (hm_h_features : 0 ≤ h_features.toInt ∧ h_features.toInt ≤ 3) : zCi l yX7_secondsFrom cX7_secondsFrom 7 (some .int) ({ frames := 3, cells := 0, slots := 0, locals := 63 }) G cA [.ref se, .int k, .int j, .int i1] [(se, .inr (7, [.ref h, .ref se_row, .int se_places, .ref se_found, .int se_foundMany, .ref se_rr, .ref se_rp, .ref se_rs, .ref se_ro, .long se_meanTop, .long se_meanBottom])), (h, .inr (2, [.int h_features, .ref h_featureNames, .ref h_steps, .ref h_turnedFeatures, .ref h_sixteenths, .int h_keys, .ref h_keySteps, .int h_lent, .int h_rings, .ref h_on, .ref h_onMany, .int h_doors, .ref h_wanted, .ref h_openers, .ref h_seconds, .int h_turned, .int h_roundMany, .ref h_roundDoors])), (h_openers, .inl (cA.1 0, 5, .inl c_h_openers)), (h_seconds, .inl (cA.1 0, 4, .inl c_h_seconds)), (se_row, .inl (cA.1 0, 10, .inl c_se_row))] (S := Unit) (fun (r : Int32) (u : Unit) => (r = (F_Se_secondsFrom se_places h_doors c_h_openers c_h_seconds c_se_row k j i1)) ∧ (True)) (fun (u : Unit) => [(se, .inr (7, [.ref h, .ref se_row, .int se_places, .ref se_found, .int se_foundMany, .ref se_rr, .ref se_rp, .ref se_rs, .ref se_ro, .long se_meanTop, .long se_meanBottom])), (h, .inr (2, [.int h_features, .ref h_featureNames, .ref h_steps, .ref h_turnedFeatures, .ref h_sixteenths, .int h_keys, .ref h_keySteps, .int h_lent, .int h_rings, .ref h_on, .ref h_onMany, .int h_doors, .ref h_wanted, .ref h_openers, .ref h_seconds, .int h_turned, .int h_roundMany, .ref h_roundDoors])), (h_openers, .inl (cA.1 0, 5, .inl c_h_openers)), (h_seconds, .inl (cA.1 0, 4, .inl c_h_seconds)), (se_row, .inl (cA.1 0, 10, .inl c_se_row))]) 0 0 := by
  refine z_start2i (own := RX7) (by decide) (Nat.le_of_ble_eq_true rfl) rfl ?_
  intro p e s m args below meth c A ls Q hx hb hml hts hown hK hE hT hP hD hS hA hl hret
  have hl : lv_has ls 7 [(0, .ref se), (1, .int k), (2, .int j), (3, .int i1)] := hl
  refine lv_aload_n hx hb dX7_secondsFrom_0 rfl (lv_at hl 0 rfl) ?_
  refine va_get (D := G) (ci := 7) (v := .ref h) (C := RX7) (T := TX7) (N := 11) hx hb hts inT7 hown hK hP 0 rfl rfl 0 (by decide) (hts _ tw_479) (fun _ h9 => h9) rfl dX7_secondsFrom_1 ?_
  refine lv_iload_n hx hb dX7_secondsFrom_4 rfl (lv_at hl 1 rfl) ?_
  refine z_callVi (As := [.int k]) (rest := []) (wr := [(se, .inr (7, [.ref h, .ref se_row, .int se_places, .ref se_found, .int se_foundMany, .ref se_rr, .ref se_rp, .ref se_rs, .ref se_ro, .long se_meanTop, .long se_meanBottom])), (h_seconds, .inl (cA.1 0, 4, .inl c_h_seconds)), (se_row, .inl (cA.1 0, 10, .inl c_se_row))]) ⟨hx, hb, hml, hown, hts⟩ hK hE hT hP hD hS hA (d_H_openersOf l G cA h h_features h_featureNames h_steps h_turnedFeatures h_sixteenths h_keys h_keySteps h_lent h_rings h_on h_onMany h_doors h_wanted h_openers h_seconds h_turned h_roundMany h_roundDoors c_h_openers k (by omega)) lk_RX7_59 ⟨rfl, rfl⟩ ⟨Nat.le_of_ble_eq_true rfl, Nat.le_of_ble_eq_true rfl⟩ 2 rfl rfl rfl [1, 2] [0, 3, 4] rfl rfl (by decide) rfl hl.1 rfl (lv_room (Nat.le_of_ble_eq_true rfl)) dX7_secondsFrom_5 ⟨Nat.le_of_ble_eq_true rfl, Nat.le_of_ble_eq_true rfl⟩ (fun r_1 u_2 H locs hw hP hD hS => ?_)
  have hP : va_P G vwCl [(se, .inr (7, [.ref h, .ref se_row, .int se_places, .ref se_found, .int se_foundMany, .ref se_rr, .ref se_rp, .ref se_rs, .ref se_ro, .long se_meanTop, .long se_meanBottom])), (h_seconds, .inl (cA.1 0, 4, .inl c_h_seconds)), (se_row, .inl (cA.1 0, 10, .inl c_se_row)), (h, .inr (2, [.int h_features, .ref h_featureNames, .ref h_steps, .ref h_turnedFeatures, .ref h_sixteenths, .int h_keys, .ref h_keySteps, .int h_lent, .int h_rings, .ref h_on, .ref h_onMany, .int h_doors, .ref h_wanted, .ref h_openers, .ref h_seconds, .int h_turned, .int h_roundMany, .ref h_roundDoors])), (h_openers, .inl (cA.1 0, 5, .inl c_h_openers))] H := hP
  have hD : va_D A [(se, .inr (7, [.ref h, .ref se_row, .int se_places, .ref se_found, .int se_foundMany, .ref se_rr, .ref se_rp, .ref se_rs, .ref se_ro, .long se_meanTop, .long se_meanBottom])), (h_seconds, .inl (cA.1 0, 4, .inl c_h_seconds)), (se_row, .inl (cA.1 0, 10, .inl c_se_row)), (h, .inr (2, [.int h_features, .ref h_featureNames, .ref h_steps, .ref h_turnedFeatures, .ref h_sixteenths, .int h_keys, .ref h_keySteps, .int h_lent, .int h_rings, .ref h_on, .ref h_onMany, .int h_doors, .ref h_wanted, .ref h_openers, .ref h_seconds, .int h_turned, .int h_roundMany, .ref h_roundDoors])), (h_openers, .inl (cA.1 0, 5, .inl c_h_openers))] := hD
  obtain ⟨he_r_1, hw⟩ := hw
  refine lv_istore (lv' := [(4, .int r_1), (0, .ref se), (1, .int k), (2, .int j), (3, .int i1)]) hx hb dX7_secondsFrom_8 hl (by decide) rfl (fun ls hl => ?_)
  refine lv_iconst (v := 1) hx hb dX7_secondsFrom_10 (by decide) ?_
  refine lv_istore (lv' := [(5, .int 1), (4, .int r_1), (0, .ref se), (1, .int k), (2, .int j), (3, .int i1)]) hx hb dX7_secondsFrom_11 hl (by decide) rfl (fun ls hl => ?_)
  refine lv_iload_n hx hb dX7_secondsFrom_13 rfl (lv_at hl 4 rfl) ?_
  refine lv_istore (lv' := [(6, .int j), (5, .int 1), (4, .int r_1), (0, .ref se), (1, .int k), (2, .int j), (3, .int i1)]) hx hb dX7_secondsFrom_14 hl (by decide) rfl (fun ls hl => ?_)
  have hlp_66 : ∀ (n_L16a : Nat) (v_40 : Int32) (v_41 : Int32) (H : Heap) (locs : List Loc) (ls : Array Slot), (2147483647 - v_40.toInt).toNat < n_L16a → (1 ≤ v_40.toInt) → (F_Se_secondsFrom se_places h_doors c_h_openers c_h_seconds c_se_row k j i1 = F_Se_secondsFrom_L16a se_places c_h_seconds c_se_row i1 r_1 n_L16a v_40 v_41) → va_P G vwCl [(se, .inr (7, [.ref h, .ref se_row, .int se_places, .ref se_found, .int se_foundMany, .ref se_rr, .ref se_rp, .ref se_rs, .ref se_ro, .long se_meanTop, .long se_meanBottom])), (h_seconds, .inl (cA.1 0, 4, .inl c_h_seconds)), (se_row, .inl (cA.1 0, 10, .inl c_se_row)), (h, .inr (2, [.int h_features, .ref h_featureNames, .ref h_steps, .ref h_turnedFeatures, .ref h_sixteenths, .int h_keys, .ref h_keySteps, .int h_lent, .int h_rings, .ref h_on, .ref h_onMany, .int h_doors, .ref h_wanted, .ref h_openers, .ref h_seconds, .int h_turned, .int h_roundMany, .ref h_roundDoors])), (h_openers, .inl (cA.1 0, 5, .inl c_h_openers))] H → va_D A [(se, .inr (7, [.ref h, .ref se_row, .int se_places, .ref se_found, .int se_foundMany, .ref se_rr, .ref se_rp, .ref se_rs, .ref se_ro, .long se_meanTop, .long se_meanBottom])), (h_seconds, .inl (cA.1 0, 4, .inl c_h_seconds)), (se_row, .inl (cA.1 0, 10, .inl c_se_row)), (h, .inr (2, [.int h_features, .ref h_featureNames, .ref h_steps, .ref h_turnedFeatures, .ref h_sixteenths, .int h_keys, .ref h_keySteps, .int h_lent, .int h_rings, .ref h_on, .ref h_onMany, .int h_doors, .ref h_wanted, .ref h_openers, .ref h_seconds, .int h_turned, .int h_roundMany, .ref h_roundDoors])), (h_openers, .inl (cA.1 0, 5, .inl c_h_openers))] → va_S A s.heap H locs → lv_has ls 7 [(0, .ref se), (1, .int k), (2, .int j), (3, .int i1), (4, .int r_1), (5, .int v_40), (6, .int v_41)] → W p l e ({ frames := 3, cells := 0, slots := 0, locals := 63 }) s m args below meth c H locs 0 0 Q (F0 m 16 ls []) := by
    intro n_L16a
    induction n_L16a with
    | zero =>
      intro v_40 v_41 H locs ls hmu_hlp_66 hi_67 hF_L16a hP hD hS hl
      exact absurd hmu_hlp_66 (Nat.not_lt_zero _)
    | succ n_L16a ih_68 =>
      intro v_40 v_41 H locs ls hmu_hlp_66 hi_67 hF_L16a hP hD hS hl
      refine lv_iload hx hb dX7_secondsFrom_16 (lv_at hl 5 rfl) ?_
      refine lv_aload_n hx hb dX7_secondsFrom_18 rfl (lv_at hl 0 rfl) ?_
      refine va_get (D := G) (ci := 7) (v := .int se_places) (C := RX7) (T := TX7) (N := 11) hx hb hts inT7 hown hK hP 0 rfl rfl 2 (by decide) (hts _ tw_481) (fun _ h9 => h9) rfl dX7_secondsFrom_19 ?_
      refine lv_icmp_ge (tgt := 66) hx hb dX7_secondsFrom_22 (by decide) (fun c_69 => ?_) (fun c_69 => ?_)
      · have b_70 := z_s1 c_69
        refine lv_aload_n hx hb dX7_secondsFrom_66 rfl (lv_at hl 0 rfl) ?_
        refine lv_iload hx hb dX7_secondsFrom_67 (lv_at hl 5 rfl) ?_
        refine z_callVi (As := [.int v_40]) (rest := []) (wr := [(se_row, .inl (cA.1 0, 10, .inl c_se_row)), (h_openers, .inl (cA.1 0, 5, .inl c_h_openers))]) ⟨hx, hb, hml, hown, hts⟩ hK hE hT hP hD hS hA (d_Se_secondsOfTries l G cA se h se_row se_places se_found se_foundMany se_rr se_rp se_rs se_ro se_meanTop se_meanBottom h_features h_featureNames h_steps h_turnedFeatures h_sixteenths h_keys h_keySteps h_lent h_rings h_on h_onMany h_doors h_wanted h_openers h_seconds h_turned h_roundMany h_roundDoors c_h_seconds v_40 (by omega)) lk_RX7_74 ⟨rfl, rfl⟩ ⟨Nat.le_of_ble_eq_true rfl, Nat.le_of_ble_eq_true rfl⟩ 7 rfl rfl rfl [0, 3, 1] [2, 4] rfl rfl (by decide) rfl hl.1 rfl (lv_room (Nat.le_of_ble_eq_true rfl)) dX7_secondsFrom_69 ⟨Nat.le_of_ble_eq_true rfl, Nat.le_of_ble_eq_true rfl⟩ (fun r_71 u_72 H locs hw hP hD hS => ?_)
        have hP : va_P G vwCl [(se_row, .inl (cA.1 0, 10, .inl c_se_row)), (h_openers, .inl (cA.1 0, 5, .inl c_h_openers)), (se, .inr (7, [.ref h, .ref se_row, .int se_places, .ref se_found, .int se_foundMany, .ref se_rr, .ref se_rp, .ref se_rs, .ref se_ro, .long se_meanTop, .long se_meanBottom])), (h, .inr (2, [.int h_features, .ref h_featureNames, .ref h_steps, .ref h_turnedFeatures, .ref h_sixteenths, .int h_keys, .ref h_keySteps, .int h_lent, .int h_rings, .ref h_on, .ref h_onMany, .int h_doors, .ref h_wanted, .ref h_openers, .ref h_seconds, .int h_turned, .int h_roundMany, .ref h_roundDoors])), (h_seconds, .inl (cA.1 0, 4, .inl c_h_seconds))] H := hP
        have hD : va_D A [(se_row, .inl (cA.1 0, 10, .inl c_se_row)), (h_openers, .inl (cA.1 0, 5, .inl c_h_openers)), (se, .inr (7, [.ref h, .ref se_row, .int se_places, .ref se_found, .int se_foundMany, .ref se_rr, .ref se_rp, .ref se_rs, .ref se_ro, .long se_meanTop, .long se_meanBottom])), (h, .inr (2, [.int h_features, .ref h_featureNames, .ref h_steps, .ref h_turnedFeatures, .ref h_sixteenths, .int h_keys, .ref h_keySteps, .int h_lent, .int h_rings, .ref h_on, .ref h_onMany, .int h_doors, .ref h_wanted, .ref h_openers, .ref h_seconds, .int h_turned, .int h_roundMany, .ref h_roundDoors])), (h_seconds, .inl (cA.1 0, 4, .inl c_h_seconds))] := hD
        obtain ⟨he_r_71, hw⟩ := hw
        have hX_74 : F_Se_secondsFrom se_places h_doors c_h_openers c_h_seconds c_se_row k j i1 = (r_71 : Int32) := by
          refine hF_L16a.trans ?_
          refine (F_Se_secondsFrom_L16a_s ..).trans ?_
          refine (if_pos c_69).trans ?_
          extract_lets -merge -useContext +onlyGivenNames w9 y9; have e9 : r_71 = w9 := he_r_71; clear_value w9; subst e9
          exact rfl
        exact hret _ _ _ _ _ _ () [2, 3, 1, 4, 0] hP hD hS rfl (by decide) dX7_secondsFrom_72 ⟨(congrArg (fun z9 => z9) hX_74).symm, trivial⟩
      · have b_75 := z_t2 c_69
        refine lv_aload_n hx hb dX7_secondsFrom_25 rfl (lv_at hl 0 rfl) ?_
        refine lv_iload hx hb dX7_secondsFrom_26 (lv_at hl 4 rfl) ?_
        refine lv_iload hx hb dX7_secondsFrom_28 (lv_at hl 6 rfl) ?_
        refine z_callVi (As := [.int r_1, .int v_41]) (rest := []) (wr := [(h_seconds, .inl (cA.1 0, 4, .inl c_h_seconds)), (h, .inr (2, [.int h_features, .ref h_featureNames, .ref h_steps, .ref h_turnedFeatures, .ref h_sixteenths, .int h_keys, .ref h_keySteps, .int h_lent, .int h_rings, .ref h_on, .ref h_onMany, .int h_doors, .ref h_wanted, .ref h_openers, .ref h_seconds, .int h_turned, .int h_roundMany, .ref h_roundDoors])), (h_openers, .inl (cA.1 0, 5, .inl c_h_openers))]) ⟨hx, hb, hml, hown, hts⟩ hK hE hT hP hD hS hA (d_Se_isOf l G cA se h se_row se_places se_found se_foundMany se_rr se_rp se_rs se_ro se_meanTop se_meanBottom c_se_row r_1 v_41) lk_RX7_63 ⟨rfl, rfl⟩ ⟨Nat.le_of_ble_eq_true rfl, Nat.le_of_ble_eq_true rfl⟩ 7 rfl rfl rfl [0, 2] [1, 3, 4] rfl rfl (by decide) rfl hl.1 rfl (lv_room (Nat.le_of_ble_eq_true rfl)) dX7_secondsFrom_30 ⟨Nat.le_of_ble_eq_true rfl, Nat.le_of_ble_eq_true rfl⟩ (fun r_76 u_77 H locs hw hP hD hS => ?_)
        have hP : va_P G vwCl [(h_seconds, .inl (cA.1 0, 4, .inl c_h_seconds)), (h, .inr (2, [.int h_features, .ref h_featureNames, .ref h_steps, .ref h_turnedFeatures, .ref h_sixteenths, .int h_keys, .ref h_keySteps, .int h_lent, .int h_rings, .ref h_on, .ref h_onMany, .int h_doors, .ref h_wanted, .ref h_openers, .ref h_seconds, .int h_turned, .int h_roundMany, .ref h_roundDoors])), (h_openers, .inl (cA.1 0, 5, .inl c_h_openers)), (se, .inr (7, [.ref h, .ref se_row, .int se_places, .ref se_found, .int se_foundMany, .ref se_rr, .ref se_rp, .ref se_rs, .ref se_ro, .long se_meanTop, .long se_meanBottom])), (se_row, .inl (cA.1 0, 10, .inl c_se_row))] H := hP
        have hD : va_D A [(h_seconds, .inl (cA.1 0, 4, .inl c_h_seconds)), (h, .inr (2, [.int h_features, .ref h_featureNames, .ref h_steps, .ref h_turnedFeatures, .ref h_sixteenths, .int h_keys, .ref h_keySteps, .int h_lent, .int h_rings, .ref h_on, .ref h_onMany, .int h_doors, .ref h_wanted, .ref h_openers, .ref h_seconds, .int h_turned, .int h_roundMany, .ref h_roundDoors])), (h_openers, .inl (cA.1 0, 5, .inl c_h_openers)), (se, .inr (7, [.ref h, .ref se_row, .int se_places, .ref se_found, .int se_foundMany, .ref se_rr, .ref se_rp, .ref se_rs, .ref se_ro, .long se_meanTop, .long se_meanBottom])), (se_row, .inl (cA.1 0, 10, .inl c_se_row))] := hD
        obtain ⟨he_r_76, hw⟩ := hw
        have hz_r_76 := hw
        refine lv_if_ne (tgt := 66) hx hb dX7_secondsFrom_33 (by decide) (fun c_79 => ?_) (fun c_79 => ?_)
        · skip
          refine lv_aload_n hx hb dX7_secondsFrom_66 rfl (lv_at hl 0 rfl) ?_
          refine lv_iload hx hb dX7_secondsFrom_67 (lv_at hl 5 rfl) ?_
          refine z_callVi (As := [.int v_40]) (rest := []) (wr := [(h_openers, .inl (cA.1 0, 5, .inl c_h_openers)), (se_row, .inl (cA.1 0, 10, .inl c_se_row))]) ⟨hx, hb, hml, hown, hts⟩ hK hE hT hP hD hS hA (d_Se_secondsOfTries l G cA se h se_row se_places se_found se_foundMany se_rr se_rp se_rs se_ro se_meanTop se_meanBottom h_features h_featureNames h_steps h_turnedFeatures h_sixteenths h_keys h_keySteps h_lent h_rings h_on h_onMany h_doors h_wanted h_openers h_seconds h_turned h_roundMany h_roundDoors c_h_seconds v_40 (by omega)) lk_RX7_74 ⟨rfl, rfl⟩ ⟨Nat.le_of_ble_eq_true rfl, Nat.le_of_ble_eq_true rfl⟩ 7 rfl rfl rfl [3, 1, 0] [2, 4] rfl rfl (by decide) rfl hl.1 rfl (lv_room (Nat.le_of_ble_eq_true rfl)) dX7_secondsFrom_69 ⟨Nat.le_of_ble_eq_true rfl, Nat.le_of_ble_eq_true rfl⟩ (fun r_81 u_82 H locs hw hP hD hS => ?_)
          have hP : va_P G vwCl [(h_openers, .inl (cA.1 0, 5, .inl c_h_openers)), (se_row, .inl (cA.1 0, 10, .inl c_se_row)), (se, .inr (7, [.ref h, .ref se_row, .int se_places, .ref se_found, .int se_foundMany, .ref se_rr, .ref se_rp, .ref se_rs, .ref se_ro, .long se_meanTop, .long se_meanBottom])), (h, .inr (2, [.int h_features, .ref h_featureNames, .ref h_steps, .ref h_turnedFeatures, .ref h_sixteenths, .int h_keys, .ref h_keySteps, .int h_lent, .int h_rings, .ref h_on, .ref h_onMany, .int h_doors, .ref h_wanted, .ref h_openers, .ref h_seconds, .int h_turned, .int h_roundMany, .ref h_roundDoors])), (h_seconds, .inl (cA.1 0, 4, .inl c_h_seconds))] H := hP
          have hD : va_D A [(h_openers, .inl (cA.1 0, 5, .inl c_h_openers)), (se_row, .inl (cA.1 0, 10, .inl c_se_row)), (se, .inr (7, [.ref h, .ref se_row, .int se_places, .ref se_found, .int se_foundMany, .ref se_rr, .ref se_rp, .ref se_rs, .ref se_ro, .long se_meanTop, .long se_meanBottom])), (h, .inr (2, [.int h_features, .ref h_featureNames, .ref h_steps, .ref h_turnedFeatures, .ref h_sixteenths, .int h_keys, .ref h_keySteps, .int h_lent, .int h_rings, .ref h_on, .ref h_onMany, .int h_doors, .ref h_wanted, .ref h_openers, .ref h_seconds, .int h_turned, .int h_roundMany, .ref h_roundDoors])), (h_seconds, .inl (cA.1 0, 4, .inl c_h_seconds))] := hD
          obtain ⟨he_r_81, hw⟩ := hw
          have hX_84 : F_Se_secondsFrom se_places h_doors c_h_openers c_h_seconds c_se_row k j i1 = (r_81 : Int32) := by
            refine hF_L16a.trans ?_
            refine (F_Se_secondsFrom_L16a_s ..).trans ?_
            refine (if_neg c_69).trans ?_
            extract_lets -merge -useContext +onlyGivenNames w9 y9; have e9 : r_76 = w9 := he_r_76; clear_value w9; subst e9
            refine (if_neg c_79).trans ?_
            extract_lets -merge -useContext +onlyGivenNames w9 y9; have e9 : r_81 = w9 := he_r_81; clear_value w9; subst e9
            exact rfl
          exact hret _ _ _ _ _ _ () [2, 3, 0, 4, 1] hP hD hS rfl (by decide) dX7_secondsFrom_72 ⟨(congrArg (fun z9 => z9) hX_84).symm, trivial⟩
        · skip
          refine lv_iload_n hx hb dX7_secondsFrom_36 rfl (lv_at hl 3 rfl) ?_
          refine lv_if_ne (tgt := 47) hx hb dX7_secondsFrom_37 (by decide) (fun c_86 => ?_) (fun c_86 => ?_)
          · skip
            refine lv_iload hx hb dX7_secondsFrom_47 (lv_at hl 6 rfl) ?_
            refine lv_iconst (v := 1) hx hb dX7_secondsFrom_49 (by decide) ?_
            refine lv_isub hx hb dX7_secondsFrom_50 ?_
            refine lv_aload_n hx hb dX7_secondsFrom_51 rfl (lv_at hl 0 rfl) ?_
            refine va_get (D := G) (ci := 7) (v := .int se_places) (C := RX7) (T := TX7) (N := 11) hx hb hts inT7 hown hK hP 3 rfl rfl 2 (by decide) (hts _ tw_481) (fun _ h9 => h9) rfl dX7_secondsFrom_52 ?_
            refine z_callSNi (As := [.int (v_41 - 1), .int se_places]) (rest := []) (wr := [(h_seconds, .inl (cA.1 0, 4, .inl c_h_seconds)), (h, .inr (2, [.int h_features, .ref h_featureNames, .ref h_steps, .ref h_turnedFeatures, .ref h_sixteenths, .int h_keys, .ref h_keySteps, .int h_lent, .int h_rings, .ref h_on, .ref h_onMany, .int h_doors, .ref h_wanted, .ref h_openers, .ref h_seconds, .int h_turned, .int h_roundMany, .ref h_roundDoors])), (h_openers, .inl (cA.1 0, 5, .inl c_h_openers)), (se, .inr (7, [.ref h, .ref se_row, .int se_places, .ref se_found, .int se_foundMany, .ref se_rr, .ref se_rp, .ref se_rs, .ref se_ro, .long se_meanTop, .long se_meanBottom])), (se_row, .inl (cA.1 0, 10, .inl c_se_row))]) ⟨hx, hb, hml, hown, hts⟩ hK hE hT hP hD hS hA (d_Da_inRing l G cA (v_41 - 1) se_places) lk_RX7_70 ⟨rfl, rfl⟩ ⟨Nat.le_of_ble_eq_true rfl, Nat.le_of_ble_eq_true rfl⟩ [] [0, 1, 2, 3, 4] rfl rfl (by decide) rfl hl.1 rfl (lv_room (Nat.le_of_ble_eq_true rfl)) dX7_secondsFrom_55 ⟨Nat.le_of_ble_eq_true rfl, Nat.le_of_ble_eq_true rfl⟩ (fun r_88 u_89 H locs hw hP hD hS => ?_)
            have hP : va_P G vwCl [(h_seconds, .inl (cA.1 0, 4, .inl c_h_seconds)), (h, .inr (2, [.int h_features, .ref h_featureNames, .ref h_steps, .ref h_turnedFeatures, .ref h_sixteenths, .int h_keys, .ref h_keySteps, .int h_lent, .int h_rings, .ref h_on, .ref h_onMany, .int h_doors, .ref h_wanted, .ref h_openers, .ref h_seconds, .int h_turned, .int h_roundMany, .ref h_roundDoors])), (h_openers, .inl (cA.1 0, 5, .inl c_h_openers)), (se, .inr (7, [.ref h, .ref se_row, .int se_places, .ref se_found, .int se_foundMany, .ref se_rr, .ref se_rp, .ref se_rs, .ref se_ro, .long se_meanTop, .long se_meanBottom])), (se_row, .inl (cA.1 0, 10, .inl c_se_row))] H := hP
            have hD : va_D A [(h_seconds, .inl (cA.1 0, 4, .inl c_h_seconds)), (h, .inr (2, [.int h_features, .ref h_featureNames, .ref h_steps, .ref h_turnedFeatures, .ref h_sixteenths, .int h_keys, .ref h_keySteps, .int h_lent, .int h_rings, .ref h_on, .ref h_onMany, .int h_doors, .ref h_wanted, .ref h_openers, .ref h_seconds, .int h_turned, .int h_roundMany, .ref h_roundDoors])), (h_openers, .inl (cA.1 0, 5, .inl c_h_openers)), (se, .inr (7, [.ref h, .ref se_row, .int se_places, .ref se_found, .int se_foundMany, .ref se_rr, .ref se_rp, .ref se_rs, .ref se_ro, .long se_meanTop, .long se_meanBottom])), (se_row, .inl (cA.1 0, 10, .inl c_se_row))] := hD
            obtain ⟨he_r_88, hw⟩ := hw
            refine lv_istore (lv' := [(6, .int r_88), (0, .ref se), (1, .int k), (2, .int j), (3, .int i1), (4, .int r_1), (5, .int v_40)]) hx hb dX7_secondsFrom_58 hl (by decide) rfl (fun ls hl => ?_)
            refine lv_iinc (v := (v_40 + 1)) (lv' := [(5, .int (v_40 + 1)), (6, .int r_88), (0, .ref se), (1, .int k), (2, .int j), (3, .int i1), (4, .int r_1)]) hx hb dX7_secondsFrom_60 hl (k := 6) rfl (z_ofi (by decide +kernel)) (by decide) rfl (fun ls hl => ?_)
            refine lv_goto (tgt := 16) hx hb dX7_secondsFrom_63 (by decide) ?_
            have hX_91 : F_Se_secondsFrom se_places h_doors c_h_openers c_h_seconds c_se_row k j i1 = F_Se_secondsFrom_L16a se_places c_h_seconds c_se_row i1 r_1 n_L16a (v_40 + 1) r_88 := by
              refine hF_L16a.trans ?_
              refine (F_Se_secondsFrom_L16a_s ..).trans ?_
              refine (if_neg c_69).trans ?_
              extract_lets -merge -useContext +onlyGivenNames w9 y9; have e9 : r_76 = w9 := he_r_76; clear_value w9; subst e9
              refine (if_pos c_79).trans ?_
              refine (if_neg c_86).trans ?_
              extract_lets -merge -useContext +onlyGivenNames w9 y9; have e9 : r_88 = w9 := he_r_88; clear_value w9; subst e9
              exact rfl
            have hP := hP.sub (ws' := [(se, .inr (7, [.ref h, .ref se_row, .int se_places, .ref se_found, .int se_foundMany, .ref se_rr, .ref se_rp, .ref se_rs, .ref se_ro, .long se_meanTop, .long se_meanBottom])), (h_seconds, .inl (cA.1 0, 4, .inl c_h_seconds)), (se_row, .inl (cA.1 0, 10, .inl c_se_row)), (h, .inr (2, [.int h_features, .ref h_featureNames, .ref h_steps, .ref h_turnedFeatures, .ref h_sixteenths, .int h_keys, .ref h_keySteps, .int h_lent, .int h_rings, .ref h_on, .ref h_onMany, .int h_doors, .ref h_wanted, .ref h_openers, .ref h_seconds, .int h_turned, .int h_roundMany, .ref h_roundDoors])), (h_openers, .inl (cA.1 0, 5, .inl c_h_openers))]) [3, 0, 4, 1, 2] rfl
            have hD := hD.sub (ws' := [(se, .inr (7, [.ref h, .ref se_row, .int se_places, .ref se_found, .int se_foundMany, .ref se_rr, .ref se_rp, .ref se_rs, .ref se_ro, .long se_meanTop, .long se_meanBottom])), (h_seconds, .inl (cA.1 0, 4, .inl c_h_seconds)), (se_row, .inl (cA.1 0, 10, .inl c_se_row)), (h, .inr (2, [.int h_features, .ref h_featureNames, .ref h_steps, .ref h_turnedFeatures, .ref h_sixteenths, .int h_keys, .ref h_keySteps, .int h_lent, .int h_rings, .ref h_on, .ref h_onMany, .int h_doors, .ref h_wanted, .ref h_openers, .ref h_seconds, .int h_turned, .int h_roundMany, .ref h_roundDoors])), (h_openers, .inl (cA.1 0, 5, .inl c_h_openers))]) [3, 0, 4, 1, 2] (by decide) rfl
            exact ih_68 (v_40 + 1) r_88 H locs ls (z_up hmu_hlp_66 (by omega) trivial) (z_upc hi_67 (by omega) trivial) hX_91 hP hD hS (lv_sub hl [2, 3, 4, 5, 6, 0, 1] rfl)
          · skip
            refine lv_iload hx hb dX7_secondsFrom_40 (lv_at hl 6 rfl) ?_
            refine lv_iconst (v := 1) hx hb dX7_secondsFrom_42 (by decide) ?_
            refine lv_iadd hx hb dX7_secondsFrom_43 ?_
            refine lv_goto (tgt := 51) hx hb dX7_secondsFrom_44 (by decide) ?_
            refine lv_aload_n hx hb dX7_secondsFrom_51 rfl (lv_at hl 0 rfl) ?_
            refine va_get (D := G) (ci := 7) (v := .int se_places) (C := RX7) (T := TX7) (N := 11) hx hb hts inT7 hown hK hP 3 rfl rfl 2 (by decide) (hts _ tw_481) (fun _ h9 => h9) rfl dX7_secondsFrom_52 ?_
            refine z_callSNi (As := [.int (v_41 + 1), .int se_places]) (rest := []) (wr := [(h_seconds, .inl (cA.1 0, 4, .inl c_h_seconds)), (h, .inr (2, [.int h_features, .ref h_featureNames, .ref h_steps, .ref h_turnedFeatures, .ref h_sixteenths, .int h_keys, .ref h_keySteps, .int h_lent, .int h_rings, .ref h_on, .ref h_onMany, .int h_doors, .ref h_wanted, .ref h_openers, .ref h_seconds, .int h_turned, .int h_roundMany, .ref h_roundDoors])), (h_openers, .inl (cA.1 0, 5, .inl c_h_openers)), (se, .inr (7, [.ref h, .ref se_row, .int se_places, .ref se_found, .int se_foundMany, .ref se_rr, .ref se_rp, .ref se_rs, .ref se_ro, .long se_meanTop, .long se_meanBottom])), (se_row, .inl (cA.1 0, 10, .inl c_se_row))]) ⟨hx, hb, hml, hown, hts⟩ hK hE hT hP hD hS hA (d_Da_inRing l G cA (v_41 + 1) se_places) lk_RX7_70 ⟨rfl, rfl⟩ ⟨Nat.le_of_ble_eq_true rfl, Nat.le_of_ble_eq_true rfl⟩ [] [0, 1, 2, 3, 4] rfl rfl (by decide) rfl hl.1 rfl (lv_room (Nat.le_of_ble_eq_true rfl)) dX7_secondsFrom_55 ⟨Nat.le_of_ble_eq_true rfl, Nat.le_of_ble_eq_true rfl⟩ (fun r_93 u_94 H locs hw hP hD hS => ?_)
            have hP : va_P G vwCl [(h_seconds, .inl (cA.1 0, 4, .inl c_h_seconds)), (h, .inr (2, [.int h_features, .ref h_featureNames, .ref h_steps, .ref h_turnedFeatures, .ref h_sixteenths, .int h_keys, .ref h_keySteps, .int h_lent, .int h_rings, .ref h_on, .ref h_onMany, .int h_doors, .ref h_wanted, .ref h_openers, .ref h_seconds, .int h_turned, .int h_roundMany, .ref h_roundDoors])), (h_openers, .inl (cA.1 0, 5, .inl c_h_openers)), (se, .inr (7, [.ref h, .ref se_row, .int se_places, .ref se_found, .int se_foundMany, .ref se_rr, .ref se_rp, .ref se_rs, .ref se_ro, .long se_meanTop, .long se_meanBottom])), (se_row, .inl (cA.1 0, 10, .inl c_se_row))] H := hP
            have hD : va_D A [(h_seconds, .inl (cA.1 0, 4, .inl c_h_seconds)), (h, .inr (2, [.int h_features, .ref h_featureNames, .ref h_steps, .ref h_turnedFeatures, .ref h_sixteenths, .int h_keys, .ref h_keySteps, .int h_lent, .int h_rings, .ref h_on, .ref h_onMany, .int h_doors, .ref h_wanted, .ref h_openers, .ref h_seconds, .int h_turned, .int h_roundMany, .ref h_roundDoors])), (h_openers, .inl (cA.1 0, 5, .inl c_h_openers)), (se, .inr (7, [.ref h, .ref se_row, .int se_places, .ref se_found, .int se_foundMany, .ref se_rr, .ref se_rp, .ref se_rs, .ref se_ro, .long se_meanTop, .long se_meanBottom])), (se_row, .inl (cA.1 0, 10, .inl c_se_row))] := hD
            obtain ⟨he_r_93, hw⟩ := hw
            refine lv_istore (lv' := [(6, .int r_93), (0, .ref se), (1, .int k), (2, .int j), (3, .int i1), (4, .int r_1), (5, .int v_40)]) hx hb dX7_secondsFrom_58 hl (by decide) rfl (fun ls hl => ?_)
            refine lv_iinc (v := (v_40 + 1)) (lv' := [(5, .int (v_40 + 1)), (6, .int r_93), (0, .ref se), (1, .int k), (2, .int j), (3, .int i1), (4, .int r_1)]) hx hb dX7_secondsFrom_60 hl (k := 6) rfl (z_ofi (by decide +kernel)) (by decide) rfl (fun ls hl => ?_)
            refine lv_goto (tgt := 16) hx hb dX7_secondsFrom_63 (by decide) ?_
            have hX_96 : F_Se_secondsFrom se_places h_doors c_h_openers c_h_seconds c_se_row k j i1 = F_Se_secondsFrom_L16a se_places c_h_seconds c_se_row i1 r_1 n_L16a (v_40 + 1) r_93 := by
              refine hF_L16a.trans ?_
              refine (F_Se_secondsFrom_L16a_s ..).trans ?_
              refine (if_neg c_69).trans ?_
              extract_lets -merge -useContext +onlyGivenNames w9 y9; have e9 : r_76 = w9 := he_r_76; clear_value w9; subst e9
              refine (if_pos c_79).trans ?_
              refine (if_pos c_86).trans ?_
              extract_lets -merge -useContext +onlyGivenNames w9 y9; have e9 : r_93 = w9 := he_r_93; clear_value w9; subst e9
              exact rfl
            have hP := hP.sub (ws' := [(se, .inr (7, [.ref h, .ref se_row, .int se_places, .ref se_found, .int se_foundMany, .ref se_rr, .ref se_rp, .ref se_rs, .ref se_ro, .long se_meanTop, .long se_meanBottom])), (h_seconds, .inl (cA.1 0, 4, .inl c_h_seconds)), (se_row, .inl (cA.1 0, 10, .inl c_se_row)), (h, .inr (2, [.int h_features, .ref h_featureNames, .ref h_steps, .ref h_turnedFeatures, .ref h_sixteenths, .int h_keys, .ref h_keySteps, .int h_lent, .int h_rings, .ref h_on, .ref h_onMany, .int h_doors, .ref h_wanted, .ref h_openers, .ref h_seconds, .int h_turned, .int h_roundMany, .ref h_roundDoors])), (h_openers, .inl (cA.1 0, 5, .inl c_h_openers))]) [3, 0, 4, 1, 2] rfl
            have hD := hD.sub (ws' := [(se, .inr (7, [.ref h, .ref se_row, .int se_places, .ref se_found, .int se_foundMany, .ref se_rr, .ref se_rp, .ref se_rs, .ref se_ro, .long se_meanTop, .long se_meanBottom])), (h_seconds, .inl (cA.1 0, 4, .inl c_h_seconds)), (se_row, .inl (cA.1 0, 10, .inl c_se_row)), (h, .inr (2, [.int h_features, .ref h_featureNames, .ref h_steps, .ref h_turnedFeatures, .ref h_sixteenths, .int h_keys, .ref h_keySteps, .int h_lent, .int h_rings, .ref h_on, .ref h_onMany, .int h_doors, .ref h_wanted, .ref h_openers, .ref h_seconds, .int h_turned, .int h_roundMany, .ref h_roundDoors])), (h_openers, .inl (cA.1 0, 5, .inl c_h_openers))]) [3, 0, 4, 1, 2] (by decide) rfl
            exact ih_68 (v_40 + 1) r_93 H locs ls (z_up hmu_hlp_66 (by omega) trivial) (z_upc hi_67 (by omega) trivial) hX_96 hP hD hS (lv_sub hl [2, 3, 4, 5, 6, 0, 1] rfl)
  have hX_97 : F_Se_secondsFrom se_places h_doors c_h_openers c_h_seconds c_se_row k j i1 = F_Se_secondsFrom_L16a se_places c_h_seconds c_se_row i1 r_1 ((2147483647 - (1 : Int32).toInt).toNat + 1) (1 : Int32) j := by
    refine (F_Se_secondsFrom_s ..).trans ?_
    extract_lets -merge -useContext +onlyGivenNames w9 y9; have e9 : r_1 = w9 := he_r_1; clear_value w9; subst e9
    exact rfl
  exact hlp_66 ((2147483647 - (1 : Int32).toInt).toNat + 1) 1 j _ _ _ (Nat.lt_succ_self _) (by first | decide +kernel | omega) hX_97 hP hD hS (lv_sub hl [3, 4, 5, 6, 2, 1, 0] rfl)
set_option maxHeartbeats 40000000 in
set_option maxRecDepth 100000 in
theorem d_Se_wantedSecondsFrom (l : Launch) (G : va_G) (cA : zCA) (se : Nat) (h : Nat) (se_row : Nat) (se_places : Int32) (se_found : Nat) (se_foundMany : Int32) (se_rr : Nat) (se_rp : Nat) (se_rs : Nat) (se_ro : Nat) (se_meanTop : Int64) (se_meanBottom : Int64) (h_features : Int32) (h_featureNames : Nat) (h_steps : Nat) (h_turnedFeatures : Nat) (h_sixteenths : Nat) (h_keys : Int32) (h_keySteps : Nat) (h_lent : Int32) (h_rings : Int32) (h_on : Nat) (h_onMany : Nat) (h_doors : Int32) (h_wanted : Nat) (h_openers : Nat) (h_seconds : Nat) (h_turned : Int32) (h_roundMany : Int32) (h_roundDoors : Nat) (c_h_wanted : Nat → Int32) (c_h_openers : Nat → Int32) (c_h_seconds : Nat → Int32) (c_se_row : Nat → Int32) (k : Int32) (j : Int32) (hm_h_features : 0 ≤ h_features.toInt ∧ h_features.toInt ≤ 3) : zCi l yX7_wantedSecondsFrom cX7_wantedSecondsFrom 6 (some .int) ({ frames := 4, cells := 0, slots := 0, locals := 89 }) G cA [.ref se, .int k, .int j] [(se, .inr (7, [.ref h, .ref se_row, .int se_places, .ref se_found, .int se_foundMany, .ref se_rr, .ref se_rp, .ref se_rs, .ref se_ro, .long se_meanTop, .long se_meanBottom])), (h, .inr (2, [.int h_features, .ref h_featureNames, .ref h_steps, .ref h_turnedFeatures, .ref h_sixteenths, .int h_keys, .ref h_keySteps, .int h_lent, .int h_rings, .ref h_on, .ref h_onMany, .int h_doors, .ref h_wanted, .ref h_openers, .ref h_seconds, .int h_turned, .int h_roundMany, .ref h_roundDoors])), (h_wanted, .inl (cA.1 0, 5, .inl c_h_wanted)), (h_openers, .inl (cA.1 0, 5, .inl c_h_openers)), (h_seconds, .inl (cA.1 0, 4, .inl c_h_seconds)), (se_row, .inl (cA.1 0, 10, .inl c_se_row))] (S := Unit) (fun (r : Int32) (u : Unit) => (r = (F_Se_wantedSecondsFrom se_places h_doors c_h_wanted c_h_openers c_h_seconds c_se_row k j)) ∧ (True)) (fun (u : Unit) => [(se, .inr (7, [.ref h, .ref se_row, .int se_places, .ref se_found, .int se_foundMany, .ref se_rr, .ref se_rp, .ref se_rs, .ref se_ro, .long se_meanTop, .long se_meanBottom])), (h, .inr (2, [.int h_features, .ref h_featureNames, .ref h_steps, .ref h_turnedFeatures, .ref h_sixteenths, .int h_keys, .ref h_keySteps, .int h_lent, .int h_rings, .ref h_on, .ref h_onMany, .int h_doors, .ref h_wanted, .ref h_openers, .ref h_seconds, .int h_turned, .int h_roundMany, .ref h_roundDoors])), (h_wanted, .inl (cA.1 0, 5, .inl c_h_wanted)), (h_openers, .inl (cA.1 0, 5, .inl c_h_openers)), (h_seconds, .inl (cA.1 0, 4, .inl c_h_seconds)), (se_row, .inl (cA.1 0, 10, .inl c_se_row))]) 0 0 := by
  refine z_start2i (own := RX7) (by decide) (Nat.le_of_ble_eq_true rfl) rfl ?_
  intro p e s m args below meth c A ls Q hx hb hml hts hown hK hE hT hP hD hS hA hl hret
  have hl : lv_has ls 6 [(0, .ref se), (1, .int k), (2, .int j)] := hl
  refine lv_iconst (v := 0) hx hb dX7_wantedSecondsFrom_0 (by decide) ?_
  refine lv_istore_n (lv' := [(3, .int 0), (0, .ref se), (1, .int k), (2, .int j)]) hx hb dX7_wantedSecondsFrom_1 rfl hl (by decide) rfl (fun ls hl => ?_)
  refine lv_iconst (v := 0) hx hb dX7_wantedSecondsFrom_2 (by decide) ?_
  refine lv_istore (lv' := [(4, .int 0), (3, .int 0), (0, .ref se), (1, .int k), (2, .int j)]) hx hb dX7_wantedSecondsFrom_3 hl (by decide) rfl (fun ls hl => ?_)
  have hlp_63 : ∀ (n_L5a : Nat) (v_41 : Int32) (v_42 : Int32) (H : Heap) (locs : List Loc) (ls : Array Slot), (2147483647 - v_42.toInt).toNat < n_L5a → (0 ≤ v_42.toInt) → (F_Se_wantedSecondsFrom se_places h_doors c_h_wanted c_h_openers c_h_seconds c_se_row k j = F_Se_wantedSecondsFrom_L5a se_places h_doors c_h_wanted c_h_openers c_h_seconds c_se_row k j n_L5a v_41 v_42) → va_P G vwCl [(se, .inr (7, [.ref h, .ref se_row, .int se_places, .ref se_found, .int se_foundMany, .ref se_rr, .ref se_rp, .ref se_rs, .ref se_ro, .long se_meanTop, .long se_meanBottom])), (h, .inr (2, [.int h_features, .ref h_featureNames, .ref h_steps, .ref h_turnedFeatures, .ref h_sixteenths, .int h_keys, .ref h_keySteps, .int h_lent, .int h_rings, .ref h_on, .ref h_onMany, .int h_doors, .ref h_wanted, .ref h_openers, .ref h_seconds, .int h_turned, .int h_roundMany, .ref h_roundDoors])), (h_wanted, .inl (cA.1 0, 5, .inl c_h_wanted)), (h_openers, .inl (cA.1 0, 5, .inl c_h_openers)), (h_seconds, .inl (cA.1 0, 4, .inl c_h_seconds)), (se_row, .inl (cA.1 0, 10, .inl c_se_row))] H → va_D A [(se, .inr (7, [.ref h, .ref se_row, .int se_places, .ref se_found, .int se_foundMany, .ref se_rr, .ref se_rp, .ref se_rs, .ref se_ro, .long se_meanTop, .long se_meanBottom])), (h, .inr (2, [.int h_features, .ref h_featureNames, .ref h_steps, .ref h_turnedFeatures, .ref h_sixteenths, .int h_keys, .ref h_keySteps, .int h_lent, .int h_rings, .ref h_on, .ref h_onMany, .int h_doors, .ref h_wanted, .ref h_openers, .ref h_seconds, .int h_turned, .int h_roundMany, .ref h_roundDoors])), (h_wanted, .inl (cA.1 0, 5, .inl c_h_wanted)), (h_openers, .inl (cA.1 0, 5, .inl c_h_openers)), (h_seconds, .inl (cA.1 0, 4, .inl c_h_seconds)), (se_row, .inl (cA.1 0, 10, .inl c_se_row))] → va_S A s.heap H locs → lv_has ls 6 [(0, .ref se), (1, .int k), (2, .int j), (3, .int v_41), (4, .int v_42)] → W p l e ({ frames := 4, cells := 0, slots := 0, locals := 89 }) s m args below meth c H locs 0 0 Q (F0 m 5 ls []) := by
    intro n_L5a
    induction n_L5a with
    | zero =>
      intro v_41 v_42 H locs ls hmu_hlp_63 hi_64 hF_L5a hP hD hS hl
      exact absurd hmu_hlp_63 (Nat.not_lt_zero _)
    | succ n_L5a ih_65 =>
      intro v_41 v_42 H locs ls hmu_hlp_63 hi_64 hF_L5a hP hD hS hl
      refine lv_iload hx hb dX7_wantedSecondsFrom_5 (lv_at hl 4 rfl) ?_
      refine lv_aload_n hx hb dX7_wantedSecondsFrom_7 rfl (lv_at hl 0 rfl) ?_
      refine va_get (D := G) (ci := 7) (v := .ref h) (C := RX7) (T := TX7) (N := 11) hx hb hts inT7 hown hK hP 0 rfl rfl 0 (by decide) (hts _ tw_479) (fun _ h9 => h9) rfl dX7_wantedSecondsFrom_8 ?_
      refine va_get (D := G) (ci := 2) (v := .int h_doors) (C := RX2) (T := TX2) (N := 18) hx hb hts inT2 hown hK hP 1 rfl rfl 11 (by decide) (hts _ tw_287) (fun _ h9 => h9) rfl dX7_wantedSecondsFrom_11 ?_
      refine lv_icmp_ge (tgt := 62) hx hb dX7_wantedSecondsFrom_14 (by decide) (fun c_66 => ?_) (fun c_66 => ?_)
      · have b_67 := z_s1 c_66
        refine lv_iload_n hx hb dX7_wantedSecondsFrom_62 rfl (lv_at hl 3 rfl) ?_
        have hX_68 : F_Se_wantedSecondsFrom se_places h_doors c_h_wanted c_h_openers c_h_seconds c_se_row k j = (v_41 : Int32) := by
          refine hF_L5a.trans ?_
          refine (F_Se_wantedSecondsFrom_L5a_s ..).trans ?_
          refine (if_pos c_66).trans ?_
          exact rfl
        exact hret _ _ _ _ _ _ () [0, 1, 2, 3, 4, 5] hP hD hS rfl (by decide) dX7_wantedSecondsFrom_63 ⟨(congrArg (fun z9 => z9) hX_68).symm, trivial⟩
      · have b_69 := z_t2 c_66
        refine lv_aload_n hx hb dX7_wantedSecondsFrom_17 rfl (lv_at hl 0 rfl) ?_
        refine va_get (D := G) (ci := 7) (v := .ref h) (C := RX7) (T := TX7) (N := 11) hx hb hts inT7 hown hK hP 0 rfl rfl 0 (by decide) (hts _ tw_479) (fun _ h9 => h9) rfl dX7_wantedSecondsFrom_18 ?_
        refine lv_iload hx hb dX7_wantedSecondsFrom_21 (lv_at hl 4 rfl) ?_
        refine z_callVi (As := [.int v_42]) (rest := []) (wr := [(se, .inr (7, [.ref h, .ref se_row, .int se_places, .ref se_found, .int se_foundMany, .ref se_rr, .ref se_rp, .ref se_rs, .ref se_ro, .long se_meanTop, .long se_meanBottom])), (h_openers, .inl (cA.1 0, 5, .inl c_h_openers)), (h_seconds, .inl (cA.1 0, 4, .inl c_h_seconds)), (se_row, .inl (cA.1 0, 10, .inl c_se_row))]) ⟨hx, hb, hml, hown, hts⟩ hK hE hT hP hD hS hA (d_H_wantedOf l G cA h h_features h_featureNames h_steps h_turnedFeatures h_sixteenths h_keys h_keySteps h_lent h_rings h_on h_onMany h_doors h_wanted h_openers h_seconds h_turned h_roundMany h_roundDoors c_h_wanted v_42 (by omega)) lk_RX7_84 ⟨rfl, rfl⟩ ⟨Nat.le_of_ble_eq_true rfl, Nat.le_of_ble_eq_true rfl⟩ 2 rfl rfl rfl [1, 2] [0, 3, 4, 5] rfl rfl (by decide) rfl hl.1 rfl (lv_room (Nat.le_of_ble_eq_true rfl)) dX7_wantedSecondsFrom_23 ⟨Nat.le_of_ble_eq_true rfl, Nat.le_of_ble_eq_true rfl⟩ (fun r_70 u_71 H locs hw hP hD hS => ?_)
        have hP : va_P G vwCl [(se, .inr (7, [.ref h, .ref se_row, .int se_places, .ref se_found, .int se_foundMany, .ref se_rr, .ref se_rp, .ref se_rs, .ref se_ro, .long se_meanTop, .long se_meanBottom])), (h_openers, .inl (cA.1 0, 5, .inl c_h_openers)), (h_seconds, .inl (cA.1 0, 4, .inl c_h_seconds)), (se_row, .inl (cA.1 0, 10, .inl c_se_row)), (h, .inr (2, [.int h_features, .ref h_featureNames, .ref h_steps, .ref h_turnedFeatures, .ref h_sixteenths, .int h_keys, .ref h_keySteps, .int h_lent, .int h_rings, .ref h_on, .ref h_onMany, .int h_doors, .ref h_wanted, .ref h_openers, .ref h_seconds, .int h_turned, .int h_roundMany, .ref h_roundDoors])), (h_wanted, .inl (cA.1 0, 5, .inl c_h_wanted))] H := hP
        have hD : va_D A [(se, .inr (7, [.ref h, .ref se_row, .int se_places, .ref se_found, .int se_foundMany, .ref se_rr, .ref se_rp, .ref se_rs, .ref se_ro, .long se_meanTop, .long se_meanBottom])), (h_openers, .inl (cA.1 0, 5, .inl c_h_openers)), (h_seconds, .inl (cA.1 0, 4, .inl c_h_seconds)), (se_row, .inl (cA.1 0, 10, .inl c_se_row)), (h, .inr (2, [.int h_features, .ref h_featureNames, .ref h_steps, .ref h_turnedFeatures, .ref h_sixteenths, .int h_keys, .ref h_keySteps, .int h_lent, .int h_rings, .ref h_on, .ref h_onMany, .int h_doors, .ref h_wanted, .ref h_openers, .ref h_seconds, .int h_turned, .int h_roundMany, .ref h_roundDoors])), (h_wanted, .inl (cA.1 0, 5, .inl c_h_wanted))] := hD
        obtain ⟨he_r_70, hw⟩ := hw
        refine lv_istore (lv' := [(5, .int r_70), (0, .ref se), (1, .int k), (2, .int j), (3, .int v_41), (4, .int v_42)]) hx hb dX7_wantedSecondsFrom_26 hl (by decide) rfl (fun ls hl => ?_)
        refine lv_iload hx hb dX7_wantedSecondsFrom_28 (lv_at hl 0 rfl) ?_
        refine lv_if_le (tgt := 56) hx hb dX7_wantedSecondsFrom_30 (by decide) (fun c_73 => ?_) (fun c_73 => ?_)
        · have b_74 := z_b5 c_73 (K := 0) (by decide +kernel)
          refine lv_iinc (v := (v_42 + 1)) (lv' := [(4, .int (v_42 + 1)), (5, .int r_70), (0, .ref se), (1, .int k), (2, .int j), (3, .int v_41)]) hx hb dX7_wantedSecondsFrom_56 hl (k := 5) rfl (z_ofi (by decide +kernel)) (by decide) rfl (fun ls hl => ?_)
          refine lv_goto (tgt := 5) hx hb dX7_wantedSecondsFrom_59 (by decide) ?_
          have hX_75 : F_Se_wantedSecondsFrom se_places h_doors c_h_wanted c_h_openers c_h_seconds c_se_row k j = F_Se_wantedSecondsFrom_L5a se_places h_doors c_h_wanted c_h_openers c_h_seconds c_se_row k j n_L5a v_41 (v_42 + 1) := by
            refine hF_L5a.trans ?_
            refine (F_Se_wantedSecondsFrom_L5a_s ..).trans ?_
            refine (if_neg c_66).trans ?_
            extract_lets -merge -useContext +onlyGivenNames w9 y9; have e9 : r_70 = w9 := he_r_70; clear_value w9; subst e9
            refine (if_pos c_73).trans ?_
            exact rfl
          have hP := hP.sub (ws' := [(se, .inr (7, [.ref h, .ref se_row, .int se_places, .ref se_found, .int se_foundMany, .ref se_rr, .ref se_rp, .ref se_rs, .ref se_ro, .long se_meanTop, .long se_meanBottom])), (h, .inr (2, [.int h_features, .ref h_featureNames, .ref h_steps, .ref h_turnedFeatures, .ref h_sixteenths, .int h_keys, .ref h_keySteps, .int h_lent, .int h_rings, .ref h_on, .ref h_onMany, .int h_doors, .ref h_wanted, .ref h_openers, .ref h_seconds, .int h_turned, .int h_roundMany, .ref h_roundDoors])), (h_wanted, .inl (cA.1 0, 5, .inl c_h_wanted)), (h_openers, .inl (cA.1 0, 5, .inl c_h_openers)), (h_seconds, .inl (cA.1 0, 4, .inl c_h_seconds)), (se_row, .inl (cA.1 0, 10, .inl c_se_row))]) [0, 4, 5, 1, 2, 3] rfl
          have hD := hD.sub (ws' := [(se, .inr (7, [.ref h, .ref se_row, .int se_places, .ref se_found, .int se_foundMany, .ref se_rr, .ref se_rp, .ref se_rs, .ref se_ro, .long se_meanTop, .long se_meanBottom])), (h, .inr (2, [.int h_features, .ref h_featureNames, .ref h_steps, .ref h_turnedFeatures, .ref h_sixteenths, .int h_keys, .ref h_keySteps, .int h_lent, .int h_rings, .ref h_on, .ref h_onMany, .int h_doors, .ref h_wanted, .ref h_openers, .ref h_seconds, .int h_turned, .int h_roundMany, .ref h_roundDoors])), (h_wanted, .inl (cA.1 0, 5, .inl c_h_wanted)), (h_openers, .inl (cA.1 0, 5, .inl c_h_openers)), (h_seconds, .inl (cA.1 0, 4, .inl c_h_seconds)), (se_row, .inl (cA.1 0, 10, .inl c_se_row))]) [0, 4, 5, 1, 2, 3] (by decide) rfl
          exact ih_65 v_41 (v_42 + 1) H locs ls (z_up hmu_hlp_63 (by omega) trivial) (z_upc hi_64 (by omega) trivial) hX_75 hP hD hS (lv_sub hl [2, 3, 4, 5, 0] rfl)
        · have b_76 := z_b6 c_73 (K := 0) (by decide +kernel)
          refine lv_aload_n hx hb dX7_wantedSecondsFrom_33 rfl (lv_at hl 1 rfl) ?_
          refine lv_iload hx hb dX7_wantedSecondsFrom_34 (lv_at hl 5 rfl) ?_
          refine z_callVi (As := [.int v_42]) (rest := []) (wr := [(h_seconds, .inl (cA.1 0, 4, .inl c_h_seconds)), (h_wanted, .inl (cA.1 0, 5, .inl c_h_wanted))]) ⟨hx, hb, hml, hown, hts⟩ hK hE hT hP hD hS hA (d_Se_someOpens l G cA se h se_row se_places se_found se_foundMany se_rr se_rp se_rs se_ro se_meanTop se_meanBottom h_features h_featureNames h_steps h_turnedFeatures h_sixteenths h_keys h_keySteps h_lent h_rings h_on h_onMany h_doors h_wanted h_openers h_seconds h_turned h_roundMany h_roundDoors c_h_openers c_se_row v_42 (by omega)) lk_RX7_80 ⟨rfl, rfl⟩ ⟨Nat.le_of_ble_eq_true rfl, Nat.le_of_ble_eq_true rfl⟩ 7 rfl rfl rfl [0, 4, 1, 3] [2, 5] rfl rfl (by decide) rfl hl.1 rfl (lv_room (Nat.le_of_ble_eq_true rfl)) dX7_wantedSecondsFrom_36 ⟨Nat.le_of_ble_eq_true rfl, Nat.le_of_ble_eq_true rfl⟩ (fun r_77 u_78 H locs hw hP hD hS => ?_)
          have hP : va_P G vwCl [(h_seconds, .inl (cA.1 0, 4, .inl c_h_seconds)), (h_wanted, .inl (cA.1 0, 5, .inl c_h_wanted)), (se, .inr (7, [.ref h, .ref se_row, .int se_places, .ref se_found, .int se_foundMany, .ref se_rr, .ref se_rp, .ref se_rs, .ref se_ro, .long se_meanTop, .long se_meanBottom])), (h, .inr (2, [.int h_features, .ref h_featureNames, .ref h_steps, .ref h_turnedFeatures, .ref h_sixteenths, .int h_keys, .ref h_keySteps, .int h_lent, .int h_rings, .ref h_on, .ref h_onMany, .int h_doors, .ref h_wanted, .ref h_openers, .ref h_seconds, .int h_turned, .int h_roundMany, .ref h_roundDoors])), (h_openers, .inl (cA.1 0, 5, .inl c_h_openers)), (se_row, .inl (cA.1 0, 10, .inl c_se_row))] H := hP
          have hD : va_D A [(h_seconds, .inl (cA.1 0, 4, .inl c_h_seconds)), (h_wanted, .inl (cA.1 0, 5, .inl c_h_wanted)), (se, .inr (7, [.ref h, .ref se_row, .int se_places, .ref se_found, .int se_foundMany, .ref se_rr, .ref se_rp, .ref se_rs, .ref se_ro, .long se_meanTop, .long se_meanBottom])), (h, .inr (2, [.int h_features, .ref h_featureNames, .ref h_steps, .ref h_turnedFeatures, .ref h_sixteenths, .int h_keys, .ref h_keySteps, .int h_lent, .int h_rings, .ref h_on, .ref h_onMany, .int h_doors, .ref h_wanted, .ref h_openers, .ref h_seconds, .int h_turned, .int h_roundMany, .ref h_roundDoors])), (h_openers, .inl (cA.1 0, 5, .inl c_h_openers)), (se_row, .inl (cA.1 0, 10, .inl c_se_row))] := hD
          obtain ⟨he_r_77, hw⟩ := hw
          have hz_r_77 := hw
          refine lv_if_eq (tgt := 56) hx hb dX7_wantedSecondsFrom_39 (by decide) (fun c_80 => ?_) (fun c_80 => ?_)
          · skip
            refine lv_iinc (v := (v_42 + 1)) (lv' := [(4, .int (v_42 + 1)), (5, .int r_70), (0, .ref se), (1, .int k), (2, .int j), (3, .int v_41)]) hx hb dX7_wantedSecondsFrom_56 hl (k := 5) rfl (z_ofi (by decide +kernel)) (by decide) rfl (fun ls hl => ?_)
            refine lv_goto (tgt := 5) hx hb dX7_wantedSecondsFrom_59 (by decide) ?_
            have hX_82 : F_Se_wantedSecondsFrom se_places h_doors c_h_wanted c_h_openers c_h_seconds c_se_row k j = F_Se_wantedSecondsFrom_L5a se_places h_doors c_h_wanted c_h_openers c_h_seconds c_se_row k j n_L5a v_41 (v_42 + 1) := by
              refine hF_L5a.trans ?_
              refine (F_Se_wantedSecondsFrom_L5a_s ..).trans ?_
              refine (if_neg c_66).trans ?_
              extract_lets -merge -useContext +onlyGivenNames w9 y9; have e9 : r_70 = w9 := he_r_70; clear_value w9; subst e9
              refine (if_neg c_73).trans ?_
              extract_lets -merge -useContext +onlyGivenNames w9 y9; have e9 : r_77 = w9 := he_r_77; clear_value w9; subst e9
              refine (if_pos c_80).trans ?_
              exact rfl
            have hP := hP.sub (ws' := [(se, .inr (7, [.ref h, .ref se_row, .int se_places, .ref se_found, .int se_foundMany, .ref se_rr, .ref se_rp, .ref se_rs, .ref se_ro, .long se_meanTop, .long se_meanBottom])), (h, .inr (2, [.int h_features, .ref h_featureNames, .ref h_steps, .ref h_turnedFeatures, .ref h_sixteenths, .int h_keys, .ref h_keySteps, .int h_lent, .int h_rings, .ref h_on, .ref h_onMany, .int h_doors, .ref h_wanted, .ref h_openers, .ref h_seconds, .int h_turned, .int h_roundMany, .ref h_roundDoors])), (h_wanted, .inl (cA.1 0, 5, .inl c_h_wanted)), (h_openers, .inl (cA.1 0, 5, .inl c_h_openers)), (h_seconds, .inl (cA.1 0, 4, .inl c_h_seconds)), (se_row, .inl (cA.1 0, 10, .inl c_se_row))]) [2, 3, 1, 4, 0, 5] rfl
            have hD := hD.sub (ws' := [(se, .inr (7, [.ref h, .ref se_row, .int se_places, .ref se_found, .int se_foundMany, .ref se_rr, .ref se_rp, .ref se_rs, .ref se_ro, .long se_meanTop, .long se_meanBottom])), (h, .inr (2, [.int h_features, .ref h_featureNames, .ref h_steps, .ref h_turnedFeatures, .ref h_sixteenths, .int h_keys, .ref h_keySteps, .int h_lent, .int h_rings, .ref h_on, .ref h_onMany, .int h_doors, .ref h_wanted, .ref h_openers, .ref h_seconds, .int h_turned, .int h_roundMany, .ref h_roundDoors])), (h_wanted, .inl (cA.1 0, 5, .inl c_h_wanted)), (h_openers, .inl (cA.1 0, 5, .inl c_h_openers)), (h_seconds, .inl (cA.1 0, 4, .inl c_h_seconds)), (se_row, .inl (cA.1 0, 10, .inl c_se_row))]) [2, 3, 1, 4, 0, 5] (by decide) rfl
            exact ih_65 v_41 (v_42 + 1) H locs ls (z_up hmu_hlp_63 (by omega) trivial) (z_upc hi_64 (by omega) trivial) hX_82 hP hD hS (lv_sub hl [2, 3, 4, 5, 0] rfl)
          · skip
            refine lv_iload_n hx hb dX7_wantedSecondsFrom_42 rfl (lv_at hl 4 rfl) ?_
            refine lv_iload hx hb dX7_wantedSecondsFrom_43 (lv_at hl 0 rfl) ?_
            refine lv_aload_n hx hb dX7_wantedSecondsFrom_45 rfl (lv_at hl 1 rfl) ?_
            refine lv_iload hx hb dX7_wantedSecondsFrom_46 (lv_at hl 5 rfl) ?_
            refine lv_iload_n hx hb dX7_wantedSecondsFrom_48 rfl (lv_at hl 2 rfl) ?_
            refine lv_iload_n hx hb dX7_wantedSecondsFrom_49 rfl (lv_at hl 3 rfl) ?_
            refine z_callVi (As := [.int v_42, .int k, .int j]) (rest := [.int r_70, .int v_41]) (wr := [(h_wanted, .inl (cA.1 0, 5, .inl c_h_wanted))]) ⟨hx, hb, hml, hown, hts⟩ hK hE hT hP hD hS hA (d_Se_secondsFrom l G cA se h se_row se_places se_found se_foundMany se_rr se_rp se_rs se_ro se_meanTop se_meanBottom h_features h_featureNames h_steps h_turnedFeatures h_sixteenths h_keys h_keySteps h_lent h_rings h_on h_onMany h_doors h_wanted h_openers h_seconds h_turned h_roundMany h_roundDoors c_h_openers c_h_seconds c_se_row v_42 k j (by omega)) lk_RX7_87 ⟨rfl, rfl⟩ ⟨Nat.le_of_ble_eq_true rfl, Nat.le_of_ble_eq_true rfl⟩ 7 rfl rfl rfl [2, 3, 4, 0, 5] [1] rfl rfl (by decide) rfl hl.1 rfl (lv_room (Nat.le_of_ble_eq_true rfl)) dX7_wantedSecondsFrom_50 ⟨Nat.le_of_ble_eq_true rfl, Nat.le_of_ble_eq_true rfl⟩ (fun r_84 u_85 H locs hw hP hD hS => ?_)
            have hP : va_P G vwCl [(h_wanted, .inl (cA.1 0, 5, .inl c_h_wanted)), (se, .inr (7, [.ref h, .ref se_row, .int se_places, .ref se_found, .int se_foundMany, .ref se_rr, .ref se_rp, .ref se_rs, .ref se_ro, .long se_meanTop, .long se_meanBottom])), (h, .inr (2, [.int h_features, .ref h_featureNames, .ref h_steps, .ref h_turnedFeatures, .ref h_sixteenths, .int h_keys, .ref h_keySteps, .int h_lent, .int h_rings, .ref h_on, .ref h_onMany, .int h_doors, .ref h_wanted, .ref h_openers, .ref h_seconds, .int h_turned, .int h_roundMany, .ref h_roundDoors])), (h_openers, .inl (cA.1 0, 5, .inl c_h_openers)), (h_seconds, .inl (cA.1 0, 4, .inl c_h_seconds)), (se_row, .inl (cA.1 0, 10, .inl c_se_row))] H := hP
            have hD : va_D A [(h_wanted, .inl (cA.1 0, 5, .inl c_h_wanted)), (se, .inr (7, [.ref h, .ref se_row, .int se_places, .ref se_found, .int se_foundMany, .ref se_rr, .ref se_rp, .ref se_rs, .ref se_ro, .long se_meanTop, .long se_meanBottom])), (h, .inr (2, [.int h_features, .ref h_featureNames, .ref h_steps, .ref h_turnedFeatures, .ref h_sixteenths, .int h_keys, .ref h_keySteps, .int h_lent, .int h_rings, .ref h_on, .ref h_onMany, .int h_doors, .ref h_wanted, .ref h_openers, .ref h_seconds, .int h_turned, .int h_roundMany, .ref h_roundDoors])), (h_openers, .inl (cA.1 0, 5, .inl c_h_openers)), (h_seconds, .inl (cA.1 0, 4, .inl c_h_seconds)), (se_row, .inl (cA.1 0, 10, .inl c_se_row))] := hD
            obtain ⟨he_r_84, hw⟩ := hw
            refine lv_imul hx hb dX7_wantedSecondsFrom_53 ?_
            refine lv_topi (fun x_87 he_x_87 => ?_)
            refine lv_iadd hx hb dX7_wantedSecondsFrom_54 ?_
            refine lv_topi (fun x_88 he_x_88 => ?_)
            refine lv_istore_n (lv' := [(3, .int x_88), (5, .int r_70), (0, .ref se), (1, .int k), (2, .int j), (4, .int v_42)]) hx hb dX7_wantedSecondsFrom_55 rfl hl (by decide) rfl (fun ls hl => ?_)
            refine lv_iinc (v := (v_42 + 1)) (lv' := [(4, .int (v_42 + 1)), (3, .int x_88), (5, .int r_70), (0, .ref se), (1, .int k), (2, .int j)]) hx hb dX7_wantedSecondsFrom_56 hl (k := 5) rfl (z_ofi (by decide +kernel)) (by decide) rfl (fun ls hl => ?_)
            refine lv_goto (tgt := 5) hx hb dX7_wantedSecondsFrom_59 (by decide) ?_
            have hX_89 : F_Se_wantedSecondsFrom se_places h_doors c_h_wanted c_h_openers c_h_seconds c_se_row k j = F_Se_wantedSecondsFrom_L5a se_places h_doors c_h_wanted c_h_openers c_h_seconds c_se_row k j n_L5a x_88 (v_42 + 1) := by
              refine hF_L5a.trans ?_
              refine (F_Se_wantedSecondsFrom_L5a_s ..).trans ?_
              refine (if_neg c_66).trans ?_
              extract_lets -merge -useContext +onlyGivenNames w9 y9; have e9 : r_70 = w9 := he_r_70; clear_value w9; subst e9
              refine (if_neg c_73).trans ?_
              extract_lets -merge -useContext +onlyGivenNames w9 y9; have e9 : r_77 = w9 := he_r_77; clear_value w9; subst e9
              refine (if_neg c_80).trans ?_
              extract_lets -merge -useContext +onlyGivenNames w9 y9; have e9 : r_84 = w9 := he_r_84; clear_value w9; subst e9
              try (extract_lets -merge -useContext +onlyGivenNames y9; have e9 : x_87 = y9 := (by first | exact he_x_87 | exact he_x_87.symm); clear_value y9; subst e9)
              try (extract_lets -merge -useContext +onlyGivenNames y9; have e9 : x_88 = y9 := (by first | exact he_x_88 | exact he_x_88.symm); clear_value y9; subst e9)
              exact rfl
            have hP := hP.sub (ws' := [(se, .inr (7, [.ref h, .ref se_row, .int se_places, .ref se_found, .int se_foundMany, .ref se_rr, .ref se_rp, .ref se_rs, .ref se_ro, .long se_meanTop, .long se_meanBottom])), (h, .inr (2, [.int h_features, .ref h_featureNames, .ref h_steps, .ref h_turnedFeatures, .ref h_sixteenths, .int h_keys, .ref h_keySteps, .int h_lent, .int h_rings, .ref h_on, .ref h_onMany, .int h_doors, .ref h_wanted, .ref h_openers, .ref h_seconds, .int h_turned, .int h_roundMany, .ref h_roundDoors])), (h_wanted, .inl (cA.1 0, 5, .inl c_h_wanted)), (h_openers, .inl (cA.1 0, 5, .inl c_h_openers)), (h_seconds, .inl (cA.1 0, 4, .inl c_h_seconds)), (se_row, .inl (cA.1 0, 10, .inl c_se_row))]) [1, 2, 0, 3, 4, 5] rfl
            have hD := hD.sub (ws' := [(se, .inr (7, [.ref h, .ref se_row, .int se_places, .ref se_found, .int se_foundMany, .ref se_rr, .ref se_rp, .ref se_rs, .ref se_ro, .long se_meanTop, .long se_meanBottom])), (h, .inr (2, [.int h_features, .ref h_featureNames, .ref h_steps, .ref h_turnedFeatures, .ref h_sixteenths, .int h_keys, .ref h_keySteps, .int h_lent, .int h_rings, .ref h_on, .ref h_onMany, .int h_doors, .ref h_wanted, .ref h_openers, .ref h_seconds, .int h_turned, .int h_roundMany, .ref h_roundDoors])), (h_wanted, .inl (cA.1 0, 5, .inl c_h_wanted)), (h_openers, .inl (cA.1 0, 5, .inl c_h_openers)), (h_seconds, .inl (cA.1 0, 4, .inl c_h_seconds)), (se_row, .inl (cA.1 0, 10, .inl c_se_row))]) [1, 2, 0, 3, 4, 5] (by decide) rfl
            exact ih_65 x_88 (v_42 + 1) H locs ls (z_up hmu_hlp_63 (by omega) trivial) (z_upc hi_64 (by omega) trivial) hX_89 hP hD hS (lv_sub hl [3, 4, 5, 1, 0] rfl)
  have hX_90 : F_Se_wantedSecondsFrom se_places h_doors c_h_wanted c_h_openers c_h_seconds c_se_row k j = F_Se_wantedSecondsFrom_L5a se_places h_doors c_h_wanted c_h_openers c_h_seconds c_se_row k j ((2147483647 - (0 : Int32).toInt).toNat + 1) (0 : Int32) (0 : Int32) := by
    refine (F_Se_wantedSecondsFrom_s ..).trans ?_
    exact rfl
  exact hlp_63 ((2147483647 - (0 : Int32).toInt).toNat + 1) 0 0 _ _ _ (Nat.lt_succ_self _) (by first | decide +kernel | omega) hX_90 hP hD hS (lv_sub hl [2, 3, 4, 1, 0] rfl)
set_option maxHeartbeats 40000000 in
set_option maxRecDepth 100000 in
theorem d_Se_canWalk (l : Launch) (G : va_G) (cA : zCA) (se : Nat) (h : Nat) (se_row : Nat) (se_places : Int32) (se_found : Nat) (se_foundMany : Int32) (se_rr : Nat) (se_rp : Nat) (se_rs : Nat) (se_ro : Nat) (se_meanTop : Int64) (se_meanBottom : Int64) (h_features : Int32) (h_featureNames : Nat) (h_steps : Nat) (h_turnedFeatures : Nat) (h_sixteenths : Nat) (h_keys : Int32) (h_keySteps : Nat) (h_lent : Int32) (h_rings : Int32) (h_on : Nat) (h_onMany : Nat) (h_doors : Int32) (h_wanted : Nat) (h_openers : Nat) (h_seconds : Nat) (h_turned : Int32) (h_roundMany : Int32) (h_roundDoors : Nat) (c_h_openers : Nat → Int32) (c_h_roundDoors : Nat → Int32) (c_se_row : Nat → Int32) (hm_h_features : 0 ≤ h_features.toInt ∧ h_features.toInt ≤ 3) : zCi l yX7_canWalk cX7_canWalk 2 (some .boolean) ({ frames := 3, cells := 0, slots := 0, locals := 67 }) G cA [.ref se] [(se, .inr (7, [.ref h, .ref se_row, .int se_places, .ref se_found, .int se_foundMany, .ref se_rr, .ref se_rp, .ref se_rs, .ref se_ro, .long se_meanTop, .long se_meanBottom])), (h, .inr (2, [.int h_features, .ref h_featureNames, .ref h_steps, .ref h_turnedFeatures, .ref h_sixteenths, .int h_keys, .ref h_keySteps, .int h_lent, .int h_rings, .ref h_on, .ref h_onMany, .int h_doors, .ref h_wanted, .ref h_openers, .ref h_seconds, .int h_turned, .int h_roundMany, .ref h_roundDoors])), (h_openers, .inl (cA.1 0, 5, .inl c_h_openers)), (h_roundDoors, .inl (cA.1 0, 12, .inl c_h_roundDoors)), (se_row, .inl (cA.1 0, 10, .inl c_se_row))] (S := Unit) (fun (r : Int32) (u : Unit) => (r = (F_Se_canWalk se_places h_doors h_roundMany c_h_openers c_h_roundDoors c_se_row)) ∧ (r = 0 ∨ r = 1)) (fun (u : Unit) => [(se, .inr (7, [.ref h, .ref se_row, .int se_places, .ref se_found, .int se_foundMany, .ref se_rr, .ref se_rp, .ref se_rs, .ref se_ro, .long se_meanTop, .long se_meanBottom])), (h, .inr (2, [.int h_features, .ref h_featureNames, .ref h_steps, .ref h_turnedFeatures, .ref h_sixteenths, .int h_keys, .ref h_keySteps, .int h_lent, .int h_rings, .ref h_on, .ref h_onMany, .int h_doors, .ref h_wanted, .ref h_openers, .ref h_seconds, .int h_turned, .int h_roundMany, .ref h_roundDoors])), (h_openers, .inl (cA.1 0, 5, .inl c_h_openers)), (h_roundDoors, .inl (cA.1 0, 12, .inl c_h_roundDoors)), (se_row, .inl (cA.1 0, 10, .inl c_se_row))]) 0 0 := by
  refine z_start2z (own := RX7) (by decide) (Nat.le_of_ble_eq_true rfl) rfl ?_
  intro p e s m args below meth c A ls Q hx hb hml hts hown hK hE hT hP hD hS hA hl hret
  have hl : lv_has ls 2 [(0, .ref se)] := hl
  refine lv_iconst (v := 0) hx hb dX7_canWalk_0 (by decide) ?_
  refine lv_istore_n (lv' := [(1, .int 0), (0, .ref se)]) hx hb dX7_canWalk_1 rfl hl (by decide) rfl (fun ls hl => ?_)
  have hlp_40 : ∀ (n_L2a : Nat) (v_24 : Int32) (H : Heap) (locs : List Loc) (ls : Array Slot), (2147483647 - v_24.toInt).toNat < n_L2a → (0 ≤ v_24.toInt) → (F_Se_canWalk se_places h_doors h_roundMany c_h_openers c_h_roundDoors c_se_row = F_Se_canWalk_L2a se_places h_doors h_roundMany c_h_openers c_h_roundDoors c_se_row n_L2a v_24) → va_P G vwCl [(se, .inr (7, [.ref h, .ref se_row, .int se_places, .ref se_found, .int se_foundMany, .ref se_rr, .ref se_rp, .ref se_rs, .ref se_ro, .long se_meanTop, .long se_meanBottom])), (h, .inr (2, [.int h_features, .ref h_featureNames, .ref h_steps, .ref h_turnedFeatures, .ref h_sixteenths, .int h_keys, .ref h_keySteps, .int h_lent, .int h_rings, .ref h_on, .ref h_onMany, .int h_doors, .ref h_wanted, .ref h_openers, .ref h_seconds, .int h_turned, .int h_roundMany, .ref h_roundDoors])), (h_openers, .inl (cA.1 0, 5, .inl c_h_openers)), (h_roundDoors, .inl (cA.1 0, 12, .inl c_h_roundDoors)), (se_row, .inl (cA.1 0, 10, .inl c_se_row))] H → va_D A [(se, .inr (7, [.ref h, .ref se_row, .int se_places, .ref se_found, .int se_foundMany, .ref se_rr, .ref se_rp, .ref se_rs, .ref se_ro, .long se_meanTop, .long se_meanBottom])), (h, .inr (2, [.int h_features, .ref h_featureNames, .ref h_steps, .ref h_turnedFeatures, .ref h_sixteenths, .int h_keys, .ref h_keySteps, .int h_lent, .int h_rings, .ref h_on, .ref h_onMany, .int h_doors, .ref h_wanted, .ref h_openers, .ref h_seconds, .int h_turned, .int h_roundMany, .ref h_roundDoors])), (h_openers, .inl (cA.1 0, 5, .inl c_h_openers)), (h_roundDoors, .inl (cA.1 0, 12, .inl c_h_roundDoors)), (se_row, .inl (cA.1 0, 10, .inl c_se_row))] → va_S A s.heap H locs → lv_has ls 2 [(0, .ref se), (1, .int v_24)] → W p l e ({ frames := 3, cells := 0, slots := 0, locals := 67 }) s m args below meth c H locs 0 0 Q (F0 m 2 ls []) := by
    intro n_L2a
    induction n_L2a with
    | zero =>
      intro v_24 H locs ls hmu_hlp_40 hi_41 hF_L2a hP hD hS hl
      exact absurd hmu_hlp_40 (Nat.not_lt_zero _)
    | succ n_L2a ih_42 =>
      intro v_24 H locs ls hmu_hlp_40 hi_41 hF_L2a hP hD hS hl
      refine lv_iload_n hx hb dX7_canWalk_2 rfl (lv_at hl 1 rfl) ?_
      refine lv_aload_n hx hb dX7_canWalk_3 rfl (lv_at hl 0 rfl) ?_
      refine va_get (D := G) (ci := 7) (v := .ref h) (C := RX7) (T := TX7) (N := 11) hx hb hts inT7 hown hK hP 0 rfl rfl 0 (by decide) (hts _ tw_479) (fun _ h9 => h9) rfl dX7_canWalk_4 ?_
      refine va_get (D := G) (ci := 2) (v := .int h_roundMany) (C := RX2) (T := TX2) (N := 18) hx hb hts inT2 hown hK hP 1 rfl rfl 16 (by decide) (hts _ tw_298) (fun _ h9 => h9) rfl dX7_canWalk_7 ?_
      refine lv_icmp_ge (tgt := 39) hx hb dX7_canWalk_10 (by decide) (fun c_43 => ?_) (fun c_43 => ?_)
      · have b_44 := z_s1 c_43
        refine lv_aload_n hx hb dX7_canWalk_39 rfl (lv_at hl 0 rfl) ?_
        refine va_get (D := G) (ci := 7) (v := .ref h) (C := RX7) (T := TX7) (N := 11) hx hb hts inT7 hown hK hP 0 rfl rfl 0 (by decide) (hts _ tw_479) (fun _ h9 => h9) rfl dX7_canWalk_40 ?_
        refine va_get (D := G) (ci := 2) (v := .int h_roundMany) (C := RX2) (T := TX2) (N := 18) hx hb hts inT2 hown hK hP 1 rfl rfl 16 (by decide) (hts _ tw_298) (fun _ h9 => h9) rfl dX7_canWalk_43 ?_
        refine lv_if_le (tgt := 53) hx hb dX7_canWalk_46 (by decide) (fun c_45 => ?_) (fun c_45 => ?_)
        · have b_46 := z_b5 c_45 (K := 0) (by decide +kernel)
          refine lv_iconst (v := 0) hx hb dX7_canWalk_53 (by decide) ?_
          have hX_47 : F_Se_canWalk se_places h_doors h_roundMany c_h_openers c_h_roundDoors c_se_row = ((0 : Int32) : Int32) := by
            refine hF_L2a.trans ?_
            refine (F_Se_canWalk_L2a_s ..).trans ?_
            refine (if_pos c_43).trans ?_
            refine (if_pos c_45).trans ?_
            exact rfl
          exact hret _ _ _ _ _ _ () [0, 1, 2, 3, 4] hP hD hS rfl (by decide) dX7_canWalk_54 (Or.inl rfl) ⟨(congrArg (fun z9 => z9) hX_47).symm, (Or.inl rfl)⟩
        · have b_48 := z_b6 c_45 (K := 0) (by decide +kernel)
          refine lv_iconst (v := 1) hx hb dX7_canWalk_49 (by decide) ?_
          refine lv_goto (tgt := 54) hx hb dX7_canWalk_50 (by decide) ?_
          have hX_49 : F_Se_canWalk se_places h_doors h_roundMany c_h_openers c_h_roundDoors c_se_row = ((1 : Int32) : Int32) := by
            refine hF_L2a.trans ?_
            refine (F_Se_canWalk_L2a_s ..).trans ?_
            refine (if_pos c_43).trans ?_
            refine (if_neg c_45).trans ?_
            exact rfl
          exact hret _ _ _ _ _ _ () [0, 1, 2, 3, 4] hP hD hS rfl (by decide) dX7_canWalk_54 (Or.inr rfl) ⟨(congrArg (fun z9 => z9) hX_49).symm, (Or.inr rfl)⟩
      · have b_50 := z_t2 c_43
        refine lv_aload_n hx hb dX7_canWalk_13 rfl (lv_at hl 0 rfl) ?_
        refine lv_aload_n hx hb dX7_canWalk_14 rfl (lv_at hl 0 rfl) ?_
        refine va_get (D := G) (ci := 7) (v := .ref h) (C := RX7) (T := TX7) (N := 11) hx hb hts inT7 hown hK hP 0 rfl rfl 0 (by decide) (hts _ tw_479) (fun _ h9 => h9) rfl dX7_canWalk_15 ?_
        refine va_getN (D := G) (ci := 2) (v := .ref h_roundDoors) (C := RX2) (T := TX2) (N := 18) hx hb hts inT2 hown hK hP 1 rfl rfl 17 (by decide) (va_Nw.use rfl (hE.1 _ tw_302)) (fun _ h9 => h9) rfl dX7_canWalk_18 ?_
        refine lv_iload_n hx hb dX7_canWalk_21 rfl (lv_at hl 1 rfl) ?_
        refine z_callSNi (As := [.ref h_roundDoors, .int v_24]) (rest := [.ref se]) (wr := [(se, .inr (7, [.ref h, .ref se_row, .int se_places, .ref se_found, .int se_foundMany, .ref se_rr, .ref se_rp, .ref se_rs, .ref se_ro, .long se_meanTop, .long se_meanBottom])), (h, .inr (2, [.int h_features, .ref h_featureNames, .ref h_steps, .ref h_turnedFeatures, .ref h_sixteenths, .int h_keys, .ref h_keySteps, .int h_lent, .int h_rings, .ref h_on, .ref h_onMany, .int h_doors, .ref h_wanted, .ref h_openers, .ref h_seconds, .int h_turned, .int h_roundMany, .ref h_roundDoors])), (h_openers, .inl (cA.1 0, 5, .inl c_h_openers)), (se_row, .inl (cA.1 0, 10, .inl c_se_row))]) ⟨hx, hb, hml, hown, hts⟩ hK hE hT hP hD hS hA (d_at_12 l G cA h_roundDoors c_h_roundDoors v_24) lk_RX7_55 ⟨rfl, rfl⟩ ⟨Nat.le_of_ble_eq_true rfl, Nat.le_of_ble_eq_true rfl⟩ [3] [0, 1, 2, 4] rfl rfl (by decide) rfl hl.1 rfl (lv_room (Nat.le_of_ble_eq_true rfl)) dX7_canWalk_22 ⟨Nat.le_of_ble_eq_true rfl, Nat.le_of_ble_eq_true rfl⟩ (fun r_51 u_52 H locs hw hP hD hS => ?_)
        have hP : va_P G vwCl [(se, .inr (7, [.ref h, .ref se_row, .int se_places, .ref se_found, .int se_foundMany, .ref se_rr, .ref se_rp, .ref se_rs, .ref se_ro, .long se_meanTop, .long se_meanBottom])), (h, .inr (2, [.int h_features, .ref h_featureNames, .ref h_steps, .ref h_turnedFeatures, .ref h_sixteenths, .int h_keys, .ref h_keySteps, .int h_lent, .int h_rings, .ref h_on, .ref h_onMany, .int h_doors, .ref h_wanted, .ref h_openers, .ref h_seconds, .int h_turned, .int h_roundMany, .ref h_roundDoors])), (h_openers, .inl (cA.1 0, 5, .inl c_h_openers)), (se_row, .inl (cA.1 0, 10, .inl c_se_row)), (h_roundDoors, .inl (cA.1 0, 12, .inl c_h_roundDoors))] H := hP
        have hD : va_D A [(se, .inr (7, [.ref h, .ref se_row, .int se_places, .ref se_found, .int se_foundMany, .ref se_rr, .ref se_rp, .ref se_rs, .ref se_ro, .long se_meanTop, .long se_meanBottom])), (h, .inr (2, [.int h_features, .ref h_featureNames, .ref h_steps, .ref h_turnedFeatures, .ref h_sixteenths, .int h_keys, .ref h_keySteps, .int h_lent, .int h_rings, .ref h_on, .ref h_onMany, .int h_doors, .ref h_wanted, .ref h_openers, .ref h_seconds, .int h_turned, .int h_roundMany, .ref h_roundDoors])), (h_openers, .inl (cA.1 0, 5, .inl c_h_openers)), (se_row, .inl (cA.1 0, 10, .inl c_se_row)), (h_roundDoors, .inl (cA.1 0, 12, .inl c_h_roundDoors))] := hD
        obtain ⟨he_r_51, hw⟩ := hw
        refine z_callVi (As := [.int r_51]) (rest := []) (wr := [(h_roundDoors, .inl (cA.1 0, 12, .inl c_h_roundDoors))]) ⟨hx, hb, hml, hown, hts⟩ hK hE hT hP hD hS hA (d_Se_someOpens l G cA se h se_row se_places se_found se_foundMany se_rr se_rp se_rs se_ro se_meanTop se_meanBottom h_features h_featureNames h_steps h_turnedFeatures h_sixteenths h_keys h_keySteps h_lent h_rings h_on h_onMany h_doors h_wanted h_openers h_seconds h_turned h_roundMany h_roundDoors c_h_openers c_se_row r_51 (by omega)) lk_RX7_80 ⟨rfl, rfl⟩ ⟨Nat.le_of_ble_eq_true rfl, Nat.le_of_ble_eq_true rfl⟩ 7 rfl rfl rfl [0, 1, 2, 3] [4] rfl rfl (by decide) rfl hl.1 rfl (lv_room (Nat.le_of_ble_eq_true rfl)) dX7_canWalk_25 ⟨Nat.le_of_ble_eq_true rfl, Nat.le_of_ble_eq_true rfl⟩ (fun r_54 u_55 H locs hw hP hD hS => ?_)
        have hP : va_P G vwCl [(h_roundDoors, .inl (cA.1 0, 12, .inl c_h_roundDoors)), (se, .inr (7, [.ref h, .ref se_row, .int se_places, .ref se_found, .int se_foundMany, .ref se_rr, .ref se_rp, .ref se_rs, .ref se_ro, .long se_meanTop, .long se_meanBottom])), (h, .inr (2, [.int h_features, .ref h_featureNames, .ref h_steps, .ref h_turnedFeatures, .ref h_sixteenths, .int h_keys, .ref h_keySteps, .int h_lent, .int h_rings, .ref h_on, .ref h_onMany, .int h_doors, .ref h_wanted, .ref h_openers, .ref h_seconds, .int h_turned, .int h_roundMany, .ref h_roundDoors])), (h_openers, .inl (cA.1 0, 5, .inl c_h_openers)), (se_row, .inl (cA.1 0, 10, .inl c_se_row))] H := hP
        have hD : va_D A [(h_roundDoors, .inl (cA.1 0, 12, .inl c_h_roundDoors)), (se, .inr (7, [.ref h, .ref se_row, .int se_places, .ref se_found, .int se_foundMany, .ref se_rr, .ref se_rp, .ref se_rs, .ref se_ro, .long se_meanTop, .long se_meanBottom])), (h, .inr (2, [.int h_features, .ref h_featureNames, .ref h_steps, .ref h_turnedFeatures, .ref h_sixteenths, .int h_keys, .ref h_keySteps, .int h_lent, .int h_rings, .ref h_on, .ref h_onMany, .int h_doors, .ref h_wanted, .ref h_openers, .ref h_seconds, .int h_turned, .int h_roundMany, .ref h_roundDoors])), (h_openers, .inl (cA.1 0, 5, .inl c_h_openers)), (se_row, .inl (cA.1 0, 10, .inl c_se_row))] := hD
        obtain ⟨he_r_54, hw⟩ := hw
        have hz_r_54 := hw
        refine lv_if_ne (tgt := 33) hx hb dX7_canWalk_28 (by decide) (fun c_57 => ?_) (fun c_57 => ?_)
        · skip
          refine lv_iinc (v := (v_24 + 1)) (lv' := [(1, .int (v_24 + 1)), (0, .ref se)]) hx hb dX7_canWalk_33 hl (k := 1) rfl (z_ofi (by decide +kernel)) (by decide) rfl (fun ls hl => ?_)
          refine lv_goto (tgt := 2) hx hb dX7_canWalk_36 (by decide) ?_
          have hX_59 : F_Se_canWalk se_places h_doors h_roundMany c_h_openers c_h_roundDoors c_se_row = F_Se_canWalk_L2a se_places h_doors h_roundMany c_h_openers c_h_roundDoors c_se_row n_L2a (v_24 + 1) := by
            refine hF_L2a.trans ?_
            refine (F_Se_canWalk_L2a_s ..).trans ?_
            refine (if_neg c_43).trans ?_
            extract_lets -merge -useContext +onlyGivenNames w9 y9; have e9 : r_51 = w9 := he_r_51; clear_value w9; subst e9
            extract_lets -merge -useContext +onlyGivenNames w9 y9; have e9 : r_54 = w9 := he_r_54; clear_value w9; subst e9
            refine (if_neg c_57).trans ?_
            exact rfl
          have hP := hP.sub (ws' := [(se, .inr (7, [.ref h, .ref se_row, .int se_places, .ref se_found, .int se_foundMany, .ref se_rr, .ref se_rp, .ref se_rs, .ref se_ro, .long se_meanTop, .long se_meanBottom])), (h, .inr (2, [.int h_features, .ref h_featureNames, .ref h_steps, .ref h_turnedFeatures, .ref h_sixteenths, .int h_keys, .ref h_keySteps, .int h_lent, .int h_rings, .ref h_on, .ref h_onMany, .int h_doors, .ref h_wanted, .ref h_openers, .ref h_seconds, .int h_turned, .int h_roundMany, .ref h_roundDoors])), (h_openers, .inl (cA.1 0, 5, .inl c_h_openers)), (h_roundDoors, .inl (cA.1 0, 12, .inl c_h_roundDoors)), (se_row, .inl (cA.1 0, 10, .inl c_se_row))]) [1, 2, 3, 0, 4] rfl
          have hD := hD.sub (ws' := [(se, .inr (7, [.ref h, .ref se_row, .int se_places, .ref se_found, .int se_foundMany, .ref se_rr, .ref se_rp, .ref se_rs, .ref se_ro, .long se_meanTop, .long se_meanBottom])), (h, .inr (2, [.int h_features, .ref h_featureNames, .ref h_steps, .ref h_turnedFeatures, .ref h_sixteenths, .int h_keys, .ref h_keySteps, .int h_lent, .int h_rings, .ref h_on, .ref h_onMany, .int h_doors, .ref h_wanted, .ref h_openers, .ref h_seconds, .int h_turned, .int h_roundMany, .ref h_roundDoors])), (h_openers, .inl (cA.1 0, 5, .inl c_h_openers)), (h_roundDoors, .inl (cA.1 0, 12, .inl c_h_roundDoors)), (se_row, .inl (cA.1 0, 10, .inl c_se_row))]) [1, 2, 3, 0, 4] (by decide) rfl
          exact ih_42 (v_24 + 1) H locs ls (z_up hmu_hlp_40 (by omega) trivial) (z_upc hi_41 (by omega) trivial) hX_59 hP hD hS (lv_sub hl [1, 0] rfl)
        · skip
          refine lv_iconst (v := 0) hx hb dX7_canWalk_31 (by decide) ?_
          have hX_61 : F_Se_canWalk se_places h_doors h_roundMany c_h_openers c_h_roundDoors c_se_row = ((0 : Int32) : Int32) := by
            refine hF_L2a.trans ?_
            refine (F_Se_canWalk_L2a_s ..).trans ?_
            refine (if_neg c_43).trans ?_
            extract_lets -merge -useContext +onlyGivenNames w9 y9; have e9 : r_51 = w9 := he_r_51; clear_value w9; subst e9
            extract_lets -merge -useContext +onlyGivenNames w9 y9; have e9 : r_54 = w9 := he_r_54; clear_value w9; subst e9
            refine (if_pos c_57).trans ?_
            exact rfl
          exact hret _ _ _ _ _ _ () [1, 2, 3, 0, 4] hP hD hS rfl (by decide) dX7_canWalk_32 (Or.inl rfl) ⟨(congrArg (fun z9 => z9) hX_61).symm, (Or.inl rfl)⟩
  have hX_62 : F_Se_canWalk se_places h_doors h_roundMany c_h_openers c_h_roundDoors c_se_row = F_Se_canWalk_L2a se_places h_doors h_roundMany c_h_openers c_h_roundDoors c_se_row ((2147483647 - (0 : Int32).toInt).toNat + 1) (0 : Int32) := by
    refine (F_Se_canWalk_s ..).trans ?_
    exact rfl
  exact hlp_40 ((2147483647 - (0 : Int32).toInt).toNat + 1) 0 _ _ _ (Nat.lt_succ_self _) (by first | decide +kernel | omega) hX_62 hP hD hS (lv_sub hl [1, 0] rfl)
set_option maxHeartbeats 40000000 in
set_option maxRecDepth 100000 in
theorem d_Se_stepsOnToNearest (l : Launch) (G : va_G) (cA : zCA) (se : Nat) (h : Nat) (se_row : Nat) (se_places : Int32) (se_found : Nat) (se_foundMany : Int32) (se_rr : Nat) (se_rp : Nat) (se_rs : Nat) (se_ro : Nat) (se_meanTop : Int64) (se_meanBottom : Int64) (h_features : Int32) (h_featureNames : Nat) (h_steps : Nat) (h_turnedFeatures : Nat) (h_sixteenths : Nat) (h_keys : Int32) (h_keySteps : Nat) (h_lent : Int32) (h_rings : Int32) (h_on : Nat) (h_onMany : Nat) (h_doors : Int32) (h_wanted : Nat) (h_openers : Nat) (h_seconds : Nat) (h_turned : Int32) (h_roundMany : Int32) (h_roundDoors : Nat) (c_h_openers : Nat → Int32) (c_se_row : Nat → Int32) (k : Int32) (j : Int32) (hm_h_features : 0 ≤ h_features.toInt ∧ h_features.toInt ≤ 3) : zCi l yX7_stepsOnToNearest cX7_stepsOnToNearest 8 (some .int) ({ frames := 2, cells := 0, slots := 0, locals := 44 }) G cA [.ref se, .int k, .int j] [(se, .inr (7, [.ref h, .ref se_row, .int se_places, .ref se_found, .int se_foundMany, .ref se_rr, .ref se_rp, .ref se_rs, .ref se_ro, .long se_meanTop, .long se_meanBottom])), (h, .inr (2, [.int h_features, .ref h_featureNames, .ref h_steps, .ref h_turnedFeatures, .ref h_sixteenths, .int h_keys, .ref h_keySteps, .int h_lent, .int h_rings, .ref h_on, .ref h_onMany, .int h_doors, .ref h_wanted, .ref h_openers, .ref h_seconds, .int h_turned, .int h_roundMany, .ref h_roundDoors])), (h_openers, .inl (cA.1 0, 5, .inl c_h_openers)), (se_row, .inl (cA.1 0, 10, .inl c_se_row))] (S := Unit) (fun (r : Int32) (u : Unit) => (r = (F_Se_stepsOnToNearest se_places h_doors c_h_openers c_se_row k j)) ∧ (True)) (fun (u : Unit) => [(se, .inr (7, [.ref h, .ref se_row, .int se_places, .ref se_found, .int se_foundMany, .ref se_rr, .ref se_rp, .ref se_rs, .ref se_ro, .long se_meanTop, .long se_meanBottom])), (h, .inr (2, [.int h_features, .ref h_featureNames, .ref h_steps, .ref h_turnedFeatures, .ref h_sixteenths, .int h_keys, .ref h_keySteps, .int h_lent, .int h_rings, .ref h_on, .ref h_onMany, .int h_doors, .ref h_wanted, .ref h_openers, .ref h_seconds, .int h_turned, .int h_roundMany, .ref h_roundDoors])), (h_openers, .inl (cA.1 0, 5, .inl c_h_openers)), (se_row, .inl (cA.1 0, 10, .inl c_se_row))]) 0 0 := by
  refine z_start2i (own := RX7) (by decide) (Nat.le_of_ble_eq_true rfl) rfl ?_
  intro p e s m args below meth c A ls Q hx hb hml hts hown hK hE hT hP hD hS hA hl hret
  have hl : lv_has ls 8 [(0, .ref se), (1, .int k), (2, .int j)] := hl
  refine lv_aload_n hx hb dX7_stepsOnToNearest_0 rfl (lv_at hl 0 rfl) ?_
  refine va_get (D := G) (ci := 7) (v := .ref h) (C := RX7) (T := TX7) (N := 11) hx hb hts inT7 hown hK hP 0 rfl rfl 0 (by decide) (hts _ tw_479) (fun _ h9 => h9) rfl dX7_stepsOnToNearest_1 ?_
  refine lv_iload_n hx hb dX7_stepsOnToNearest_4 rfl (lv_at hl 2 rfl) ?_
  refine z_callVi (As := [.int j]) (rest := []) (wr := [(se, .inr (7, [.ref h, .ref se_row, .int se_places, .ref se_found, .int se_foundMany, .ref se_rr, .ref se_rp, .ref se_rs, .ref se_ro, .long se_meanTop, .long se_meanBottom])), (se_row, .inl (cA.1 0, 10, .inl c_se_row))]) ⟨hx, hb, hml, hown, hts⟩ hK hE hT hP hD hS hA (d_H_openersOf l G cA h h_features h_featureNames h_steps h_turnedFeatures h_sixteenths h_keys h_keySteps h_lent h_rings h_on h_onMany h_doors h_wanted h_openers h_seconds h_turned h_roundMany h_roundDoors c_h_openers j (by omega)) lk_RX7_59 ⟨rfl, rfl⟩ ⟨Nat.le_of_ble_eq_true rfl, Nat.le_of_ble_eq_true rfl⟩ 2 rfl rfl rfl [1, 2] [0, 3] rfl rfl (by decide) rfl hl.1 rfl (lv_room (Nat.le_of_ble_eq_true rfl)) dX7_stepsOnToNearest_5 ⟨Nat.le_of_ble_eq_true rfl, Nat.le_of_ble_eq_true rfl⟩ (fun r_1 u_2 H locs hw hP hD hS => ?_)
  have hP : va_P G vwCl [(se, .inr (7, [.ref h, .ref se_row, .int se_places, .ref se_found, .int se_foundMany, .ref se_rr, .ref se_rp, .ref se_rs, .ref se_ro, .long se_meanTop, .long se_meanBottom])), (se_row, .inl (cA.1 0, 10, .inl c_se_row)), (h, .inr (2, [.int h_features, .ref h_featureNames, .ref h_steps, .ref h_turnedFeatures, .ref h_sixteenths, .int h_keys, .ref h_keySteps, .int h_lent, .int h_rings, .ref h_on, .ref h_onMany, .int h_doors, .ref h_wanted, .ref h_openers, .ref h_seconds, .int h_turned, .int h_roundMany, .ref h_roundDoors])), (h_openers, .inl (cA.1 0, 5, .inl c_h_openers))] H := hP
  have hD : va_D A [(se, .inr (7, [.ref h, .ref se_row, .int se_places, .ref se_found, .int se_foundMany, .ref se_rr, .ref se_rp, .ref se_rs, .ref se_ro, .long se_meanTop, .long se_meanBottom])), (se_row, .inl (cA.1 0, 10, .inl c_se_row)), (h, .inr (2, [.int h_features, .ref h_featureNames, .ref h_steps, .ref h_turnedFeatures, .ref h_sixteenths, .int h_keys, .ref h_keySteps, .int h_lent, .int h_rings, .ref h_on, .ref h_onMany, .int h_doors, .ref h_wanted, .ref h_openers, .ref h_seconds, .int h_turned, .int h_roundMany, .ref h_roundDoors])), (h_openers, .inl (cA.1 0, 5, .inl c_h_openers))] := hD
  obtain ⟨he_r_1, hw⟩ := hw
  refine lv_istore_n (lv' := [(3, .int r_1), (0, .ref se), (1, .int k), (2, .int j)]) hx hb dX7_stepsOnToNearest_8 rfl hl (by decide) rfl (fun ls hl => ?_)
  refine lv_iconst (v := 0) hx hb dX7_stepsOnToNearest_9 (by decide) ?_
  refine lv_istore (lv' := [(4, .int 0), (3, .int r_1), (0, .ref se), (1, .int k), (2, .int j)]) hx hb dX7_stepsOnToNearest_10 hl (by decide) rfl (fun ls hl => ?_)
  refine lv_aload_n hx hb dX7_stepsOnToNearest_12 rfl (lv_at hl 2 rfl) ?_
  refine va_get (D := G) (ci := 7) (v := .int se_places) (C := RX7) (T := TX7) (N := 11) hx hb hts inT7 hown hK hP 0 rfl rfl 2 (by decide) (hts _ tw_481) (fun _ h9 => h9) rfl dX7_stepsOnToNearest_13 ?_
  refine lv_istore (lv' := [(5, .int se_places), (4, .int 0), (3, .int r_1), (0, .ref se), (1, .int k), (2, .int j)]) hx hb dX7_stepsOnToNearest_16 hl (by decide) rfl (fun ls hl => ?_)
  refine lv_iconst (v := 0) hx hb dX7_stepsOnToNearest_18 (by decide) ?_
  refine lv_istore (lv' := [(6, .int 0), (5, .int se_places), (4, .int 0), (3, .int r_1), (0, .ref se), (1, .int k), (2, .int j)]) hx hb dX7_stepsOnToNearest_19 hl (by decide) rfl (fun ls hl => ?_)
  have hlp_88 : ∀ (n_L21a : Nat) (v_65 : Int32) (v_66 : Int32) (v_67 : Int32) (H : Heap) (locs : List Loc) (ls : Array Slot), (2147483647 - v_67.toInt).toNat < n_L21a → (0 ≤ v_67.toInt) → (F_Se_stepsOnToNearest se_places h_doors c_h_openers c_se_row k j = F_Se_stepsOnToNearest_L21a se_places c_se_row k r_1 n_L21a v_65 v_66 v_67) → va_P G vwCl [(se, .inr (7, [.ref h, .ref se_row, .int se_places, .ref se_found, .int se_foundMany, .ref se_rr, .ref se_rp, .ref se_rs, .ref se_ro, .long se_meanTop, .long se_meanBottom])), (se_row, .inl (cA.1 0, 10, .inl c_se_row)), (h, .inr (2, [.int h_features, .ref h_featureNames, .ref h_steps, .ref h_turnedFeatures, .ref h_sixteenths, .int h_keys, .ref h_keySteps, .int h_lent, .int h_rings, .ref h_on, .ref h_onMany, .int h_doors, .ref h_wanted, .ref h_openers, .ref h_seconds, .int h_turned, .int h_roundMany, .ref h_roundDoors])), (h_openers, .inl (cA.1 0, 5, .inl c_h_openers))] H → va_D A [(se, .inr (7, [.ref h, .ref se_row, .int se_places, .ref se_found, .int se_foundMany, .ref se_rr, .ref se_rp, .ref se_rs, .ref se_ro, .long se_meanTop, .long se_meanBottom])), (se_row, .inl (cA.1 0, 10, .inl c_se_row)), (h, .inr (2, [.int h_features, .ref h_featureNames, .ref h_steps, .ref h_turnedFeatures, .ref h_sixteenths, .int h_keys, .ref h_keySteps, .int h_lent, .int h_rings, .ref h_on, .ref h_onMany, .int h_doors, .ref h_wanted, .ref h_openers, .ref h_seconds, .int h_turned, .int h_roundMany, .ref h_roundDoors])), (h_openers, .inl (cA.1 0, 5, .inl c_h_openers))] → va_S A s.heap H locs → lv_has ls 8 [(0, .ref se), (1, .int k), (2, .int j), (3, .int r_1), (4, .int v_65), (5, .int v_66), (6, .int v_67)] → W p l e ({ frames := 2, cells := 0, slots := 0, locals := 44 }) s m args below meth c H locs 0 0 Q (F0 m 21 ls []) := by
    intro n_L21a
    induction n_L21a with
    | zero =>
      intro v_65 v_66 v_67 H locs ls hmu_hlp_88 hi_89 hF_L21a hP hD hS hl
      exact absurd hmu_hlp_88 (Nat.not_lt_zero _)
    | succ n_L21a ih_90 =>
      intro v_65 v_66 v_67 H locs ls hmu_hlp_88 hi_89 hF_L21a hP hD hS hl
      refine lv_iload hx hb dX7_stepsOnToNearest_21 (lv_at hl 6 rfl) ?_
      refine lv_aload_n hx hb dX7_stepsOnToNearest_23 rfl (lv_at hl 0 rfl) ?_
      refine va_get (D := G) (ci := 7) (v := .int se_places) (C := RX7) (T := TX7) (N := 11) hx hb hts inT7 hown hK hP 0 rfl rfl 2 (by decide) (hts _ tw_481) (fun _ h9 => h9) rfl dX7_stepsOnToNearest_24 ?_
      refine lv_icmp_ge (tgt := 84) hx hb dX7_stepsOnToNearest_27 (by decide) (fun c_91 => ?_) (fun c_91 => ?_)
      · have b_92 := z_s1 c_91
        refine lv_iload hx hb dX7_stepsOnToNearest_84 (lv_at hl 4 rfl) ?_
        have hX_93 : F_Se_stepsOnToNearest se_places h_doors c_h_openers c_se_row k j = (v_65 : Int32) := by
          refine hF_L21a.trans ?_
          refine (F_Se_stepsOnToNearest_L21a_s ..).trans ?_
          refine (if_pos c_91).trans ?_
          exact rfl
        exact hret _ _ _ _ _ _ () [0, 2, 3, 1] hP hD hS rfl (by decide) dX7_stepsOnToNearest_86 ⟨(congrArg (fun z9 => z9) hX_93).symm, trivial⟩
      · have b_94 := z_t2 c_91
        refine lv_iload hx hb dX7_stepsOnToNearest_30 (lv_at hl 6 rfl) ?_
        refine lv_aload_n hx hb dX7_stepsOnToNearest_32 rfl (lv_at hl 0 rfl) ?_
        refine va_get (D := G) (ci := 7) (v := .int se_places) (C := RX7) (T := TX7) (N := 11) hx hb hts inT7 hown hK hP 0 rfl rfl 2 (by decide) (hts _ tw_481) (fun _ h9 => h9) rfl dX7_stepsOnToNearest_33 ?_
        refine lv_iload hx hb dX7_stepsOnToNearest_36 (lv_at hl 6 rfl) ?_
        refine lv_isub hx hb dX7_stepsOnToNearest_38 ?_
        refine lv_topi (fun x_95 he_x_95 => ?_)
        refine z_callSi (As := [.int v_67, .int x_95]) (rest := []) (wr := [(se, .inr (7, [.ref h, .ref se_row, .int se_places, .ref se_found, .int se_foundMany, .ref se_rr, .ref se_rp, .ref se_rs, .ref se_ro, .long se_meanTop, .long se_meanBottom])), (se_row, .inl (cA.1 0, 10, .inl c_se_row)), (h, .inr (2, [.int h_features, .ref h_featureNames, .ref h_steps, .ref h_turnedFeatures, .ref h_sixteenths, .int h_keys, .ref h_keySteps, .int h_lent, .int h_rings, .ref h_on, .ref h_onMany, .int h_doors, .ref h_wanted, .ref h_openers, .ref h_seconds, .int h_turned, .int h_roundMany, .ref h_roundDoors])), (h_openers, .inl (cA.1 0, 5, .inl c_h_openers))]) ⟨hx, hb, hml, hown, hts⟩ hK hE hT hP hD hS hA (d_ja_min l G cA v_67 x_95) lk_RX7_103 ⟨rfl, rfl⟩ ⟨Nat.le_of_ble_eq_true rfl, Nat.le_of_ble_eq_true rfl⟩ [] [0, 1, 2, 3] rfl rfl (by decide) rfl hl.1 rfl (lv_room (Nat.le_of_ble_eq_true rfl)) dX7_stepsOnToNearest_39 ⟨Nat.le_of_ble_eq_true rfl, Nat.le_of_ble_eq_true rfl⟩ (fun r_96 u_97 H locs hw hP hD hS => ?_)
        have hP : va_P G vwCl [(se, .inr (7, [.ref h, .ref se_row, .int se_places, .ref se_found, .int se_foundMany, .ref se_rr, .ref se_rp, .ref se_rs, .ref se_ro, .long se_meanTop, .long se_meanBottom])), (se_row, .inl (cA.1 0, 10, .inl c_se_row)), (h, .inr (2, [.int h_features, .ref h_featureNames, .ref h_steps, .ref h_turnedFeatures, .ref h_sixteenths, .int h_keys, .ref h_keySteps, .int h_lent, .int h_rings, .ref h_on, .ref h_onMany, .int h_doors, .ref h_wanted, .ref h_openers, .ref h_seconds, .int h_turned, .int h_roundMany, .ref h_roundDoors])), (h_openers, .inl (cA.1 0, 5, .inl c_h_openers))] H := hP
        have hD : va_D A [(se, .inr (7, [.ref h, .ref se_row, .int se_places, .ref se_found, .int se_foundMany, .ref se_rr, .ref se_rp, .ref se_rs, .ref se_ro, .long se_meanTop, .long se_meanBottom])), (se_row, .inl (cA.1 0, 10, .inl c_se_row)), (h, .inr (2, [.int h_features, .ref h_featureNames, .ref h_steps, .ref h_turnedFeatures, .ref h_sixteenths, .int h_keys, .ref h_keySteps, .int h_lent, .int h_rings, .ref h_on, .ref h_onMany, .int h_doors, .ref h_wanted, .ref h_openers, .ref h_seconds, .int h_turned, .int h_roundMany, .ref h_roundDoors])), (h_openers, .inl (cA.1 0, 5, .inl c_h_openers))] := hD
        obtain ⟨he_r_96, hw⟩ := hw
        have hx_r_96 := hw
        refine lv_istore (lv' := [(7, .int r_96), (0, .ref se), (1, .int k), (2, .int j), (3, .int r_1), (4, .int v_65), (5, .int v_66), (6, .int v_67)]) hx hb dX7_stepsOnToNearest_42 hl (by decide) rfl (fun ls hl => ?_)
        refine lv_iload hx hb dX7_stepsOnToNearest_44 (lv_at hl 0 rfl) ?_
        refine lv_iload hx hb dX7_stepsOnToNearest_46 (lv_at hl 6 rfl) ?_
        refine lv_icmp_ge (tgt := 78) hx hb dX7_stepsOnToNearest_48 (by decide) (fun c_99 => ?_) (fun c_99 => ?_)
        · have b_100 := z_s1 c_99
          refine lv_iinc (v := (v_67 + 1)) (lv' := [(6, .int (v_67 + 1)), (7, .int r_96), (0, .ref se), (1, .int k), (2, .int j), (3, .int r_1), (4, .int v_65), (5, .int v_66)]) hx hb dX7_stepsOnToNearest_78 hl (k := 7) rfl (z_ofi (by decide +kernel)) (by decide) rfl (fun ls hl => ?_)
          refine lv_goto (tgt := 21) hx hb dX7_stepsOnToNearest_81 (by decide) ?_
          have hX_101 : F_Se_stepsOnToNearest se_places h_doors c_h_openers c_se_row k j = F_Se_stepsOnToNearest_L21a se_places c_se_row k r_1 n_L21a v_65 v_66 (v_67 + 1) := by
            refine hF_L21a.trans ?_
            refine (F_Se_stepsOnToNearest_L21a_s ..).trans ?_
            refine (if_neg c_91).trans ?_
            try (extract_lets -merge -useContext +onlyGivenNames y9; have e9 : x_95 = y9 := (by first | exact he_x_95 | exact he_x_95.symm); clear_value y9; subst e9)
            extract_lets -merge -useContext +onlyGivenNames w9 y9; have e9 : r_96 = w9 := he_r_96; clear_value w9; subst e9
            refine (if_pos c_99).trans ?_
            exact rfl
          exact ih_90 v_65 v_66 (v_67 + 1) H locs ls (z_up hmu_hlp_88 (by omega) trivial) (z_upc hi_89 (by omega) trivial) hX_101 hP hD hS (lv_sub hl [2, 3, 4, 5, 6, 7, 0] rfl)
        · have b_102 := z_t2 c_99
          refine lv_aload_n hx hb dX7_stepsOnToNearest_51 rfl (lv_at hl 1 rfl) ?_
          refine lv_iload_n hx hb dX7_stepsOnToNearest_52 rfl (lv_at hl 4 rfl) ?_
          refine lv_iload_n hx hb dX7_stepsOnToNearest_53 rfl (lv_at hl 2 rfl) ?_
          refine lv_iload hx hb dX7_stepsOnToNearest_54 (lv_at hl 7 rfl) ?_
          refine lv_iadd hx hb dX7_stepsOnToNearest_56 ?_
          refine lv_topi (fun x_103 he_x_103 => ?_)
          refine lv_aload_n hx hb dX7_stepsOnToNearest_57 rfl (lv_at hl 1 rfl) ?_
          refine va_get (D := G) (ci := 7) (v := .int se_places) (C := RX7) (T := TX7) (N := 11) hx hb hts inT7 hown hK hP 0 rfl rfl 2 (by decide) (hts _ tw_481) (fun _ h9 => h9) rfl dX7_stepsOnToNearest_58 ?_
          refine z_callSNi (As := [.int x_103, .int se_places]) (rest := [.int r_1, .ref se]) (wr := [(se, .inr (7, [.ref h, .ref se_row, .int se_places, .ref se_found, .int se_foundMany, .ref se_rr, .ref se_rp, .ref se_rs, .ref se_ro, .long se_meanTop, .long se_meanBottom])), (se_row, .inl (cA.1 0, 10, .inl c_se_row)), (h, .inr (2, [.int h_features, .ref h_featureNames, .ref h_steps, .ref h_turnedFeatures, .ref h_sixteenths, .int h_keys, .ref h_keySteps, .int h_lent, .int h_rings, .ref h_on, .ref h_onMany, .int h_doors, .ref h_wanted, .ref h_openers, .ref h_seconds, .int h_turned, .int h_roundMany, .ref h_roundDoors])), (h_openers, .inl (cA.1 0, 5, .inl c_h_openers))]) ⟨hx, hb, hml, hown, hts⟩ hK hE hT hP hD hS hA (d_Da_inRing l G cA x_103 se_places) lk_RX7_70 ⟨rfl, rfl⟩ ⟨Nat.le_of_ble_eq_true rfl, Nat.le_of_ble_eq_true rfl⟩ [] [0, 1, 2, 3] rfl rfl (by decide) rfl hl.1 rfl (lv_room (Nat.le_of_ble_eq_true rfl)) dX7_stepsOnToNearest_61 ⟨Nat.le_of_ble_eq_true rfl, Nat.le_of_ble_eq_true rfl⟩ (fun r_104 u_105 H locs hw hP hD hS => ?_)
          have hP : va_P G vwCl [(se, .inr (7, [.ref h, .ref se_row, .int se_places, .ref se_found, .int se_foundMany, .ref se_rr, .ref se_rp, .ref se_rs, .ref se_ro, .long se_meanTop, .long se_meanBottom])), (se_row, .inl (cA.1 0, 10, .inl c_se_row)), (h, .inr (2, [.int h_features, .ref h_featureNames, .ref h_steps, .ref h_turnedFeatures, .ref h_sixteenths, .int h_keys, .ref h_keySteps, .int h_lent, .int h_rings, .ref h_on, .ref h_onMany, .int h_doors, .ref h_wanted, .ref h_openers, .ref h_seconds, .int h_turned, .int h_roundMany, .ref h_roundDoors])), (h_openers, .inl (cA.1 0, 5, .inl c_h_openers))] H := hP
          have hD : va_D A [(se, .inr (7, [.ref h, .ref se_row, .int se_places, .ref se_found, .int se_foundMany, .ref se_rr, .ref se_rp, .ref se_rs, .ref se_ro, .long se_meanTop, .long se_meanBottom])), (se_row, .inl (cA.1 0, 10, .inl c_se_row)), (h, .inr (2, [.int h_features, .ref h_featureNames, .ref h_steps, .ref h_turnedFeatures, .ref h_sixteenths, .int h_keys, .ref h_keySteps, .int h_lent, .int h_rings, .ref h_on, .ref h_onMany, .int h_doors, .ref h_wanted, .ref h_openers, .ref h_seconds, .int h_turned, .int h_roundMany, .ref h_roundDoors])), (h_openers, .inl (cA.1 0, 5, .inl c_h_openers))] := hD
          obtain ⟨he_r_104, hw⟩ := hw
          refine z_callVi (As := [.int r_1, .int r_104]) (rest := []) (wr := [(h, .inr (2, [.int h_features, .ref h_featureNames, .ref h_steps, .ref h_turnedFeatures, .ref h_sixteenths, .int h_keys, .ref h_keySteps, .int h_lent, .int h_rings, .ref h_on, .ref h_onMany, .int h_doors, .ref h_wanted, .ref h_openers, .ref h_seconds, .int h_turned, .int h_roundMany, .ref h_roundDoors])), (h_openers, .inl (cA.1 0, 5, .inl c_h_openers))]) ⟨hx, hb, hml, hown, hts⟩ hK hE hT hP hD hS hA (d_Se_isOf l G cA se h se_row se_places se_found se_foundMany se_rr se_rp se_rs se_ro se_meanTop se_meanBottom c_se_row r_1 r_104) lk_RX7_63 ⟨rfl, rfl⟩ ⟨Nat.le_of_ble_eq_true rfl, Nat.le_of_ble_eq_true rfl⟩ 7 rfl rfl rfl [0, 1] [2, 3] rfl rfl (by decide) rfl hl.1 rfl (lv_room (Nat.le_of_ble_eq_true rfl)) dX7_stepsOnToNearest_64 ⟨Nat.le_of_ble_eq_true rfl, Nat.le_of_ble_eq_true rfl⟩ (fun r_107 u_108 H locs hw hP hD hS => ?_)
          have hP : va_P G vwCl [(h, .inr (2, [.int h_features, .ref h_featureNames, .ref h_steps, .ref h_turnedFeatures, .ref h_sixteenths, .int h_keys, .ref h_keySteps, .int h_lent, .int h_rings, .ref h_on, .ref h_onMany, .int h_doors, .ref h_wanted, .ref h_openers, .ref h_seconds, .int h_turned, .int h_roundMany, .ref h_roundDoors])), (h_openers, .inl (cA.1 0, 5, .inl c_h_openers)), (se, .inr (7, [.ref h, .ref se_row, .int se_places, .ref se_found, .int se_foundMany, .ref se_rr, .ref se_rp, .ref se_rs, .ref se_ro, .long se_meanTop, .long se_meanBottom])), (se_row, .inl (cA.1 0, 10, .inl c_se_row))] H := hP
          have hD : va_D A [(h, .inr (2, [.int h_features, .ref h_featureNames, .ref h_steps, .ref h_turnedFeatures, .ref h_sixteenths, .int h_keys, .ref h_keySteps, .int h_lent, .int h_rings, .ref h_on, .ref h_onMany, .int h_doors, .ref h_wanted, .ref h_openers, .ref h_seconds, .int h_turned, .int h_roundMany, .ref h_roundDoors])), (h_openers, .inl (cA.1 0, 5, .inl c_h_openers)), (se, .inr (7, [.ref h, .ref se_row, .int se_places, .ref se_found, .int se_foundMany, .ref se_rr, .ref se_rp, .ref se_rs, .ref se_ro, .long se_meanTop, .long se_meanBottom])), (se_row, .inl (cA.1 0, 10, .inl c_se_row))] := hD
          obtain ⟨he_r_107, hw⟩ := hw
          have hz_r_107 := hw
          refine lv_if_eq (tgt := 78) hx hb dX7_stepsOnToNearest_67 (by decide) (fun c_110 => ?_) (fun c_110 => ?_)
          · skip
            refine lv_iinc (v := (v_67 + 1)) (lv' := [(6, .int (v_67 + 1)), (7, .int r_96), (0, .ref se), (1, .int k), (2, .int j), (3, .int r_1), (4, .int v_65), (5, .int v_66)]) hx hb dX7_stepsOnToNearest_78 hl (k := 7) rfl (z_ofi (by decide +kernel)) (by decide) rfl (fun ls hl => ?_)
            refine lv_goto (tgt := 21) hx hb dX7_stepsOnToNearest_81 (by decide) ?_
            have hX_112 : F_Se_stepsOnToNearest se_places h_doors c_h_openers c_se_row k j = F_Se_stepsOnToNearest_L21a se_places c_se_row k r_1 n_L21a v_65 v_66 (v_67 + 1) := by
              refine hF_L21a.trans ?_
              refine (F_Se_stepsOnToNearest_L21a_s ..).trans ?_
              refine (if_neg c_91).trans ?_
              try (extract_lets -merge -useContext +onlyGivenNames y9; have e9 : x_95 = y9 := (by first | exact he_x_95 | exact he_x_95.symm); clear_value y9; subst e9)
              extract_lets -merge -useContext +onlyGivenNames w9 y9; have e9 : r_96 = w9 := he_r_96; clear_value w9; subst e9
              refine (if_neg c_99).trans ?_
              try (extract_lets -merge -useContext +onlyGivenNames y9; have e9 : x_103 = y9 := (by first | exact he_x_103 | exact he_x_103.symm); clear_value y9; subst e9)
              extract_lets -merge -useContext +onlyGivenNames w9 y9; have e9 : r_104 = w9 := he_r_104; clear_value w9; subst e9
              extract_lets -merge -useContext +onlyGivenNames w9 y9; have e9 : r_107 = w9 := he_r_107; clear_value w9; subst e9
              refine (if_pos c_110).trans ?_
              exact rfl
            have hP := hP.sub (ws' := [(se, .inr (7, [.ref h, .ref se_row, .int se_places, .ref se_found, .int se_foundMany, .ref se_rr, .ref se_rp, .ref se_rs, .ref se_ro, .long se_meanTop, .long se_meanBottom])), (se_row, .inl (cA.1 0, 10, .inl c_se_row)), (h, .inr (2, [.int h_features, .ref h_featureNames, .ref h_steps, .ref h_turnedFeatures, .ref h_sixteenths, .int h_keys, .ref h_keySteps, .int h_lent, .int h_rings, .ref h_on, .ref h_onMany, .int h_doors, .ref h_wanted, .ref h_openers, .ref h_seconds, .int h_turned, .int h_roundMany, .ref h_roundDoors])), (h_openers, .inl (cA.1 0, 5, .inl c_h_openers))]) [2, 3, 0, 1] rfl
            have hD := hD.sub (ws' := [(se, .inr (7, [.ref h, .ref se_row, .int se_places, .ref se_found, .int se_foundMany, .ref se_rr, .ref se_rp, .ref se_rs, .ref se_ro, .long se_meanTop, .long se_meanBottom])), (se_row, .inl (cA.1 0, 10, .inl c_se_row)), (h, .inr (2, [.int h_features, .ref h_featureNames, .ref h_steps, .ref h_turnedFeatures, .ref h_sixteenths, .int h_keys, .ref h_keySteps, .int h_lent, .int h_rings, .ref h_on, .ref h_onMany, .int h_doors, .ref h_wanted, .ref h_openers, .ref h_seconds, .int h_turned, .int h_roundMany, .ref h_roundDoors])), (h_openers, .inl (cA.1 0, 5, .inl c_h_openers))]) [2, 3, 0, 1] (by decide) rfl
            exact ih_90 v_65 v_66 (v_67 + 1) H locs ls (z_up hmu_hlp_88 (by omega) trivial) (z_upc hi_89 (by omega) trivial) hX_112 hP hD hS (lv_sub hl [2, 3, 4, 5, 6, 7, 0] rfl)
          · skip
            refine lv_iload hx hb dX7_stepsOnToNearest_70 (lv_at hl 0 rfl) ?_
            refine lv_istore (lv' := [(5, .int r_96), (7, .int r_96), (0, .ref se), (1, .int k), (2, .int j), (3, .int r_1), (4, .int v_65), (6, .int v_67)]) hx hb dX7_stepsOnToNearest_72 hl (by decide) rfl (fun ls hl => ?_)
            refine lv_iload hx hb dX7_stepsOnToNearest_74 (lv_at hl 7 rfl) ?_
            refine lv_istore (lv' := [(4, .int v_67), (5, .int r_96), (7, .int r_96), (0, .ref se), (1, .int k), (2, .int j), (3, .int r_1), (6, .int v_67)]) hx hb dX7_stepsOnToNearest_76 hl (by decide) rfl (fun ls hl => ?_)
            refine lv_iinc (v := (v_67 + 1)) (lv' := [(6, .int (v_67 + 1)), (4, .int v_67), (5, .int r_96), (7, .int r_96), (0, .ref se), (1, .int k), (2, .int j), (3, .int r_1)]) hx hb dX7_stepsOnToNearest_78 hl (k := 7) rfl (z_ofi (by decide +kernel)) (by decide) rfl (fun ls hl => ?_)
            refine lv_goto (tgt := 21) hx hb dX7_stepsOnToNearest_81 (by decide) ?_
            have hX_114 : F_Se_stepsOnToNearest se_places h_doors c_h_openers c_se_row k j = F_Se_stepsOnToNearest_L21a se_places c_se_row k r_1 n_L21a v_67 r_96 (v_67 + 1) := by
              refine hF_L21a.trans ?_
              refine (F_Se_stepsOnToNearest_L21a_s ..).trans ?_
              refine (if_neg c_91).trans ?_
              try (extract_lets -merge -useContext +onlyGivenNames y9; have e9 : x_95 = y9 := (by first | exact he_x_95 | exact he_x_95.symm); clear_value y9; subst e9)
              extract_lets -merge -useContext +onlyGivenNames w9 y9; have e9 : r_96 = w9 := he_r_96; clear_value w9; subst e9
              refine (if_neg c_99).trans ?_
              try (extract_lets -merge -useContext +onlyGivenNames y9; have e9 : x_103 = y9 := (by first | exact he_x_103 | exact he_x_103.symm); clear_value y9; subst e9)
              extract_lets -merge -useContext +onlyGivenNames w9 y9; have e9 : r_104 = w9 := he_r_104; clear_value w9; subst e9
              extract_lets -merge -useContext +onlyGivenNames w9 y9; have e9 : r_107 = w9 := he_r_107; clear_value w9; subst e9
              refine (if_neg c_110).trans ?_
              exact rfl
            have hP := hP.sub (ws' := [(se, .inr (7, [.ref h, .ref se_row, .int se_places, .ref se_found, .int se_foundMany, .ref se_rr, .ref se_rp, .ref se_rs, .ref se_ro, .long se_meanTop, .long se_meanBottom])), (se_row, .inl (cA.1 0, 10, .inl c_se_row)), (h, .inr (2, [.int h_features, .ref h_featureNames, .ref h_steps, .ref h_turnedFeatures, .ref h_sixteenths, .int h_keys, .ref h_keySteps, .int h_lent, .int h_rings, .ref h_on, .ref h_onMany, .int h_doors, .ref h_wanted, .ref h_openers, .ref h_seconds, .int h_turned, .int h_roundMany, .ref h_roundDoors])), (h_openers, .inl (cA.1 0, 5, .inl c_h_openers))]) [2, 3, 0, 1] rfl
            have hD := hD.sub (ws' := [(se, .inr (7, [.ref h, .ref se_row, .int se_places, .ref se_found, .int se_foundMany, .ref se_rr, .ref se_rp, .ref se_rs, .ref se_ro, .long se_meanTop, .long se_meanBottom])), (se_row, .inl (cA.1 0, 10, .inl c_se_row)), (h, .inr (2, [.int h_features, .ref h_featureNames, .ref h_steps, .ref h_turnedFeatures, .ref h_sixteenths, .int h_keys, .ref h_keySteps, .int h_lent, .int h_rings, .ref h_on, .ref h_onMany, .int h_doors, .ref h_wanted, .ref h_openers, .ref h_seconds, .int h_turned, .int h_roundMany, .ref h_roundDoors])), (h_openers, .inl (cA.1 0, 5, .inl c_h_openers))]) [2, 3, 0, 1] (by decide) rfl
            exact ih_90 v_67 r_96 (v_67 + 1) H locs ls (z_up hmu_hlp_88 (by omega) trivial) (z_upc hi_89 (by omega) trivial) hX_114 hP hD hS (lv_sub hl [4, 5, 6, 7, 1, 2, 0] rfl)
  have hX_115 : F_Se_stepsOnToNearest se_places h_doors c_h_openers c_se_row k j = F_Se_stepsOnToNearest_L21a se_places c_se_row k r_1 ((2147483647 - (0 : Int32).toInt).toNat + 1) (0 : Int32) se_places (0 : Int32) := by
    refine (F_Se_stepsOnToNearest_s ..).trans ?_
    extract_lets -merge -useContext +onlyGivenNames w9 y9; have e9 : r_1 = w9 := he_r_1; clear_value w9; subst e9
    exact rfl
  exact hlp_88 ((2147483647 - (0 : Int32).toInt).toNat + 1) 0 se_places 0 _ _ _ (Nat.lt_succ_self _) (by first | decide +kernel | omega) hX_115 hP hD hS (lv_sub hl [4, 5, 6, 3, 2, 1, 0] rfl)
set_option maxHeartbeats 40000000 in
set_option maxRecDepth 100000 in
theorem d_Se_secondsOfRound (l : Launch) (G : va_G) (cA : zCA) (se : Nat) (h : Nat) (se_row : Nat) (se_places : Int32) (se_found : Nat) (se_foundMany : Int32) (se_rr : Nat) (se_rp : Nat) (se_rs : Nat) (se_ro : Nat) (se_meanTop : Int64) (se_meanBottom : Int64) (h_features : Int32) (h_featureNames : Nat) (h_steps : Nat) (h_turnedFeatures : Nat) (h_sixteenths : Nat) (h_keys : Int32) (h_keySteps : Nat) (h_lent : Int32) (h_rings : Int32) (h_on : Nat) (h_onMany : Nat) (h_doors : Int32) (h_wanted : Nat) (h_openers : Nat) (h_seconds : Nat) (h_turned : Int32) (h_roundMany : Int32) (h_roundDoors : Nat) (c_h_openers : Nat → Int32) (c_h_seconds : Nat → Int32) (c_h_roundDoors : Nat → Int32) (c_se_row : Nat → Int32) (hm_h_features : 0 ≤ h_features.toInt ∧ h_features.toInt ≤ 3) : zCi l yX7_secondsOfRound cX7_secondsOfRound 5 (some .int) ({ frames := 3, cells := 0, slots := 0, locals := 71 }) G cA [.ref se] [(se, .inr (7, [.ref h, .ref se_row, .int se_places, .ref se_found, .int se_foundMany, .ref se_rr, .ref se_rp, .ref se_rs, .ref se_ro, .long se_meanTop, .long se_meanBottom])), (h, .inr (2, [.int h_features, .ref h_featureNames, .ref h_steps, .ref h_turnedFeatures, .ref h_sixteenths, .int h_keys, .ref h_keySteps, .int h_lent, .int h_rings, .ref h_on, .ref h_onMany, .int h_doors, .ref h_wanted, .ref h_openers, .ref h_seconds, .int h_turned, .int h_roundMany, .ref h_roundDoors])), (h_openers, .inl (cA.1 0, 5, .inl c_h_openers)), (h_seconds, .inl (cA.1 0, 4, .inl c_h_seconds)), (h_roundDoors, .inl (cA.1 0, 12, .inl c_h_roundDoors)), (se_row, .inl (cA.1 0, 10, .inl c_se_row))] (S := Unit) (fun (r : Int32) (u : Unit) => (r = (F_Se_secondsOfRound se_places h_doors h_roundMany c_h_openers c_h_seconds c_h_roundDoors c_se_row)) ∧ (True)) (fun (u : Unit) => [(se, .inr (7, [.ref h, .ref se_row, .int se_places, .ref se_found, .int se_foundMany, .ref se_rr, .ref se_rp, .ref se_rs, .ref se_ro, .long se_meanTop, .long se_meanBottom])), (h, .inr (2, [.int h_features, .ref h_featureNames, .ref h_steps, .ref h_turnedFeatures, .ref h_sixteenths, .int h_keys, .ref h_keySteps, .int h_lent, .int h_rings, .ref h_on, .ref h_onMany, .int h_doors, .ref h_wanted, .ref h_openers, .ref h_seconds, .int h_turned, .int h_roundMany, .ref h_roundDoors])), (h_openers, .inl (cA.1 0, 5, .inl c_h_openers)), (h_seconds, .inl (cA.1 0, 4, .inl c_h_seconds)), (h_roundDoors, .inl (cA.1 0, 12, .inl c_h_roundDoors)), (se_row, .inl (cA.1 0, 10, .inl c_se_row))]) 0 0 := by
  refine z_start2i (own := RX7) (by decide) (Nat.le_of_ble_eq_true rfl) rfl ?_
  intro p e s m args below meth c A ls Q hx hb hml hts hown hK hE hT hP hD hS hA hl hret
  have hl : lv_has ls 5 [(0, .ref se)] := hl
  refine lv_iconst (v := 0) hx hb dX7_secondsOfRound_0 (by decide) ?_
  refine lv_istore_n (lv' := [(1, .int 0), (0, .ref se)]) hx hb dX7_secondsOfRound_1 rfl hl (by decide) rfl (fun ls hl => ?_)
  refine lv_iconst (v := 0) hx hb dX7_secondsOfRound_2 (by decide) ?_
  refine lv_istore_n (lv' := [(2, .int 0), (1, .int 0), (0, .ref se)]) hx hb dX7_secondsOfRound_3 rfl hl (by decide) rfl (fun ls hl => ?_)
  refine lv_iconst (v := 0) hx hb dX7_secondsOfRound_4 (by decide) ?_
  refine lv_istore_n (lv' := [(3, .int 0), (2, .int 0), (1, .int 0), (0, .ref se)]) hx hb dX7_secondsOfRound_5 rfl hl (by decide) rfl (fun ls hl => ?_)
  have hlp_83 : ∀ (n_L6a : Nat) (v_54 : Int32) (v_55 : Int32) (v_56 : Int32) (H : Heap) (locs : List Loc) (ls : Array Slot), (2147483647 - v_56.toInt).toNat < n_L6a → (0 ≤ v_56.toInt) → (F_Se_secondsOfRound se_places h_doors h_roundMany c_h_openers c_h_seconds c_h_roundDoors c_se_row = F_Se_secondsOfRound_L6a se_places h_doors h_roundMany c_h_openers c_h_seconds c_h_roundDoors c_se_row n_L6a v_54 v_55 v_56) → va_P G vwCl [(se, .inr (7, [.ref h, .ref se_row, .int se_places, .ref se_found, .int se_foundMany, .ref se_rr, .ref se_rp, .ref se_rs, .ref se_ro, .long se_meanTop, .long se_meanBottom])), (h, .inr (2, [.int h_features, .ref h_featureNames, .ref h_steps, .ref h_turnedFeatures, .ref h_sixteenths, .int h_keys, .ref h_keySteps, .int h_lent, .int h_rings, .ref h_on, .ref h_onMany, .int h_doors, .ref h_wanted, .ref h_openers, .ref h_seconds, .int h_turned, .int h_roundMany, .ref h_roundDoors])), (h_openers, .inl (cA.1 0, 5, .inl c_h_openers)), (h_seconds, .inl (cA.1 0, 4, .inl c_h_seconds)), (h_roundDoors, .inl (cA.1 0, 12, .inl c_h_roundDoors)), (se_row, .inl (cA.1 0, 10, .inl c_se_row))] H → va_D A [(se, .inr (7, [.ref h, .ref se_row, .int se_places, .ref se_found, .int se_foundMany, .ref se_rr, .ref se_rp, .ref se_rs, .ref se_ro, .long se_meanTop, .long se_meanBottom])), (h, .inr (2, [.int h_features, .ref h_featureNames, .ref h_steps, .ref h_turnedFeatures, .ref h_sixteenths, .int h_keys, .ref h_keySteps, .int h_lent, .int h_rings, .ref h_on, .ref h_onMany, .int h_doors, .ref h_wanted, .ref h_openers, .ref h_seconds, .int h_turned, .int h_roundMany, .ref h_roundDoors])), (h_openers, .inl (cA.1 0, 5, .inl c_h_openers)), (h_seconds, .inl (cA.1 0, 4, .inl c_h_seconds)), (h_roundDoors, .inl (cA.1 0, 12, .inl c_h_roundDoors)), (se_row, .inl (cA.1 0, 10, .inl c_se_row))] → va_S A s.heap H locs → lv_has ls 5 [(0, .ref se), (1, .int v_54), (2, .int v_55), (3, .int v_56)] → W p l e ({ frames := 3, cells := 0, slots := 0, locals := 71 }) s m args below meth c H locs 0 0 Q (F0 m 6 ls []) := by
    intro n_L6a
    induction n_L6a with
    | zero =>
      intro v_54 v_55 v_56 H locs ls hmu_hlp_83 hi_84 hF_L6a hP hD hS hl
      exact absurd hmu_hlp_83 (Nat.not_lt_zero _)
    | succ n_L6a ih_85 =>
      intro v_54 v_55 v_56 H locs ls hmu_hlp_83 hi_84 hF_L6a hP hD hS hl
      refine lv_iload_n hx hb dX7_secondsOfRound_6 rfl (lv_at hl 3 rfl) ?_
      refine lv_aload_n hx hb dX7_secondsOfRound_7 rfl (lv_at hl 0 rfl) ?_
      refine va_get (D := G) (ci := 7) (v := .ref h) (C := RX7) (T := TX7) (N := 11) hx hb hts inT7 hown hK hP 0 rfl rfl 0 (by decide) (hts _ tw_479) (fun _ h9 => h9) rfl dX7_secondsOfRound_8 ?_
      refine va_get (D := G) (ci := 2) (v := .int h_roundMany) (C := RX2) (T := TX2) (N := 18) hx hb hts inT2 hown hK hP 1 rfl rfl 16 (by decide) (hts _ tw_298) (fun _ h9 => h9) rfl dX7_secondsOfRound_11 ?_
      refine lv_icmp_ge (tgt := 86) hx hb dX7_secondsOfRound_14 (by decide) (fun c_86 => ?_) (fun c_86 => ?_)
      · have b_87 := z_s1 c_86
        refine lv_iload_n hx hb dX7_secondsOfRound_86 rfl (lv_at hl 2 rfl) ?_
        have hX_88 : F_Se_secondsOfRound se_places h_doors h_roundMany c_h_openers c_h_seconds c_h_roundDoors c_se_row = (v_55 : Int32) := by
          refine hF_L6a.trans ?_
          refine (F_Se_secondsOfRound_L6a_s ..).trans ?_
          refine (if_pos c_86).trans ?_
          exact rfl
        exact hret _ _ _ _ _ _ () [0, 1, 2, 3, 4, 5] hP hD hS rfl (by decide) dX7_secondsOfRound_87 ⟨(congrArg (fun z9 => z9) hX_88).symm, trivial⟩
      · have b_89 := z_t2 c_86
        refine lv_aload_n hx hb dX7_secondsOfRound_17 rfl (lv_at hl 0 rfl) ?_
        refine lv_iload_n hx hb dX7_secondsOfRound_18 rfl (lv_at hl 1 rfl) ?_
        refine lv_aload_n hx hb dX7_secondsOfRound_19 rfl (lv_at hl 0 rfl) ?_
        refine va_get (D := G) (ci := 7) (v := .ref h) (C := RX7) (T := TX7) (N := 11) hx hb hts inT7 hown hK hP 0 rfl rfl 0 (by decide) (hts _ tw_479) (fun _ h9 => h9) rfl dX7_secondsOfRound_20 ?_
        refine va_getN (D := G) (ci := 2) (v := .ref h_roundDoors) (C := RX2) (T := TX2) (N := 18) hx hb hts inT2 hown hK hP 1 rfl rfl 17 (by decide) (va_Nw.use rfl (hE.1 _ tw_302)) (fun _ h9 => h9) rfl dX7_secondsOfRound_23 ?_
        refine lv_iload_n hx hb dX7_secondsOfRound_26 rfl (lv_at hl 3 rfl) ?_
        refine z_callSNi (As := [.ref h_roundDoors, .int v_56]) (rest := [.int v_54, .ref se]) (wr := [(se, .inr (7, [.ref h, .ref se_row, .int se_places, .ref se_found, .int se_foundMany, .ref se_rr, .ref se_rp, .ref se_rs, .ref se_ro, .long se_meanTop, .long se_meanBottom])), (h, .inr (2, [.int h_features, .ref h_featureNames, .ref h_steps, .ref h_turnedFeatures, .ref h_sixteenths, .int h_keys, .ref h_keySteps, .int h_lent, .int h_rings, .ref h_on, .ref h_onMany, .int h_doors, .ref h_wanted, .ref h_openers, .ref h_seconds, .int h_turned, .int h_roundMany, .ref h_roundDoors])), (h_openers, .inl (cA.1 0, 5, .inl c_h_openers)), (h_seconds, .inl (cA.1 0, 4, .inl c_h_seconds)), (se_row, .inl (cA.1 0, 10, .inl c_se_row))]) ⟨hx, hb, hml, hown, hts⟩ hK hE hT hP hD hS hA (d_at_12 l G cA h_roundDoors c_h_roundDoors v_56) lk_RX7_55 ⟨rfl, rfl⟩ ⟨Nat.le_of_ble_eq_true rfl, Nat.le_of_ble_eq_true rfl⟩ [4] [0, 1, 2, 3, 5] rfl rfl (by decide) rfl hl.1 rfl (lv_room (Nat.le_of_ble_eq_true rfl)) dX7_secondsOfRound_27 ⟨Nat.le_of_ble_eq_true rfl, Nat.le_of_ble_eq_true rfl⟩ (fun r_90 u_91 H locs hw hP hD hS => ?_)
        have hP : va_P G vwCl [(se, .inr (7, [.ref h, .ref se_row, .int se_places, .ref se_found, .int se_foundMany, .ref se_rr, .ref se_rp, .ref se_rs, .ref se_ro, .long se_meanTop, .long se_meanBottom])), (h, .inr (2, [.int h_features, .ref h_featureNames, .ref h_steps, .ref h_turnedFeatures, .ref h_sixteenths, .int h_keys, .ref h_keySteps, .int h_lent, .int h_rings, .ref h_on, .ref h_onMany, .int h_doors, .ref h_wanted, .ref h_openers, .ref h_seconds, .int h_turned, .int h_roundMany, .ref h_roundDoors])), (h_openers, .inl (cA.1 0, 5, .inl c_h_openers)), (h_seconds, .inl (cA.1 0, 4, .inl c_h_seconds)), (se_row, .inl (cA.1 0, 10, .inl c_se_row)), (h_roundDoors, .inl (cA.1 0, 12, .inl c_h_roundDoors))] H := hP
        have hD : va_D A [(se, .inr (7, [.ref h, .ref se_row, .int se_places, .ref se_found, .int se_foundMany, .ref se_rr, .ref se_rp, .ref se_rs, .ref se_ro, .long se_meanTop, .long se_meanBottom])), (h, .inr (2, [.int h_features, .ref h_featureNames, .ref h_steps, .ref h_turnedFeatures, .ref h_sixteenths, .int h_keys, .ref h_keySteps, .int h_lent, .int h_rings, .ref h_on, .ref h_onMany, .int h_doors, .ref h_wanted, .ref h_openers, .ref h_seconds, .int h_turned, .int h_roundMany, .ref h_roundDoors])), (h_openers, .inl (cA.1 0, 5, .inl c_h_openers)), (h_seconds, .inl (cA.1 0, 4, .inl c_h_seconds)), (se_row, .inl (cA.1 0, 10, .inl c_se_row)), (h_roundDoors, .inl (cA.1 0, 12, .inl c_h_roundDoors))] := hD
        obtain ⟨he_r_90, hw⟩ := hw
        refine z_callVi (As := [.int v_54, .int r_90]) (rest := []) (wr := [(h_seconds, .inl (cA.1 0, 4, .inl c_h_seconds)), (h_roundDoors, .inl (cA.1 0, 12, .inl c_h_roundDoors))]) ⟨hx, hb, hml, hown, hts⟩ hK hE hT hP hD hS hA (d_Se_stepsOnToNearest l G cA se h se_row se_places se_found se_foundMany se_rr se_rp se_rs se_ro se_meanTop se_meanBottom h_features h_featureNames h_steps h_turnedFeatures h_sixteenths h_keys h_keySteps h_lent h_rings h_on h_onMany h_doors h_wanted h_openers h_seconds h_turned h_roundMany h_roundDoors c_h_openers c_se_row v_54 r_90 (by omega)) lk_RX7_100 ⟨rfl, rfl⟩ ⟨Nat.le_of_ble_eq_true rfl, Nat.le_of_ble_eq_true rfl⟩ 7 rfl rfl rfl [0, 1, 2, 4] [3, 5] rfl rfl (by decide) rfl hl.1 rfl (lv_room (Nat.le_of_ble_eq_true rfl)) dX7_secondsOfRound_30 ⟨Nat.le_of_ble_eq_true rfl, Nat.le_of_ble_eq_true rfl⟩ (fun r_93 u_94 H locs hw hP hD hS => ?_)
        have hP : va_P G vwCl [(h_seconds, .inl (cA.1 0, 4, .inl c_h_seconds)), (h_roundDoors, .inl (cA.1 0, 12, .inl c_h_roundDoors)), (se, .inr (7, [.ref h, .ref se_row, .int se_places, .ref se_found, .int se_foundMany, .ref se_rr, .ref se_rp, .ref se_rs, .ref se_ro, .long se_meanTop, .long se_meanBottom])), (h, .inr (2, [.int h_features, .ref h_featureNames, .ref h_steps, .ref h_turnedFeatures, .ref h_sixteenths, .int h_keys, .ref h_keySteps, .int h_lent, .int h_rings, .ref h_on, .ref h_onMany, .int h_doors, .ref h_wanted, .ref h_openers, .ref h_seconds, .int h_turned, .int h_roundMany, .ref h_roundDoors])), (h_openers, .inl (cA.1 0, 5, .inl c_h_openers)), (se_row, .inl (cA.1 0, 10, .inl c_se_row))] H := hP
        have hD : va_D A [(h_seconds, .inl (cA.1 0, 4, .inl c_h_seconds)), (h_roundDoors, .inl (cA.1 0, 12, .inl c_h_roundDoors)), (se, .inr (7, [.ref h, .ref se_row, .int se_places, .ref se_found, .int se_foundMany, .ref se_rr, .ref se_rp, .ref se_rs, .ref se_ro, .long se_meanTop, .long se_meanBottom])), (h, .inr (2, [.int h_features, .ref h_featureNames, .ref h_steps, .ref h_turnedFeatures, .ref h_sixteenths, .int h_keys, .ref h_keySteps, .int h_lent, .int h_rings, .ref h_on, .ref h_onMany, .int h_doors, .ref h_wanted, .ref h_openers, .ref h_seconds, .int h_turned, .int h_roundMany, .ref h_roundDoors])), (h_openers, .inl (cA.1 0, 5, .inl c_h_openers)), (se_row, .inl (cA.1 0, 10, .inl c_se_row))] := hD
        obtain ⟨he_r_93, hw⟩ := hw
        refine lv_istore (lv' := [(4, .int r_93), (0, .ref se), (1, .int v_54), (2, .int v_55), (3, .int v_56)]) hx hb dX7_secondsOfRound_33 hl (by decide) rfl (fun ls hl => ?_)
        refine lv_iload_n hx hb dX7_secondsOfRound_35 rfl (lv_at hl 3 rfl) ?_
        refine lv_iload hx hb dX7_secondsOfRound_36 (lv_at hl 0 rfl) ?_
        refine lv_aload_n hx hb dX7_secondsOfRound_38 rfl (lv_at hl 1 rfl) ?_
        refine va_get (D := G) (ci := 7) (v := .int se_places) (C := RX7) (T := TX7) (N := 11) hx hb hts inT7 hown hK hP 2 rfl rfl 2 (by decide) (hts _ tw_481) (fun _ h9 => h9) rfl dX7_secondsOfRound_39 ?_
        refine lv_iload hx hb dX7_secondsOfRound_42 (lv_at hl 0 rfl) ?_
        refine lv_isub hx hb dX7_secondsOfRound_44 ?_
        refine lv_topi (fun x_96 he_x_96 => ?_)
        refine z_callSi (As := [.int r_93, .int x_96]) (rest := [.int v_55]) (wr := [(h_seconds, .inl (cA.1 0, 4, .inl c_h_seconds)), (h_roundDoors, .inl (cA.1 0, 12, .inl c_h_roundDoors)), (se, .inr (7, [.ref h, .ref se_row, .int se_places, .ref se_found, .int se_foundMany, .ref se_rr, .ref se_rp, .ref se_rs, .ref se_ro, .long se_meanTop, .long se_meanBottom])), (h, .inr (2, [.int h_features, .ref h_featureNames, .ref h_steps, .ref h_turnedFeatures, .ref h_sixteenths, .int h_keys, .ref h_keySteps, .int h_lent, .int h_rings, .ref h_on, .ref h_onMany, .int h_doors, .ref h_wanted, .ref h_openers, .ref h_seconds, .int h_turned, .int h_roundMany, .ref h_roundDoors])), (h_openers, .inl (cA.1 0, 5, .inl c_h_openers)), (se_row, .inl (cA.1 0, 10, .inl c_se_row))]) ⟨hx, hb, hml, hown, hts⟩ hK hE hT hP hD hS hA (d_ja_min l G cA r_93 x_96) lk_RX7_103 ⟨rfl, rfl⟩ ⟨Nat.le_of_ble_eq_true rfl, Nat.le_of_ble_eq_true rfl⟩ [] [0, 1, 2, 3, 4, 5] rfl rfl (by decide) rfl hl.1 rfl (lv_room (Nat.le_of_ble_eq_true rfl)) dX7_secondsOfRound_45 ⟨Nat.le_of_ble_eq_true rfl, Nat.le_of_ble_eq_true rfl⟩ (fun r_97 u_98 H locs hw hP hD hS => ?_)
        have hP : va_P G vwCl [(h_seconds, .inl (cA.1 0, 4, .inl c_h_seconds)), (h_roundDoors, .inl (cA.1 0, 12, .inl c_h_roundDoors)), (se, .inr (7, [.ref h, .ref se_row, .int se_places, .ref se_found, .int se_foundMany, .ref se_rr, .ref se_rp, .ref se_rs, .ref se_ro, .long se_meanTop, .long se_meanBottom])), (h, .inr (2, [.int h_features, .ref h_featureNames, .ref h_steps, .ref h_turnedFeatures, .ref h_sixteenths, .int h_keys, .ref h_keySteps, .int h_lent, .int h_rings, .ref h_on, .ref h_onMany, .int h_doors, .ref h_wanted, .ref h_openers, .ref h_seconds, .int h_turned, .int h_roundMany, .ref h_roundDoors])), (h_openers, .inl (cA.1 0, 5, .inl c_h_openers)), (se_row, .inl (cA.1 0, 10, .inl c_se_row))] H := hP
        have hD : va_D A [(h_seconds, .inl (cA.1 0, 4, .inl c_h_seconds)), (h_roundDoors, .inl (cA.1 0, 12, .inl c_h_roundDoors)), (se, .inr (7, [.ref h, .ref se_row, .int se_places, .ref se_found, .int se_foundMany, .ref se_rr, .ref se_rp, .ref se_rs, .ref se_ro, .long se_meanTop, .long se_meanBottom])), (h, .inr (2, [.int h_features, .ref h_featureNames, .ref h_steps, .ref h_turnedFeatures, .ref h_sixteenths, .int h_keys, .ref h_keySteps, .int h_lent, .int h_rings, .ref h_on, .ref h_onMany, .int h_doors, .ref h_wanted, .ref h_openers, .ref h_seconds, .int h_turned, .int h_roundMany, .ref h_roundDoors])), (h_openers, .inl (cA.1 0, 5, .inl c_h_openers)), (se_row, .inl (cA.1 0, 10, .inl c_se_row))] := hD
        obtain ⟨he_r_97, hw⟩ := hw
        have hx_r_97 := hw
        refine lv_aload_n hx hb dX7_secondsOfRound_48 rfl (lv_at hl 1 rfl) ?_
        refine va_get (D := G) (ci := 7) (v := .ref h) (C := RX7) (T := TX7) (N := 11) hx hb hts inT7 hown hK hP 2 rfl rfl 0 (by decide) (hts _ tw_479) (fun _ h9 => h9) rfl dX7_secondsOfRound_49 ?_
        refine lv_iconst (v := 2) hx hb dX7_secondsOfRound_52 (by decide) ?_
        refine z_callVi (As := [.int 2]) (rest := [.int r_97, .int v_55]) (wr := [(h_roundDoors, .inl (cA.1 0, 12, .inl c_h_roundDoors)), (se, .inr (7, [.ref h, .ref se_row, .int se_places, .ref se_found, .int se_foundMany, .ref se_rr, .ref se_rp, .ref se_rs, .ref se_ro, .long se_meanTop, .long se_meanBottom])), (h_openers, .inl (cA.1 0, 5, .inl c_h_openers)), (se_row, .inl (cA.1 0, 10, .inl c_se_row))]) ⟨hx, hb, hml, hown, hts⟩ hK hE hT hP hD hS hA (d_H_secondsOf l G cA h h_features h_featureNames h_steps h_turnedFeatures h_sixteenths h_keys h_keySteps h_lent h_rings h_on h_onMany h_doors h_wanted h_openers h_seconds h_turned h_roundMany h_roundDoors c_h_seconds 2 (by omega)) lk_RX7_67 ⟨rfl, rfl⟩ ⟨Nat.le_of_ble_eq_true rfl, Nat.le_of_ble_eq_true rfl⟩ 2 rfl rfl rfl [3, 0] [1, 2, 4, 5] rfl rfl (by decide) rfl hl.1 rfl (lv_room (Nat.le_of_ble_eq_true rfl)) dX7_secondsOfRound_53 ⟨Nat.le_of_ble_eq_true rfl, Nat.le_of_ble_eq_true rfl⟩ (fun r_100 u_101 H locs hw hP hD hS => ?_)
        have hP : va_P G vwCl [(h_roundDoors, .inl (cA.1 0, 12, .inl c_h_roundDoors)), (se, .inr (7, [.ref h, .ref se_row, .int se_places, .ref se_found, .int se_foundMany, .ref se_rr, .ref se_rp, .ref se_rs, .ref se_ro, .long se_meanTop, .long se_meanBottom])), (h_openers, .inl (cA.1 0, 5, .inl c_h_openers)), (se_row, .inl (cA.1 0, 10, .inl c_se_row)), (h, .inr (2, [.int h_features, .ref h_featureNames, .ref h_steps, .ref h_turnedFeatures, .ref h_sixteenths, .int h_keys, .ref h_keySteps, .int h_lent, .int h_rings, .ref h_on, .ref h_onMany, .int h_doors, .ref h_wanted, .ref h_openers, .ref h_seconds, .int h_turned, .int h_roundMany, .ref h_roundDoors])), (h_seconds, .inl (cA.1 0, 4, .inl c_h_seconds))] H := hP
        have hD : va_D A [(h_roundDoors, .inl (cA.1 0, 12, .inl c_h_roundDoors)), (se, .inr (7, [.ref h, .ref se_row, .int se_places, .ref se_found, .int se_foundMany, .ref se_rr, .ref se_rp, .ref se_rs, .ref se_ro, .long se_meanTop, .long se_meanBottom])), (h_openers, .inl (cA.1 0, 5, .inl c_h_openers)), (se_row, .inl (cA.1 0, 10, .inl c_se_row)), (h, .inr (2, [.int h_features, .ref h_featureNames, .ref h_steps, .ref h_turnedFeatures, .ref h_sixteenths, .int h_keys, .ref h_keySteps, .int h_lent, .int h_rings, .ref h_on, .ref h_onMany, .int h_doors, .ref h_wanted, .ref h_openers, .ref h_seconds, .int h_turned, .int h_roundMany, .ref h_roundDoors])), (h_seconds, .inl (cA.1 0, 4, .inl c_h_seconds))] := hD
        obtain ⟨he_r_100, hw⟩ := hw
        refine lv_imul hx hb dX7_secondsOfRound_56 ?_
        refine lv_topi (fun x_103 he_x_103 => ?_)
        refine lv_aload_n hx hb dX7_secondsOfRound_57 rfl (lv_at hl 1 rfl) ?_
        refine va_get (D := G) (ci := 7) (v := .ref h) (C := RX7) (T := TX7) (N := 11) hx hb hts inT7 hown hK hP 1 rfl rfl 0 (by decide) (hts _ tw_479) (fun _ h9 => h9) rfl dX7_secondsOfRound_58 ?_
        refine lv_iconst (v := 1) hx hb dX7_secondsOfRound_61 (by decide) ?_
        refine z_callVi (As := [.int 1]) (rest := [.int x_103, .int v_55]) (wr := [(h_roundDoors, .inl (cA.1 0, 12, .inl c_h_roundDoors)), (se, .inr (7, [.ref h, .ref se_row, .int se_places, .ref se_found, .int se_foundMany, .ref se_rr, .ref se_rp, .ref se_rs, .ref se_ro, .long se_meanTop, .long se_meanBottom])), (h_openers, .inl (cA.1 0, 5, .inl c_h_openers)), (se_row, .inl (cA.1 0, 10, .inl c_se_row))]) ⟨hx, hb, hml, hown, hts⟩ hK hE hT hP hD hS hA (d_H_secondsOf l G cA h h_features h_featureNames h_steps h_turnedFeatures h_sixteenths h_keys h_keySteps h_lent h_rings h_on h_onMany h_doors h_wanted h_openers h_seconds h_turned h_roundMany h_roundDoors c_h_seconds 1 (by omega)) lk_RX7_67 ⟨rfl, rfl⟩ ⟨Nat.le_of_ble_eq_true rfl, Nat.le_of_ble_eq_true rfl⟩ 2 rfl rfl rfl [4, 5] [0, 1, 2, 3] rfl rfl (by decide) rfl hl.1 rfl (lv_room (Nat.le_of_ble_eq_true rfl)) dX7_secondsOfRound_62 ⟨Nat.le_of_ble_eq_true rfl, Nat.le_of_ble_eq_true rfl⟩ (fun r_104 u_105 H locs hw hP hD hS => ?_)
        have hP : va_P G vwCl [(h_roundDoors, .inl (cA.1 0, 12, .inl c_h_roundDoors)), (se, .inr (7, [.ref h, .ref se_row, .int se_places, .ref se_found, .int se_foundMany, .ref se_rr, .ref se_rp, .ref se_rs, .ref se_ro, .long se_meanTop, .long se_meanBottom])), (h_openers, .inl (cA.1 0, 5, .inl c_h_openers)), (se_row, .inl (cA.1 0, 10, .inl c_se_row)), (h, .inr (2, [.int h_features, .ref h_featureNames, .ref h_steps, .ref h_turnedFeatures, .ref h_sixteenths, .int h_keys, .ref h_keySteps, .int h_lent, .int h_rings, .ref h_on, .ref h_onMany, .int h_doors, .ref h_wanted, .ref h_openers, .ref h_seconds, .int h_turned, .int h_roundMany, .ref h_roundDoors])), (h_seconds, .inl (cA.1 0, 4, .inl c_h_seconds))] H := hP
        have hD : va_D A [(h_roundDoors, .inl (cA.1 0, 12, .inl c_h_roundDoors)), (se, .inr (7, [.ref h, .ref se_row, .int se_places, .ref se_found, .int se_foundMany, .ref se_rr, .ref se_rp, .ref se_rs, .ref se_ro, .long se_meanTop, .long se_meanBottom])), (h_openers, .inl (cA.1 0, 5, .inl c_h_openers)), (se_row, .inl (cA.1 0, 10, .inl c_se_row)), (h, .inr (2, [.int h_features, .ref h_featureNames, .ref h_steps, .ref h_turnedFeatures, .ref h_sixteenths, .int h_keys, .ref h_keySteps, .int h_lent, .int h_rings, .ref h_on, .ref h_onMany, .int h_doors, .ref h_wanted, .ref h_openers, .ref h_seconds, .int h_turned, .int h_roundMany, .ref h_roundDoors])), (h_seconds, .inl (cA.1 0, 4, .inl c_h_seconds))] := hD
        obtain ⟨he_r_104, hw⟩ := hw
        refine lv_iadd hx hb dX7_secondsOfRound_65 ?_
        refine lv_topi (fun x_107 he_x_107 => ?_)
        refine lv_iadd hx hb dX7_secondsOfRound_66 ?_
        refine lv_topi (fun x_108 he_x_108 => ?_)
        refine lv_istore_n (lv' := [(2, .int x_108), (4, .int r_93), (0, .ref se), (1, .int v_54), (3, .int v_56)]) hx hb dX7_secondsOfRound_67 rfl hl (by decide) rfl (fun ls hl => ?_)
        refine lv_iload_n hx hb dX7_secondsOfRound_68 rfl (lv_at hl 3 rfl) ?_
        refine lv_iload hx hb dX7_secondsOfRound_69 (lv_at hl 1 rfl) ?_
        refine lv_iadd hx hb dX7_secondsOfRound_71 ?_
        refine lv_topi (fun x_109 he_x_109 => ?_)
        refine lv_aload_n hx hb dX7_secondsOfRound_72 rfl (lv_at hl 2 rfl) ?_
        refine va_get (D := G) (ci := 7) (v := .int se_places) (C := RX7) (T := TX7) (N := 11) hx hb hts inT7 hown hK hP 1 rfl rfl 2 (by decide) (hts _ tw_481) (fun _ h9 => h9) rfl dX7_secondsOfRound_73 ?_
        refine z_callSNi (As := [.int x_109, .int se_places]) (rest := []) (wr := [(h_roundDoors, .inl (cA.1 0, 12, .inl c_h_roundDoors)), (se, .inr (7, [.ref h, .ref se_row, .int se_places, .ref se_found, .int se_foundMany, .ref se_rr, .ref se_rp, .ref se_rs, .ref se_ro, .long se_meanTop, .long se_meanBottom])), (h_openers, .inl (cA.1 0, 5, .inl c_h_openers)), (se_row, .inl (cA.1 0, 10, .inl c_se_row)), (h, .inr (2, [.int h_features, .ref h_featureNames, .ref h_steps, .ref h_turnedFeatures, .ref h_sixteenths, .int h_keys, .ref h_keySteps, .int h_lent, .int h_rings, .ref h_on, .ref h_onMany, .int h_doors, .ref h_wanted, .ref h_openers, .ref h_seconds, .int h_turned, .int h_roundMany, .ref h_roundDoors])), (h_seconds, .inl (cA.1 0, 4, .inl c_h_seconds))]) ⟨hx, hb, hml, hown, hts⟩ hK hE hT hP hD hS hA (d_Da_inRing l G cA x_109 se_places) lk_RX7_70 ⟨rfl, rfl⟩ ⟨Nat.le_of_ble_eq_true rfl, Nat.le_of_ble_eq_true rfl⟩ [] [0, 1, 2, 3, 4, 5] rfl rfl (by decide) rfl hl.1 rfl (lv_room (Nat.le_of_ble_eq_true rfl)) dX7_secondsOfRound_76 ⟨Nat.le_of_ble_eq_true rfl, Nat.le_of_ble_eq_true rfl⟩ (fun r_110 u_111 H locs hw hP hD hS => ?_)
        have hP : va_P G vwCl [(h_roundDoors, .inl (cA.1 0, 12, .inl c_h_roundDoors)), (se, .inr (7, [.ref h, .ref se_row, .int se_places, .ref se_found, .int se_foundMany, .ref se_rr, .ref se_rp, .ref se_rs, .ref se_ro, .long se_meanTop, .long se_meanBottom])), (h_openers, .inl (cA.1 0, 5, .inl c_h_openers)), (se_row, .inl (cA.1 0, 10, .inl c_se_row)), (h, .inr (2, [.int h_features, .ref h_featureNames, .ref h_steps, .ref h_turnedFeatures, .ref h_sixteenths, .int h_keys, .ref h_keySteps, .int h_lent, .int h_rings, .ref h_on, .ref h_onMany, .int h_doors, .ref h_wanted, .ref h_openers, .ref h_seconds, .int h_turned, .int h_roundMany, .ref h_roundDoors])), (h_seconds, .inl (cA.1 0, 4, .inl c_h_seconds))] H := hP
        have hD : va_D A [(h_roundDoors, .inl (cA.1 0, 12, .inl c_h_roundDoors)), (se, .inr (7, [.ref h, .ref se_row, .int se_places, .ref se_found, .int se_foundMany, .ref se_rr, .ref se_rp, .ref se_rs, .ref se_ro, .long se_meanTop, .long se_meanBottom])), (h_openers, .inl (cA.1 0, 5, .inl c_h_openers)), (se_row, .inl (cA.1 0, 10, .inl c_se_row)), (h, .inr (2, [.int h_features, .ref h_featureNames, .ref h_steps, .ref h_turnedFeatures, .ref h_sixteenths, .int h_keys, .ref h_keySteps, .int h_lent, .int h_rings, .ref h_on, .ref h_onMany, .int h_doors, .ref h_wanted, .ref h_openers, .ref h_seconds, .int h_turned, .int h_roundMany, .ref h_roundDoors])), (h_seconds, .inl (cA.1 0, 4, .inl c_h_seconds))] := hD
        obtain ⟨he_r_110, hw⟩ := hw
        refine lv_istore_n (lv' := [(1, .int r_110), (2, .int x_108), (4, .int r_93), (0, .ref se), (3, .int v_56)]) hx hb dX7_secondsOfRound_79 rfl hl (by decide) rfl (fun ls hl => ?_)
        refine lv_iinc (v := (v_56 + 1)) (lv' := [(3, .int (v_56 + 1)), (1, .int r_110), (2, .int x_108), (4, .int r_93), (0, .ref se)]) hx hb dX7_secondsOfRound_80 hl (k := 4) rfl (z_ofi (by decide +kernel)) (by decide) rfl (fun ls hl => ?_)
        refine lv_goto (tgt := 6) hx hb dX7_secondsOfRound_83 (by decide) ?_
        have hX_113 : F_Se_secondsOfRound se_places h_doors h_roundMany c_h_openers c_h_seconds c_h_roundDoors c_se_row = F_Se_secondsOfRound_L6a se_places h_doors h_roundMany c_h_openers c_h_seconds c_h_roundDoors c_se_row n_L6a r_110 x_108 (v_56 + 1) := by
          refine hF_L6a.trans ?_
          refine (F_Se_secondsOfRound_L6a_s ..).trans ?_
          refine (if_neg c_86).trans ?_
          extract_lets -merge -useContext +onlyGivenNames w9 y9; have e9 : r_90 = w9 := he_r_90; clear_value w9; subst e9
          extract_lets -merge -useContext +onlyGivenNames w9 y9; have e9 : r_93 = w9 := he_r_93; clear_value w9; subst e9
          try (extract_lets -merge -useContext +onlyGivenNames y9; have e9 : x_96 = y9 := (by first | exact he_x_96 | exact he_x_96.symm); clear_value y9; subst e9)
          extract_lets -merge -useContext +onlyGivenNames w9 y9; have e9 : r_97 = w9 := he_r_97; clear_value w9; subst e9
          extract_lets -merge -useContext +onlyGivenNames w9 y9; have e9 : r_100 = w9 := he_r_100; clear_value w9; subst e9
          try (extract_lets -merge -useContext +onlyGivenNames y9; have e9 : x_103 = y9 := (by first | exact he_x_103 | exact he_x_103.symm); clear_value y9; subst e9)
          extract_lets -merge -useContext +onlyGivenNames w9 y9; have e9 : r_104 = w9 := he_r_104; clear_value w9; subst e9
          try (extract_lets -merge -useContext +onlyGivenNames y9; have e9 : x_107 = y9 := (by first | exact he_x_107 | exact he_x_107.symm); clear_value y9; subst e9)
          try (extract_lets -merge -useContext +onlyGivenNames y9; have e9 : x_108 = y9 := (by first | exact he_x_108 | exact he_x_108.symm); clear_value y9; subst e9)
          try (extract_lets -merge -useContext +onlyGivenNames y9; have e9 : x_109 = y9 := (by first | exact he_x_109 | exact he_x_109.symm); clear_value y9; subst e9)
          extract_lets -merge -useContext +onlyGivenNames w9 y9; have e9 : r_110 = w9 := he_r_110; clear_value w9; subst e9
          exact rfl
        have hP := hP.sub (ws' := [(se, .inr (7, [.ref h, .ref se_row, .int se_places, .ref se_found, .int se_foundMany, .ref se_rr, .ref se_rp, .ref se_rs, .ref se_ro, .long se_meanTop, .long se_meanBottom])), (h, .inr (2, [.int h_features, .ref h_featureNames, .ref h_steps, .ref h_turnedFeatures, .ref h_sixteenths, .int h_keys, .ref h_keySteps, .int h_lent, .int h_rings, .ref h_on, .ref h_onMany, .int h_doors, .ref h_wanted, .ref h_openers, .ref h_seconds, .int h_turned, .int h_roundMany, .ref h_roundDoors])), (h_openers, .inl (cA.1 0, 5, .inl c_h_openers)), (h_seconds, .inl (cA.1 0, 4, .inl c_h_seconds)), (h_roundDoors, .inl (cA.1 0, 12, .inl c_h_roundDoors)), (se_row, .inl (cA.1 0, 10, .inl c_se_row))]) [1, 4, 2, 5, 0, 3] rfl
        have hD := hD.sub (ws' := [(se, .inr (7, [.ref h, .ref se_row, .int se_places, .ref se_found, .int se_foundMany, .ref se_rr, .ref se_rp, .ref se_rs, .ref se_ro, .long se_meanTop, .long se_meanBottom])), (h, .inr (2, [.int h_features, .ref h_featureNames, .ref h_steps, .ref h_turnedFeatures, .ref h_sixteenths, .int h_keys, .ref h_keySteps, .int h_lent, .int h_rings, .ref h_on, .ref h_onMany, .int h_doors, .ref h_wanted, .ref h_openers, .ref h_seconds, .int h_turned, .int h_roundMany, .ref h_roundDoors])), (h_openers, .inl (cA.1 0, 5, .inl c_h_openers)), (h_seconds, .inl (cA.1 0, 4, .inl c_h_seconds)), (h_roundDoors, .inl (cA.1 0, 12, .inl c_h_roundDoors)), (se_row, .inl (cA.1 0, 10, .inl c_se_row))]) [1, 4, 2, 5, 0, 3] (by decide) rfl
        exact ih_85 r_110 x_108 (v_56 + 1) H locs ls (z_up hmu_hlp_83 (by omega) trivial) (z_upc hi_84 (by omega) trivial) hX_113 hP hD hS (lv_sub hl [4, 1, 2, 0] rfl)
  have hX_114 : F_Se_secondsOfRound se_places h_doors h_roundMany c_h_openers c_h_seconds c_h_roundDoors c_se_row = F_Se_secondsOfRound_L6a se_places h_doors h_roundMany c_h_openers c_h_seconds c_h_roundDoors c_se_row ((2147483647 - (0 : Int32).toInt).toNat + 1) (0 : Int32) (0 : Int32) (0 : Int32) := by
    refine (F_Se_secondsOfRound_s ..).trans ?_
    exact rfl
  exact hlp_83 ((2147483647 - (0 : Int32).toInt).toNat + 1) 0 0 0 _ _ _ (Nat.lt_succ_self _) (by first | decide +kernel | omega) hX_114 hP hD hS (lv_sub hl [3, 2, 1, 0] rfl)
set_option maxHeartbeats 40000000 in
set_option maxRecDepth 100000 in
theorem d_Se_measured (l : Launch) (G : va_G) (cA : zCA) (se : Nat) (h : Nat) (se_row : Nat) (se_places : Int32) (se_found : Nat) (se_foundMany : Int32) (se_rr : Nat) (se_rp : Nat) (se_rs : Nat) (se_ro : Nat) (se_meanTop : Int64) (se_meanBottom : Int64) (h_features : Int32) (h_featureNames : Nat) (h_steps : Nat) (h_turnedFeatures : Nat) (h_sixteenths : Nat) (h_keys : Int32) (h_keySteps : Nat) (h_lent : Int32) (h_rings : Int32) (h_on : Nat) (h_onMany : Nat) (h_doors : Int32) (h_wanted : Nat) (h_openers : Nat) (h_seconds : Nat) (h_turned : Int32) (h_roundMany : Int32) (h_roundDoors : Nat) (c_h_wanted : Nat → Int32) (c_h_openers : Nat → Int32) (c_h_seconds : Nat → Int32) (c_h_roundDoors : Nat → Int32) (c_se_row : Nat → Int32) (k : Int32) (hm_h_features : 0 ≤ h_features.toInt ∧ h_features.toInt ≤ 3) : zCi l yX7_measured cX7_measured 2 (some .int) ({ frames := 5, cells := 0, slots := 0, locals := 114 }) G cA [.ref se, .int k] [(se, .inr (7, [.ref h, .ref se_row, .int se_places, .ref se_found, .int se_foundMany, .ref se_rr, .ref se_rp, .ref se_rs, .ref se_ro, .long se_meanTop, .long se_meanBottom])), (h, .inr (2, [.int h_features, .ref h_featureNames, .ref h_steps, .ref h_turnedFeatures, .ref h_sixteenths, .int h_keys, .ref h_keySteps, .int h_lent, .int h_rings, .ref h_on, .ref h_onMany, .int h_doors, .ref h_wanted, .ref h_openers, .ref h_seconds, .int h_turned, .int h_roundMany, .ref h_roundDoors])), (h_wanted, .inl (cA.1 0, 5, .inl c_h_wanted)), (h_openers, .inl (cA.1 0, 5, .inl c_h_openers)), (h_seconds, .inl (cA.1 0, 4, .inl c_h_seconds)), (h_roundDoors, .inl (cA.1 0, 12, .inl c_h_roundDoors)), (se_row, .inl (cA.1 0, 10, .inl c_se_row))] (S := Unit) (fun (r : Int32) (u : Unit) => (r = (F_Se_measured se_places h_doors h_roundMany c_h_wanted c_h_openers c_h_seconds c_h_roundDoors c_se_row k)) ∧ (True)) (fun (u : Unit) => [(se, .inr (7, [.ref h, .ref se_row, .int se_places, .ref se_found, .int se_foundMany, .ref se_rr, .ref se_rp, .ref se_rs, .ref se_ro, .long se_meanTop, .long se_meanBottom])), (h, .inr (2, [.int h_features, .ref h_featureNames, .ref h_steps, .ref h_turnedFeatures, .ref h_sixteenths, .int h_keys, .ref h_keySteps, .int h_lent, .int h_rings, .ref h_on, .ref h_onMany, .int h_doors, .ref h_wanted, .ref h_openers, .ref h_seconds, .int h_turned, .int h_roundMany, .ref h_roundDoors])), (h_wanted, .inl (cA.1 0, 5, .inl c_h_wanted)), (h_openers, .inl (cA.1 0, 5, .inl c_h_openers)), (h_seconds, .inl (cA.1 0, 4, .inl c_h_seconds)), (h_roundDoors, .inl (cA.1 0, 12, .inl c_h_roundDoors)), (se_row, .inl (cA.1 0, 10, .inl c_se_row))]) 0 0 := by
  refine z_start2i (own := RX7) (by decide) (Nat.le_of_ble_eq_true rfl) rfl ?_
  intro p e s m args below meth c A ls Q hx hb hml hts hown hK hE hT hP hD hS hA hl hret
  have hl : lv_has ls 2 [(0, .ref se), (1, .int k)] := hl
  refine lv_iload_n hx hb dX7_measured_0 rfl (lv_at hl 1 rfl) ?_
  refine lv_if_ne (tgt := 11) hx hb dX7_measured_1 (by decide) (fun c_1 => ?_) (fun c_1 => ?_)
  · skip
    refine lv_iload_n hx hb dX7_measured_11 rfl (lv_at hl 1 rfl) ?_
    refine lv_iconst (v := 1) hx hb dX7_measured_12 (by decide) ?_
    refine lv_icmp_ne (tgt := 21) hx hb dX7_measured_13 (by decide) (fun c_3 => ?_) (fun c_3 => ?_)
    · skip
      refine lv_aload_n hx hb dX7_measured_21 rfl (lv_at hl 0 rfl) ?_
      refine z_callVi (As := []) (rest := []) (wr := [(h_wanted, .inl (cA.1 0, 5, .inl c_h_wanted))]) ⟨hx, hb, hml, hown, hts⟩ hK hE hT hP hD hS hA (d_Se_secondsOfRound l G cA se h se_row se_places se_found se_foundMany se_rr se_rp se_rs se_ro se_meanTop se_meanBottom h_features h_featureNames h_steps h_turnedFeatures h_sixteenths h_keys h_keySteps h_lent h_rings h_on h_onMany h_doors h_wanted h_openers h_seconds h_turned h_roundMany h_roundDoors c_h_openers c_h_seconds c_h_roundDoors c_se_row (by omega)) lk_RX7_115 ⟨rfl, rfl⟩ ⟨Nat.le_of_ble_eq_true rfl, Nat.le_of_ble_eq_true rfl⟩ 7 rfl rfl rfl [0, 1, 3, 4, 5, 6] [2] rfl rfl (by decide) rfl hl.1 rfl (lv_room (Nat.le_of_ble_eq_true rfl)) dX7_measured_22 ⟨Nat.le_of_ble_eq_true rfl, Nat.le_of_ble_eq_true rfl⟩ (fun r_5 u_6 H locs hw hP hD hS => ?_)
      have hP : va_P G vwCl [(h_wanted, .inl (cA.1 0, 5, .inl c_h_wanted)), (se, .inr (7, [.ref h, .ref se_row, .int se_places, .ref se_found, .int se_foundMany, .ref se_rr, .ref se_rp, .ref se_rs, .ref se_ro, .long se_meanTop, .long se_meanBottom])), (h, .inr (2, [.int h_features, .ref h_featureNames, .ref h_steps, .ref h_turnedFeatures, .ref h_sixteenths, .int h_keys, .ref h_keySteps, .int h_lent, .int h_rings, .ref h_on, .ref h_onMany, .int h_doors, .ref h_wanted, .ref h_openers, .ref h_seconds, .int h_turned, .int h_roundMany, .ref h_roundDoors])), (h_openers, .inl (cA.1 0, 5, .inl c_h_openers)), (h_seconds, .inl (cA.1 0, 4, .inl c_h_seconds)), (h_roundDoors, .inl (cA.1 0, 12, .inl c_h_roundDoors)), (se_row, .inl (cA.1 0, 10, .inl c_se_row))] H := hP
      have hD : va_D A [(h_wanted, .inl (cA.1 0, 5, .inl c_h_wanted)), (se, .inr (7, [.ref h, .ref se_row, .int se_places, .ref se_found, .int se_foundMany, .ref se_rr, .ref se_rp, .ref se_rs, .ref se_ro, .long se_meanTop, .long se_meanBottom])), (h, .inr (2, [.int h_features, .ref h_featureNames, .ref h_steps, .ref h_turnedFeatures, .ref h_sixteenths, .int h_keys, .ref h_keySteps, .int h_lent, .int h_rings, .ref h_on, .ref h_onMany, .int h_doors, .ref h_wanted, .ref h_openers, .ref h_seconds, .int h_turned, .int h_roundMany, .ref h_roundDoors])), (h_openers, .inl (cA.1 0, 5, .inl c_h_openers)), (h_seconds, .inl (cA.1 0, 4, .inl c_h_seconds)), (h_roundDoors, .inl (cA.1 0, 12, .inl c_h_roundDoors)), (se_row, .inl (cA.1 0, 10, .inl c_se_row))] := hD
      obtain ⟨he_r_5, hw⟩ := hw
      have hX_8 : F_Se_measured se_places h_doors h_roundMany c_h_wanted c_h_openers c_h_seconds c_h_roundDoors c_se_row k = (r_5 : Int32) := by
        refine (F_Se_measured_s ..).trans ?_
        refine (if_neg c_1).trans ?_
        refine (if_neg c_3).trans ?_
        extract_lets -merge -useContext +onlyGivenNames w9 y9; have e9 : r_5 = w9 := he_r_5; clear_value w9; subst e9
        exact rfl
      exact hret _ _ _ _ _ _ () [1, 2, 0, 3, 4, 5, 6] hP hD hS rfl (by decide) dX7_measured_25 ⟨(congrArg (fun z9 => z9) hX_8).symm, trivial⟩
    · skip
      refine lv_aload_n hx hb dX7_measured_16 rfl (lv_at hl 0 rfl) ?_
      refine z_callVi (As := []) (rest := []) (wr := [(h_roundDoors, .inl (cA.1 0, 12, .inl c_h_roundDoors))]) ⟨hx, hb, hml, hown, hts⟩ hK hE hT hP hD hS hA (d_Se_wantedSecondsAnywhere l G cA se h se_row se_places se_found se_foundMany se_rr se_rp se_rs se_ro se_meanTop se_meanBottom h_features h_featureNames h_steps h_turnedFeatures h_sixteenths h_keys h_keySteps h_lent h_rings h_on h_onMany h_doors h_wanted h_openers h_seconds h_turned h_roundMany h_roundDoors c_h_wanted c_h_openers c_h_seconds c_se_row (by omega)) lk_RX7_111 ⟨rfl, rfl⟩ ⟨Nat.le_of_ble_eq_true rfl, Nat.le_of_ble_eq_true rfl⟩ 7 rfl rfl rfl [0, 1, 2, 3, 4, 6] [5] rfl rfl (by decide) rfl hl.1 rfl (lv_room (Nat.le_of_ble_eq_true rfl)) dX7_measured_17 ⟨Nat.le_of_ble_eq_true rfl, Nat.le_of_ble_eq_true rfl⟩ (fun r_10 u_11 H locs hw hP hD hS => ?_)
      have hP : va_P G vwCl [(h_roundDoors, .inl (cA.1 0, 12, .inl c_h_roundDoors)), (se, .inr (7, [.ref h, .ref se_row, .int se_places, .ref se_found, .int se_foundMany, .ref se_rr, .ref se_rp, .ref se_rs, .ref se_ro, .long se_meanTop, .long se_meanBottom])), (h, .inr (2, [.int h_features, .ref h_featureNames, .ref h_steps, .ref h_turnedFeatures, .ref h_sixteenths, .int h_keys, .ref h_keySteps, .int h_lent, .int h_rings, .ref h_on, .ref h_onMany, .int h_doors, .ref h_wanted, .ref h_openers, .ref h_seconds, .int h_turned, .int h_roundMany, .ref h_roundDoors])), (h_wanted, .inl (cA.1 0, 5, .inl c_h_wanted)), (h_openers, .inl (cA.1 0, 5, .inl c_h_openers)), (h_seconds, .inl (cA.1 0, 4, .inl c_h_seconds)), (se_row, .inl (cA.1 0, 10, .inl c_se_row))] H := hP
      have hD : va_D A [(h_roundDoors, .inl (cA.1 0, 12, .inl c_h_roundDoors)), (se, .inr (7, [.ref h, .ref se_row, .int se_places, .ref se_found, .int se_foundMany, .ref se_rr, .ref se_rp, .ref se_rs, .ref se_ro, .long se_meanTop, .long se_meanBottom])), (h, .inr (2, [.int h_features, .ref h_featureNames, .ref h_steps, .ref h_turnedFeatures, .ref h_sixteenths, .int h_keys, .ref h_keySteps, .int h_lent, .int h_rings, .ref h_on, .ref h_onMany, .int h_doors, .ref h_wanted, .ref h_openers, .ref h_seconds, .int h_turned, .int h_roundMany, .ref h_roundDoors])), (h_wanted, .inl (cA.1 0, 5, .inl c_h_wanted)), (h_openers, .inl (cA.1 0, 5, .inl c_h_openers)), (h_seconds, .inl (cA.1 0, 4, .inl c_h_seconds)), (se_row, .inl (cA.1 0, 10, .inl c_se_row))] := hD
      obtain ⟨he_r_10, hw⟩ := hw
      have hX_13 : F_Se_measured se_places h_doors h_roundMany c_h_wanted c_h_openers c_h_seconds c_h_roundDoors c_se_row k = (r_10 : Int32) := by
        refine (F_Se_measured_s ..).trans ?_
        refine (if_neg c_1).trans ?_
        refine (if_pos c_3).trans ?_
        extract_lets -merge -useContext +onlyGivenNames w9 y9; have e9 : r_10 = w9 := he_r_10; clear_value w9; subst e9
        exact rfl
      exact hret _ _ _ _ _ _ () [1, 2, 3, 4, 5, 0, 6] hP hD hS rfl (by decide) dX7_measured_20 ⟨(congrArg (fun z9 => z9) hX_13).symm, trivial⟩
  · skip
    refine lv_aload_n hx hb dX7_measured_4 rfl (lv_at hl 0 rfl) ?_
    refine lv_iconst (v := 0) hx hb dX7_measured_5 (by decide) ?_
    refine lv_iconst (v := 0) hx hb dX7_measured_6 (by decide) ?_
    refine z_callVi (As := [.int 0, .int 0]) (rest := []) (wr := [(h_roundDoors, .inl (cA.1 0, 12, .inl c_h_roundDoors))]) ⟨hx, hb, hml, hown, hts⟩ hK hE hT hP hD hS hA (d_Se_wantedSecondsFrom l G cA se h se_row se_places se_found se_foundMany se_rr se_rp se_rs se_ro se_meanTop se_meanBottom h_features h_featureNames h_steps h_turnedFeatures h_sixteenths h_keys h_keySteps h_lent h_rings h_on h_onMany h_doors h_wanted h_openers h_seconds h_turned h_roundMany h_roundDoors c_h_wanted c_h_openers c_h_seconds c_se_row 0 0 (by omega)) lk_RX7_108 ⟨rfl, rfl⟩ ⟨Nat.le_of_ble_eq_true rfl, Nat.le_of_ble_eq_true rfl⟩ 7 rfl rfl rfl [0, 1, 2, 3, 4, 6] [5] rfl rfl (by decide) rfl hl.1 rfl (lv_room (Nat.le_of_ble_eq_true rfl)) dX7_measured_7 ⟨Nat.le_of_ble_eq_true rfl, Nat.le_of_ble_eq_true rfl⟩ (fun r_15 u_16 H locs hw hP hD hS => ?_)
    have hP : va_P G vwCl [(h_roundDoors, .inl (cA.1 0, 12, .inl c_h_roundDoors)), (se, .inr (7, [.ref h, .ref se_row, .int se_places, .ref se_found, .int se_foundMany, .ref se_rr, .ref se_rp, .ref se_rs, .ref se_ro, .long se_meanTop, .long se_meanBottom])), (h, .inr (2, [.int h_features, .ref h_featureNames, .ref h_steps, .ref h_turnedFeatures, .ref h_sixteenths, .int h_keys, .ref h_keySteps, .int h_lent, .int h_rings, .ref h_on, .ref h_onMany, .int h_doors, .ref h_wanted, .ref h_openers, .ref h_seconds, .int h_turned, .int h_roundMany, .ref h_roundDoors])), (h_wanted, .inl (cA.1 0, 5, .inl c_h_wanted)), (h_openers, .inl (cA.1 0, 5, .inl c_h_openers)), (h_seconds, .inl (cA.1 0, 4, .inl c_h_seconds)), (se_row, .inl (cA.1 0, 10, .inl c_se_row))] H := hP
    have hD : va_D A [(h_roundDoors, .inl (cA.1 0, 12, .inl c_h_roundDoors)), (se, .inr (7, [.ref h, .ref se_row, .int se_places, .ref se_found, .int se_foundMany, .ref se_rr, .ref se_rp, .ref se_rs, .ref se_ro, .long se_meanTop, .long se_meanBottom])), (h, .inr (2, [.int h_features, .ref h_featureNames, .ref h_steps, .ref h_turnedFeatures, .ref h_sixteenths, .int h_keys, .ref h_keySteps, .int h_lent, .int h_rings, .ref h_on, .ref h_onMany, .int h_doors, .ref h_wanted, .ref h_openers, .ref h_seconds, .int h_turned, .int h_roundMany, .ref h_roundDoors])), (h_wanted, .inl (cA.1 0, 5, .inl c_h_wanted)), (h_openers, .inl (cA.1 0, 5, .inl c_h_openers)), (h_seconds, .inl (cA.1 0, 4, .inl c_h_seconds)), (se_row, .inl (cA.1 0, 10, .inl c_se_row))] := hD
    obtain ⟨he_r_15, hw⟩ := hw
    have hX_18 : F_Se_measured se_places h_doors h_roundMany c_h_wanted c_h_openers c_h_seconds c_h_roundDoors c_se_row k = (r_15 : Int32) := by
      refine (F_Se_measured_s ..).trans ?_
      refine (if_pos c_1).trans ?_
      extract_lets -merge -useContext +onlyGivenNames w9 y9; have e9 : r_15 = w9 := he_r_15; clear_value w9; subst e9
      exact rfl
    exact hret _ _ _ _ _ _ () [1, 2, 3, 4, 5, 0, 6] hP hD hS rfl (by decide) dX7_measured_10 ⟨(congrArg (fun z9 => z9) hX_18).symm, trivial⟩
set_option maxHeartbeats 40000000 in
set_option maxRecDepth 100000 in
theorem d_Se_keepFound_r (l : Launch) (G : va_G) (cA : zCA) (se : Nat) (h : Nat) (se_row : Nat) (se_places : Int32) (se_found : Nat) (se_foundMany : Int32) (se_rr : Nat) (se_rp : Nat) (se_rs : Nat) (se_ro : Nat) (se_meanTop : Int64) (se_meanBottom : Int64) (c_se_row : Nat → Int32) (c_se_found : Nat → Int32) (k : Int32) : zCv l yX7_keepFound cX7_keepFound 4 none ({ frames := 1, cells := 0, slots := 0, locals := 22 }) G cA [.ref se, .ref se_row, .int k] [(se, .inr (7, [.ref h, .ref se_row, .int se_places, .ref se_found, .int se_foundMany, .ref se_rr, .ref se_rp, .ref se_rs, .ref se_ro, .long se_meanTop, .long se_meanBottom])), (se_row, .inl (cA.1 0, 10, .inl c_se_row)), (se_found, .inl (cA.1 0, 10, .inl c_se_found))] (S := Int32 × (Nat → Int32)) (fun (u : Int32 × (Nat → Int32)) => (u.1 = (F_Se_keepFound_r c_se_row c_se_found k).1) ∧ (u.2 = (F_Se_keepFound_r c_se_row c_se_found k).2) ∧ (True)) (fun (u : Int32 × (Nat → Int32)) => [(se, .inr (7, [.ref h, .ref se_row, .int se_places, .ref se_found, .int u.1, .ref se_rr, .ref se_rp, .ref se_rs, .ref se_ro, .long se_meanTop, .long se_meanBottom])), (se_row, .inl (cA.1 0, 10, .inl c_se_row)), (se_found, .inl (cA.1 0, 10, .inl u.2))]) 0 0 := by
  refine z_start2v (own := RX7) (by decide) (Nat.le_of_ble_eq_true rfl) rfl ?_
  intro p e s m args below meth c A ls Q hx hb hml hts hown hK hE hT hP hD hS hA hl hret
  have hl : lv_has ls 4 [(0, .ref se), (1, .ref se_row), (2, .int k)] := hl
  refine lv_aload_n hx hb dX7_keepFound_0 rfl (lv_at hl 0 rfl) ?_
  refine lv_iload_n hx hb dX7_keepFound_1 rfl (lv_at hl 2 rfl) ?_
  refine va_put (D := G) (ci := 7) (v := .int k) (ty := .int) (C := RX7) (T := TX7) (N := 11) hx hb hts inT7 tyX7 tyX7_ok nmX7 hown hK hP hD hS 0 rfl rfl 4 (by decide) (hts _ tw_484) (fun _ h9 => h9) rfl (tyX7_ok 4 (by decide)) rfl rfl (Nat.le_of_ble_eq_true rfl) dX7_keepFound_2 (fun H locs hP hD hS => ?_)
  have hP : va_P G vwCl [(se, .inr (7, [.ref h, .ref se_row, .int se_places, .ref se_found, .int k, .ref se_rr, .ref se_rp, .ref se_rs, .ref se_ro, .long se_meanTop, .long se_meanBottom])), (se_row, .inl (cA.1 0, 10, .inl c_se_row)), (se_found, .inl (cA.1 0, 10, .inl c_se_found))] H := hP
  have hD : va_D A [(se, .inr (7, [.ref h, .ref se_row, .int se_places, .ref se_found, .int k, .ref se_rr, .ref se_rp, .ref se_rs, .ref se_ro, .long se_meanTop, .long se_meanBottom])), (se_row, .inl (cA.1 0, 10, .inl c_se_row)), (se_found, .inl (cA.1 0, 10, .inl c_se_found))] := hD
  refine lv_iconst (v := 0) hx hb dX7_keepFound_5 (by decide) ?_
  refine lv_istore_n (lv' := [(3, .int 0), (0, .ref se), (1, .ref se_row), (2, .int k)]) hx hb dX7_keepFound_6 rfl hl (by decide) rfl (fun ls hl => ?_)
  have hlp_33 : ∀ (n_L7a : Nat) (v_21 : Int32) (g_22 : Nat → Int32) (H : Heap) (locs : List Loc) (ls : Array Slot), (2147483647 - v_21.toInt).toNat < n_L7a → (0 ≤ v_21.toInt) → (F_Se_keepFound_r c_se_row c_se_found k = F_Se_keepFound_r_L7a c_se_row k n_L7a v_21 g_22) → va_P G vwCl [(se, .inr (7, [.ref h, .ref se_row, .int se_places, .ref se_found, .int k, .ref se_rr, .ref se_rp, .ref se_rs, .ref se_ro, .long se_meanTop, .long se_meanBottom])), (se_row, .inl (cA.1 0, 10, .inl c_se_row)), (se_found, .inl (cA.1 0, 10, .inl g_22))] H → va_D A [(se, .inr (7, [.ref h, .ref se_row, .int se_places, .ref se_found, .int k, .ref se_rr, .ref se_rp, .ref se_rs, .ref se_ro, .long se_meanTop, .long se_meanBottom])), (se_row, .inl (cA.1 0, 10, .inl c_se_row)), (se_found, .inl (cA.1 0, 10, .inl g_22))] → va_S A s.heap H locs → lv_has ls 4 [(0, .ref se), (1, .ref se_row), (2, .int k), (3, .int v_21)] → W p l e ({ frames := 1, cells := 0, slots := 0, locals := 22 }) s m args below meth c H locs 0 0 Q (F0 m 7 ls []) := by
    intro n_L7a
    induction n_L7a with
    | zero =>
      intro v_21 g_22 H locs ls hmu_hlp_33 hi_34 hF_L7a hP hD hS hl
      exact absurd hmu_hlp_33 (Nat.not_lt_zero _)
    | succ n_L7a ih_35 =>
      intro v_21 g_22 H locs ls hmu_hlp_33 hi_34 hF_L7a hP hD hS hl
      refine lv_iload_n hx hb dX7_keepFound_7 rfl (lv_at hl 3 rfl) ?_
      refine lv_iload_n hx hb dX7_keepFound_8 rfl (lv_at hl 2 rfl) ?_
      refine lv_icmp_ge (tgt := 31) hx hb dX7_keepFound_9 (by decide) (fun c_36 => ?_) (fun c_36 => ?_)
      · have b_37 := z_s1 c_36
        have hX_38 : F_Se_keepFound_r c_se_row c_se_found k = ((k, g_22) : Int32 × (Nat → Int32)) := by
          refine hF_L7a.trans ?_
          refine (F_Se_keepFound_r_L7a_s ..).trans ?_
          refine (if_pos c_36).trans ?_
          exact rfl
        exact hret _ _ _ _ _ (k, g_22) [0, 1, 2] hP hD hS rfl (by decide) dX7_keepFound_31 ⟨(congrArg (fun z9 => z9.1) hX_38).symm, (congrArg (fun z9 => z9.2) hX_38).symm, trivial⟩
      · have b_39 := z_t2 c_36
        refine lv_aload_n hx hb dX7_keepFound_12 rfl (lv_at hl 0 rfl) ?_
        refine va_get (D := G) (ci := 7) (v := .ref se_found) (C := RX7) (T := TX7) (N := 11) hx hb hts inT7 hown hK hP 0 rfl rfl 3 (by decide) (hts _ tw_483) (fun _ h9 => h9) rfl dX7_keepFound_13 ?_
        refine lv_iload_n hx hb dX7_keepFound_16 rfl (lv_at hl 3 rfl) ?_
        refine lv_aload_n hx hb dX7_keepFound_17 rfl (lv_at hl 1 rfl) ?_
        refine lv_iload_n hx hb dX7_keepFound_18 rfl (lv_at hl 3 rfl) ?_
        refine z_callSNi (As := [.ref se_row, .int v_21]) (rest := [.int v_21, .ref se_found]) (wr := [(se, .inr (7, [.ref h, .ref se_row, .int se_places, .ref se_found, .int k, .ref se_rr, .ref se_rp, .ref se_rs, .ref se_ro, .long se_meanTop, .long se_meanBottom])), (se_found, .inl (cA.1 0, 10, .inl g_22))]) ⟨hx, hb, hml, hown, hts⟩ hK hE hT hP hD hS hA (d_at_10 l G cA se_row c_se_row v_21) lk_RX7_55 ⟨rfl, rfl⟩ ⟨Nat.le_of_ble_eq_true rfl, Nat.le_of_ble_eq_true rfl⟩ [1] [0, 2] rfl rfl (by decide) rfl hl.1 rfl (lv_room (Nat.le_of_ble_eq_true rfl)) dX7_keepFound_19 ⟨Nat.le_of_ble_eq_true rfl, Nat.le_of_ble_eq_true rfl⟩ (fun r_40 u_41 H locs hw hP hD hS => ?_)
        have hP : va_P G vwCl [(se, .inr (7, [.ref h, .ref se_row, .int se_places, .ref se_found, .int k, .ref se_rr, .ref se_rp, .ref se_rs, .ref se_ro, .long se_meanTop, .long se_meanBottom])), (se_found, .inl (cA.1 0, 10, .inl g_22)), (se_row, .inl (cA.1 0, 10, .inl c_se_row))] H := hP
        have hD : va_D A [(se, .inr (7, [.ref h, .ref se_row, .int se_places, .ref se_found, .int k, .ref se_rr, .ref se_rp, .ref se_rs, .ref se_ro, .long se_meanTop, .long se_meanBottom])), (se_found, .inl (cA.1 0, 10, .inl g_22)), (se_row, .inl (cA.1 0, 10, .inl c_se_row))] := hD
        obtain ⟨he_r_40, hw⟩ := hw
        refine z_callSNv (As := [.ref se_found, .int v_21, .int r_40]) (rest := []) (wr := [(se, .inr (7, [.ref h, .ref se_row, .int se_places, .ref se_found, .int k, .ref se_rr, .ref se_rp, .ref se_rs, .ref se_ro, .long se_meanTop, .long se_meanBottom])), (se_row, .inl (cA.1 0, 10, .inl c_se_row))]) ⟨hx, hb, hml, hown, hts⟩ hK hE hT hP hD hS hA (d_keepAt_10 l G cA se_found g_22 v_21 r_40) lk_RX7_132 ⟨rfl, rfl⟩ ⟨Nat.le_of_ble_eq_true rfl, Nat.le_of_ble_eq_true rfl⟩ [1] [0, 2] rfl rfl (by decide) rfl hl.1 rfl (lv_room (Nat.le_of_ble_eq_true rfl)) dX7_keepFound_22 ⟨Nat.le_of_ble_eq_true rfl, Nat.le_of_ble_eq_true rfl⟩ (fun u_45 H locs hw hP hD hS => ?_)
        obtain ⟨nw0_43, rfl⟩ : ∃ z, z = u_45 := ⟨_, rfl⟩
        have hP : va_P G vwCl [(se, .inr (7, [.ref h, .ref se_row, .int se_places, .ref se_found, .int k, .ref se_rr, .ref se_rp, .ref se_rs, .ref se_ro, .long se_meanTop, .long se_meanBottom])), (se_row, .inl (cA.1 0, 10, .inl c_se_row)), (se_found, .inl (cA.1 0, 10, .inl nw0_43))] H := hP
        have hD : va_D A [(se, .inr (7, [.ref h, .ref se_row, .int se_places, .ref se_found, .int k, .ref se_rr, .ref se_rp, .ref se_rs, .ref se_ro, .long se_meanTop, .long se_meanBottom])), (se_row, .inl (cA.1 0, 10, .inl c_se_row)), (se_found, .inl (cA.1 0, 10, .inl nw0_43))] := hD
        obtain ⟨he_nw0_43, hw⟩ := hw
        refine lv_iinc (v := (v_21 + 1)) (lv' := [(3, .int (v_21 + 1)), (0, .ref se), (1, .ref se_row), (2, .int k)]) hx hb dX7_keepFound_25 hl (k := 3) rfl (z_ofi (by decide +kernel)) (by decide) rfl (fun ls hl => ?_)
        refine lv_goto (tgt := 7) hx hb dX7_keepFound_28 (by decide) ?_
        have hX_47 : F_Se_keepFound_r c_se_row c_se_found k = F_Se_keepFound_r_L7a c_se_row k n_L7a (v_21 + 1) nw0_43 := by
          refine hF_L7a.trans ?_
          refine (F_Se_keepFound_r_L7a_s ..).trans ?_
          refine (if_neg c_36).trans ?_
          extract_lets -merge -useContext +onlyGivenNames w9 y9; have e9 : r_40 = w9 := he_r_40; clear_value w9; subst e9
          extract_lets -merge -useContext +onlyGivenNames w9 y9; have e9 : nw0_43 = w9 := he_nw0_43; clear_value w9; subst e9
          exact rfl
        exact ih_35 (v_21 + 1) nw0_43 H locs ls (z_up hmu_hlp_33 (by omega) trivial) (z_upc hi_34 (by omega) trivial) hX_47 hP hD hS (lv_sub hl [1, 2, 3, 0] rfl)
  have hX_48 : F_Se_keepFound_r c_se_row c_se_found k = F_Se_keepFound_r_L7a c_se_row k ((2147483647 - (0 : Int32).toInt).toNat + 1) (0 : Int32) c_se_found := by
    refine (F_Se_keepFound_r_s ..).trans ?_
    exact rfl
  exact hlp_33 ((2147483647 - (0 : Int32).toInt).toNat + 1) 0 c_se_found _ _ _ (Nat.lt_succ_self _) (by first | decide +kernel | omega) hX_48 hP hD hS (lv_sub hl [1, 2, 3, 0] rfl)
set_option maxHeartbeats 40000000 in
set_option maxRecDepth 100000 in
theorem d_Se_keepFound_q (l : Launch) (G : va_G) (cA : zCA) (se : Nat) (h : Nat) (se_row : Nat) (se_places : Int32) (se_found : Nat) (se_foundMany : Int32) (se_rr : Nat) (se_rp : Nat) (se_rs : Nat) (se_ro : Nat) (se_meanTop : Int64) (se_meanBottom : Int64) (c_se_found : Nat → Int32) (c_se_rr : Nat → Int32) (k : Int32) : zCv l yX7_keepFound cX7_keepFound 4 none ({ frames := 1, cells := 0, slots := 0, locals := 22 }) G cA [.ref se, .ref se_rr, .int k] [(se, .inr (7, [.ref h, .ref se_row, .int se_places, .ref se_found, .int se_foundMany, .ref se_rr, .ref se_rp, .ref se_rs, .ref se_ro, .long se_meanTop, .long se_meanBottom])), (se_found, .inl (cA.1 0, 10, .inl c_se_found)), (se_rr, .inl (cA.1 0, 3, .inl c_se_rr))] (S := Int32 × (Nat → Int32)) (fun (u : Int32 × (Nat → Int32)) => (u.1 = (F_Se_keepFound_q c_se_found c_se_rr k).1) ∧ (u.2 = (F_Se_keepFound_q c_se_found c_se_rr k).2) ∧ (True)) (fun (u : Int32 × (Nat → Int32)) => [(se, .inr (7, [.ref h, .ref se_row, .int se_places, .ref se_found, .int u.1, .ref se_rr, .ref se_rp, .ref se_rs, .ref se_ro, .long se_meanTop, .long se_meanBottom])), (se_found, .inl (cA.1 0, 10, .inl u.2)), (se_rr, .inl (cA.1 0, 3, .inl c_se_rr))]) 0 0 := by
  refine z_start2v (own := RX7) (by decide) (Nat.le_of_ble_eq_true rfl) rfl ?_
  intro p e s m args below meth c A ls Q hx hb hml hts hown hK hE hT hP hD hS hA hl hret
  have hl : lv_has ls 4 [(0, .ref se), (1, .ref se_rr), (2, .int k)] := hl
  refine lv_aload_n hx hb dX7_keepFound_0 rfl (lv_at hl 0 rfl) ?_
  refine lv_iload_n hx hb dX7_keepFound_1 rfl (lv_at hl 2 rfl) ?_
  refine va_put (D := G) (ci := 7) (v := .int k) (ty := .int) (C := RX7) (T := TX7) (N := 11) hx hb hts inT7 tyX7 tyX7_ok nmX7 hown hK hP hD hS 0 rfl rfl 4 (by decide) (hts _ tw_484) (fun _ h9 => h9) rfl (tyX7_ok 4 (by decide)) rfl rfl (Nat.le_of_ble_eq_true rfl) dX7_keepFound_2 (fun H locs hP hD hS => ?_)
  have hP : va_P G vwCl [(se, .inr (7, [.ref h, .ref se_row, .int se_places, .ref se_found, .int k, .ref se_rr, .ref se_rp, .ref se_rs, .ref se_ro, .long se_meanTop, .long se_meanBottom])), (se_found, .inl (cA.1 0, 10, .inl c_se_found)), (se_rr, .inl (cA.1 0, 3, .inl c_se_rr))] H := hP
  have hD : va_D A [(se, .inr (7, [.ref h, .ref se_row, .int se_places, .ref se_found, .int k, .ref se_rr, .ref se_rp, .ref se_rs, .ref se_ro, .long se_meanTop, .long se_meanBottom])), (se_found, .inl (cA.1 0, 10, .inl c_se_found)), (se_rr, .inl (cA.1 0, 3, .inl c_se_rr))] := hD
  refine lv_iconst (v := 0) hx hb dX7_keepFound_5 (by decide) ?_
  refine lv_istore_n (lv' := [(3, .int 0), (0, .ref se), (1, .ref se_rr), (2, .int k)]) hx hb dX7_keepFound_6 rfl hl (by decide) rfl (fun ls hl => ?_)
  have hlp_33 : ∀ (n_L7a : Nat) (v_21 : Int32) (g_22 : Nat → Int32) (H : Heap) (locs : List Loc) (ls : Array Slot), (2147483647 - v_21.toInt).toNat < n_L7a → (0 ≤ v_21.toInt) → (F_Se_keepFound_q c_se_found c_se_rr k = F_Se_keepFound_q_L7a c_se_rr k n_L7a v_21 g_22) → va_P G vwCl [(se, .inr (7, [.ref h, .ref se_row, .int se_places, .ref se_found, .int k, .ref se_rr, .ref se_rp, .ref se_rs, .ref se_ro, .long se_meanTop, .long se_meanBottom])), (se_found, .inl (cA.1 0, 10, .inl g_22)), (se_rr, .inl (cA.1 0, 3, .inl c_se_rr))] H → va_D A [(se, .inr (7, [.ref h, .ref se_row, .int se_places, .ref se_found, .int k, .ref se_rr, .ref se_rp, .ref se_rs, .ref se_ro, .long se_meanTop, .long se_meanBottom])), (se_found, .inl (cA.1 0, 10, .inl g_22)), (se_rr, .inl (cA.1 0, 3, .inl c_se_rr))] → va_S A s.heap H locs → lv_has ls 4 [(0, .ref se), (1, .ref se_rr), (2, .int k), (3, .int v_21)] → W p l e ({ frames := 1, cells := 0, slots := 0, locals := 22 }) s m args below meth c H locs 0 0 Q (F0 m 7 ls []) := by
    intro n_L7a
    induction n_L7a with
    | zero =>
      intro v_21 g_22 H locs ls hmu_hlp_33 hi_34 hF_L7a hP hD hS hl
      exact absurd hmu_hlp_33 (Nat.not_lt_zero _)
    | succ n_L7a ih_35 =>
      intro v_21 g_22 H locs ls hmu_hlp_33 hi_34 hF_L7a hP hD hS hl
      refine lv_iload_n hx hb dX7_keepFound_7 rfl (lv_at hl 3 rfl) ?_
      refine lv_iload_n hx hb dX7_keepFound_8 rfl (lv_at hl 2 rfl) ?_
      refine lv_icmp_ge (tgt := 31) hx hb dX7_keepFound_9 (by decide) (fun c_36 => ?_) (fun c_36 => ?_)
      · have b_37 := z_s1 c_36
        have hX_38 : F_Se_keepFound_q c_se_found c_se_rr k = ((k, g_22) : Int32 × (Nat → Int32)) := by
          refine hF_L7a.trans ?_
          refine (F_Se_keepFound_q_L7a_s ..).trans ?_
          refine (if_pos c_36).trans ?_
          exact rfl
        exact hret _ _ _ _ _ (k, g_22) [0, 1, 2] hP hD hS rfl (by decide) dX7_keepFound_31 ⟨(congrArg (fun z9 => z9.1) hX_38).symm, (congrArg (fun z9 => z9.2) hX_38).symm, trivial⟩
      · have b_39 := z_t2 c_36
        refine lv_aload_n hx hb dX7_keepFound_12 rfl (lv_at hl 0 rfl) ?_
        refine va_get (D := G) (ci := 7) (v := .ref se_found) (C := RX7) (T := TX7) (N := 11) hx hb hts inT7 hown hK hP 0 rfl rfl 3 (by decide) (hts _ tw_483) (fun _ h9 => h9) rfl dX7_keepFound_13 ?_
        refine lv_iload_n hx hb dX7_keepFound_16 rfl (lv_at hl 3 rfl) ?_
        refine lv_aload_n hx hb dX7_keepFound_17 rfl (lv_at hl 1 rfl) ?_
        refine lv_iload_n hx hb dX7_keepFound_18 rfl (lv_at hl 3 rfl) ?_
        refine z_callSNi (As := [.ref se_rr, .int v_21]) (rest := [.int v_21, .ref se_found]) (wr := [(se, .inr (7, [.ref h, .ref se_row, .int se_places, .ref se_found, .int k, .ref se_rr, .ref se_rp, .ref se_rs, .ref se_ro, .long se_meanTop, .long se_meanBottom])), (se_found, .inl (cA.1 0, 10, .inl g_22))]) ⟨hx, hb, hml, hown, hts⟩ hK hE hT hP hD hS hA (d_at_3 l G cA se_rr c_se_rr v_21) lk_RX7_55 ⟨rfl, rfl⟩ ⟨Nat.le_of_ble_eq_true rfl, Nat.le_of_ble_eq_true rfl⟩ [2] [0, 1] rfl rfl (by decide) rfl hl.1 rfl (lv_room (Nat.le_of_ble_eq_true rfl)) dX7_keepFound_19 ⟨Nat.le_of_ble_eq_true rfl, Nat.le_of_ble_eq_true rfl⟩ (fun r_40 u_41 H locs hw hP hD hS => ?_)
        have hP : va_P G vwCl [(se, .inr (7, [.ref h, .ref se_row, .int se_places, .ref se_found, .int k, .ref se_rr, .ref se_rp, .ref se_rs, .ref se_ro, .long se_meanTop, .long se_meanBottom])), (se_found, .inl (cA.1 0, 10, .inl g_22)), (se_rr, .inl (cA.1 0, 3, .inl c_se_rr))] H := hP
        have hD : va_D A [(se, .inr (7, [.ref h, .ref se_row, .int se_places, .ref se_found, .int k, .ref se_rr, .ref se_rp, .ref se_rs, .ref se_ro, .long se_meanTop, .long se_meanBottom])), (se_found, .inl (cA.1 0, 10, .inl g_22)), (se_rr, .inl (cA.1 0, 3, .inl c_se_rr))] := hD
        obtain ⟨he_r_40, hw⟩ := hw
        have hx_r_40 := hw
        refine z_callSNv (As := [.ref se_found, .int v_21, .int r_40]) (rest := []) (wr := [(se, .inr (7, [.ref h, .ref se_row, .int se_places, .ref se_found, .int k, .ref se_rr, .ref se_rp, .ref se_rs, .ref se_ro, .long se_meanTop, .long se_meanBottom])), (se_rr, .inl (cA.1 0, 3, .inl c_se_rr))]) ⟨hx, hb, hml, hown, hts⟩ hK hE hT hP hD hS hA (d_keepAt_10 l G cA se_found g_22 v_21 r_40) lk_RX7_132 ⟨rfl, rfl⟩ ⟨Nat.le_of_ble_eq_true rfl, Nat.le_of_ble_eq_true rfl⟩ [1] [0, 2] rfl rfl (by decide) rfl hl.1 rfl (lv_room (Nat.le_of_ble_eq_true rfl)) dX7_keepFound_22 ⟨Nat.le_of_ble_eq_true rfl, Nat.le_of_ble_eq_true rfl⟩ (fun u_45 H locs hw hP hD hS => ?_)
        obtain ⟨nw0_43, rfl⟩ : ∃ z, z = u_45 := ⟨_, rfl⟩
        have hP : va_P G vwCl [(se, .inr (7, [.ref h, .ref se_row, .int se_places, .ref se_found, .int k, .ref se_rr, .ref se_rp, .ref se_rs, .ref se_ro, .long se_meanTop, .long se_meanBottom])), (se_rr, .inl (cA.1 0, 3, .inl c_se_rr)), (se_found, .inl (cA.1 0, 10, .inl nw0_43))] H := hP
        have hD : va_D A [(se, .inr (7, [.ref h, .ref se_row, .int se_places, .ref se_found, .int k, .ref se_rr, .ref se_rp, .ref se_rs, .ref se_ro, .long se_meanTop, .long se_meanBottom])), (se_rr, .inl (cA.1 0, 3, .inl c_se_rr)), (se_found, .inl (cA.1 0, 10, .inl nw0_43))] := hD
        obtain ⟨he_nw0_43, hw⟩ := hw
        refine lv_iinc (v := (v_21 + 1)) (lv' := [(3, .int (v_21 + 1)), (0, .ref se), (1, .ref se_rr), (2, .int k)]) hx hb dX7_keepFound_25 hl (k := 3) rfl (z_ofi (by decide +kernel)) (by decide) rfl (fun ls hl => ?_)
        refine lv_goto (tgt := 7) hx hb dX7_keepFound_28 (by decide) ?_
        have hX_47 : F_Se_keepFound_q c_se_found c_se_rr k = F_Se_keepFound_q_L7a c_se_rr k n_L7a (v_21 + 1) nw0_43 := by
          refine hF_L7a.trans ?_
          refine (F_Se_keepFound_q_L7a_s ..).trans ?_
          refine (if_neg c_36).trans ?_
          extract_lets -merge -useContext +onlyGivenNames w9 y9; have e9 : r_40 = w9 := he_r_40; clear_value w9; subst e9
          extract_lets -merge -useContext +onlyGivenNames w9 y9; have e9 : nw0_43 = w9 := he_nw0_43; clear_value w9; subst e9
          exact rfl
        have hP := hP.sub (ws' := [(se, .inr (7, [.ref h, .ref se_row, .int se_places, .ref se_found, .int k, .ref se_rr, .ref se_rp, .ref se_rs, .ref se_ro, .long se_meanTop, .long se_meanBottom])), (se_found, .inl (cA.1 0, 10, .inl nw0_43)), (se_rr, .inl (cA.1 0, 3, .inl c_se_rr))]) [0, 2, 1] rfl
        have hD := hD.sub (ws' := [(se, .inr (7, [.ref h, .ref se_row, .int se_places, .ref se_found, .int k, .ref se_rr, .ref se_rp, .ref se_rs, .ref se_ro, .long se_meanTop, .long se_meanBottom])), (se_found, .inl (cA.1 0, 10, .inl nw0_43)), (se_rr, .inl (cA.1 0, 3, .inl c_se_rr))]) [0, 2, 1] (by decide) rfl
        exact ih_35 (v_21 + 1) nw0_43 H locs ls (z_up hmu_hlp_33 (by omega) trivial) (z_upc hi_34 (by omega) trivial) hX_47 hP hD hS (lv_sub hl [1, 2, 3, 0] rfl)
  have hX_48 : F_Se_keepFound_q c_se_found c_se_rr k = F_Se_keepFound_q_L7a c_se_rr k ((2147483647 - (0 : Int32).toInt).toNat + 1) (0 : Int32) c_se_found := by
    refine (F_Se_keepFound_q_s ..).trans ?_
    exact rfl
  exact hlp_33 ((2147483647 - (0 : Int32).toInt).toNat + 1) 0 c_se_found _ _ _ (Nat.lt_succ_self _) (by first | decide +kernel | omega) hX_48 hP hD hS (lv_sub hl [1, 2, 3, 0] rfl)
set_option maxHeartbeats 40000000 in
set_option maxRecDepth 100000 in
theorem d_Se_swap_r (l : Launch) (G : va_G) (cA : zCA) (se_row : Nat) (c_se_row : Nat → Int32) (k : Int32) (j : Int32) : zCv l yX7_swap cX7_swap 4 none ({ frames := 1, cells := 0, slots := 0, locals := 22 }) G cA [.ref se_row, .int k, .int j] [(se_row, .inl (cA.1 0, 10, .inl c_se_row))] (S := (Nat → Int32)) (fun (u : (Nat → Int32)) => (u = (F_Se_swap_r c_se_row k j)) ∧ (True)) (fun (u : (Nat → Int32)) => [(se_row, .inl (cA.1 0, 10, .inl u))]) 0 0 := by
  refine z_start2v (own := RX7) (by decide) (Nat.le_of_ble_eq_true rfl) rfl ?_
  intro p e s m args below meth c A ls Q hx hb hml hts hown hK hE hT hP hD hS hA hl hret
  have hl : lv_has ls 4 [(0, .ref se_row), (1, .int k), (2, .int j)] := hl
  refine lv_aload_n hx hb dX7_swap_0 rfl (lv_at hl 0 rfl) ?_
  refine lv_iload_n hx hb dX7_swap_1 rfl (lv_at hl 1 rfl) ?_
  refine z_callSNi (As := [.ref se_row, .int k]) (rest := []) (wr := []) ⟨hx, hb, hml, hown, hts⟩ hK hE hT hP hD hS hA (d_at_10 l G cA se_row c_se_row k) lk_RX7_55 ⟨rfl, rfl⟩ ⟨Nat.le_of_ble_eq_true rfl, Nat.le_of_ble_eq_true rfl⟩ [0] [] rfl rfl (by decide) rfl hl.1 rfl (lv_room (Nat.le_of_ble_eq_true rfl)) dX7_swap_2 ⟨Nat.le_of_ble_eq_true rfl, Nat.le_of_ble_eq_true rfl⟩ (fun r_1 u_2 H locs hw hP hD hS => ?_)
  have hP : va_P G vwCl [(se_row, .inl (cA.1 0, 10, .inl c_se_row))] H := hP
  have hD : va_D A [(se_row, .inl (cA.1 0, 10, .inl c_se_row))] := hD
  obtain ⟨he_r_1, hw⟩ := hw
  refine lv_istore_n (lv' := [(3, .int r_1), (0, .ref se_row), (1, .int k), (2, .int j)]) hx hb dX7_swap_5 rfl hl (by decide) rfl (fun ls hl => ?_)
  refine lv_aload_n hx hb dX7_swap_6 rfl (lv_at hl 1 rfl) ?_
  refine lv_iload_n hx hb dX7_swap_7 rfl (lv_at hl 2 rfl) ?_
  refine lv_aload_n hx hb dX7_swap_8 rfl (lv_at hl 1 rfl) ?_
  refine lv_iload_n hx hb dX7_swap_9 rfl (lv_at hl 3 rfl) ?_
  refine z_callSNi (As := [.ref se_row, .int j]) (rest := [.int k, .ref se_row]) (wr := []) ⟨hx, hb, hml, hown, hts⟩ hK hE hT hP hD hS hA (d_at_10 l G cA se_row c_se_row j) lk_RX7_55 ⟨rfl, rfl⟩ ⟨Nat.le_of_ble_eq_true rfl, Nat.le_of_ble_eq_true rfl⟩ [0] [] rfl rfl (by decide) rfl hl.1 rfl (lv_room (Nat.le_of_ble_eq_true rfl)) dX7_swap_10 ⟨Nat.le_of_ble_eq_true rfl, Nat.le_of_ble_eq_true rfl⟩ (fun r_4 u_5 H locs hw hP hD hS => ?_)
  have hP : va_P G vwCl [(se_row, .inl (cA.1 0, 10, .inl c_se_row))] H := hP
  have hD : va_D A [(se_row, .inl (cA.1 0, 10, .inl c_se_row))] := hD
  obtain ⟨he_r_4, hw⟩ := hw
  refine z_callSNv (As := [.ref se_row, .int k, .int r_4]) (rest := []) (wr := []) ⟨hx, hb, hml, hown, hts⟩ hK hE hT hP hD hS hA (d_keepAt_10 l G cA se_row c_se_row k r_4) lk_RX7_132 ⟨rfl, rfl⟩ ⟨Nat.le_of_ble_eq_true rfl, Nat.le_of_ble_eq_true rfl⟩ [0] [] rfl rfl (by decide) rfl hl.1 rfl (lv_room (Nat.le_of_ble_eq_true rfl)) dX7_swap_13 ⟨Nat.le_of_ble_eq_true rfl, Nat.le_of_ble_eq_true rfl⟩ (fun u_9 H locs hw hP hD hS => ?_)
  obtain ⟨nw0_7, rfl⟩ : ∃ z, z = u_9 := ⟨_, rfl⟩
  have hP : va_P G vwCl [(se_row, .inl (cA.1 0, 10, .inl nw0_7))] H := hP
  have hD : va_D A [(se_row, .inl (cA.1 0, 10, .inl nw0_7))] := hD
  obtain ⟨he_nw0_7, hw⟩ := hw
  refine lv_aload_n hx hb dX7_swap_16 rfl (lv_at hl 1 rfl) ?_
  refine lv_iload_n hx hb dX7_swap_17 rfl (lv_at hl 3 rfl) ?_
  refine lv_iload_n hx hb dX7_swap_18 rfl (lv_at hl 0 rfl) ?_
  refine z_callSNv (As := [.ref se_row, .int j, .int r_1]) (rest := []) (wr := []) ⟨hx, hb, hml, hown, hts⟩ hK hE hT hP hD hS hA (d_keepAt_10 l G cA se_row nw0_7 j r_1) lk_RX7_132 ⟨rfl, rfl⟩ ⟨Nat.le_of_ble_eq_true rfl, Nat.le_of_ble_eq_true rfl⟩ [0] [] rfl rfl (by decide) rfl hl.1 rfl (lv_room (Nat.le_of_ble_eq_true rfl)) dX7_swap_19 ⟨Nat.le_of_ble_eq_true rfl, Nat.le_of_ble_eq_true rfl⟩ (fun u_13 H locs hw hP hD hS => ?_)
  obtain ⟨nw0_11, rfl⟩ : ∃ z, z = u_13 := ⟨_, rfl⟩
  have hP : va_P G vwCl [(se_row, .inl (cA.1 0, 10, .inl nw0_11))] H := hP
  have hD : va_D A [(se_row, .inl (cA.1 0, 10, .inl nw0_11))] := hD
  obtain ⟨he_nw0_11, hw⟩ := hw
  have hX_15 : F_Se_swap_r c_se_row k j = (nw0_11 : (Nat → Int32)) := by
    refine (F_Se_swap_r_s ..).trans ?_
    extract_lets -merge -useContext +onlyGivenNames w9 y9; have e9 : r_1 = w9 := he_r_1; clear_value w9; subst e9
    extract_lets -merge -useContext +onlyGivenNames w9 y9; have e9 : r_4 = w9 := he_r_4; clear_value w9; subst e9
    extract_lets -merge -useContext +onlyGivenNames w9 y9; have e9 : nw0_7 = w9 := he_nw0_7; clear_value w9; subst e9
    extract_lets -merge -useContext +onlyGivenNames w9 y9; have e9 : nw0_11 = w9 := he_nw0_11; clear_value w9; subst e9
    exact rfl
  exact hret _ _ _ _ _ nw0_11 [0] hP hD hS rfl (by decide) dX7_swap_22 ⟨(congrArg (fun z9 => z9) hX_15).symm, trivial⟩
set_option maxHeartbeats 40000000 in
set_option maxRecDepth 100000 in
theorem d_Se_swap_q (l : Launch) (G : va_G) (cA : zCA) (se_rr : Nat) (c_se_rr : Nat → Int32) (k : Int32) (j : Int32) : zCv l yX7_swap cX7_swap 4 none ({ frames := 1, cells := 0, slots := 0, locals := 22 }) G cA [.ref se_rr, .int k, .int j] [(se_rr, .inl (cA.1 0, 3, .inl c_se_rr))] (S := (Nat → Int32)) (fun (u : (Nat → Int32)) => (u = (F_Se_swap_q c_se_rr k j)) ∧ (True)) (fun (u : (Nat → Int32)) => [(se_rr, .inl (cA.1 0, 3, .inl u))]) 0 0 := by
  refine z_start2v (own := RX7) (by decide) (Nat.le_of_ble_eq_true rfl) rfl ?_
  intro p e s m args below meth c A ls Q hx hb hml hts hown hK hE hT hP hD hS hA hl hret
  have hl : lv_has ls 4 [(0, .ref se_rr), (1, .int k), (2, .int j)] := hl
  refine lv_aload_n hx hb dX7_swap_0 rfl (lv_at hl 0 rfl) ?_
  refine lv_iload_n hx hb dX7_swap_1 rfl (lv_at hl 1 rfl) ?_
  refine z_callSNi (As := [.ref se_rr, .int k]) (rest := []) (wr := []) ⟨hx, hb, hml, hown, hts⟩ hK hE hT hP hD hS hA (d_at_3 l G cA se_rr c_se_rr k) lk_RX7_55 ⟨rfl, rfl⟩ ⟨Nat.le_of_ble_eq_true rfl, Nat.le_of_ble_eq_true rfl⟩ [0] [] rfl rfl (by decide) rfl hl.1 rfl (lv_room (Nat.le_of_ble_eq_true rfl)) dX7_swap_2 ⟨Nat.le_of_ble_eq_true rfl, Nat.le_of_ble_eq_true rfl⟩ (fun r_1 u_2 H locs hw hP hD hS => ?_)
  have hP : va_P G vwCl [(se_rr, .inl (cA.1 0, 3, .inl c_se_rr))] H := hP
  have hD : va_D A [(se_rr, .inl (cA.1 0, 3, .inl c_se_rr))] := hD
  obtain ⟨he_r_1, hw⟩ := hw
  have hx_r_1 := hw
  refine lv_istore_n (lv' := [(3, .int r_1), (0, .ref se_rr), (1, .int k), (2, .int j)]) hx hb dX7_swap_5 rfl hl (by decide) rfl (fun ls hl => ?_)
  refine lv_aload_n hx hb dX7_swap_6 rfl (lv_at hl 1 rfl) ?_
  refine lv_iload_n hx hb dX7_swap_7 rfl (lv_at hl 2 rfl) ?_
  refine lv_aload_n hx hb dX7_swap_8 rfl (lv_at hl 1 rfl) ?_
  refine lv_iload_n hx hb dX7_swap_9 rfl (lv_at hl 3 rfl) ?_
  refine z_callSNi (As := [.ref se_rr, .int j]) (rest := [.int k, .ref se_rr]) (wr := []) ⟨hx, hb, hml, hown, hts⟩ hK hE hT hP hD hS hA (d_at_3 l G cA se_rr c_se_rr j) lk_RX7_55 ⟨rfl, rfl⟩ ⟨Nat.le_of_ble_eq_true rfl, Nat.le_of_ble_eq_true rfl⟩ [0] [] rfl rfl (by decide) rfl hl.1 rfl (lv_room (Nat.le_of_ble_eq_true rfl)) dX7_swap_10 ⟨Nat.le_of_ble_eq_true rfl, Nat.le_of_ble_eq_true rfl⟩ (fun r_4 u_5 H locs hw hP hD hS => ?_)
  have hP : va_P G vwCl [(se_rr, .inl (cA.1 0, 3, .inl c_se_rr))] H := hP
  have hD : va_D A [(se_rr, .inl (cA.1 0, 3, .inl c_se_rr))] := hD
  obtain ⟨he_r_4, hw⟩ := hw
  have hx_r_4 := hw
  refine z_callSNv (As := [.ref se_rr, .int k, .int r_4]) (rest := []) (wr := []) ⟨hx, hb, hml, hown, hts⟩ hK hE hT hP hD hS hA (d_keepAt_3 l G cA se_rr c_se_rr k r_4) lk_RX7_132 ⟨rfl, rfl⟩ ⟨Nat.le_of_ble_eq_true rfl, Nat.le_of_ble_eq_true rfl⟩ [0] [] rfl rfl (by decide) rfl hl.1 rfl (lv_room (Nat.le_of_ble_eq_true rfl)) dX7_swap_13 ⟨Nat.le_of_ble_eq_true rfl, Nat.le_of_ble_eq_true rfl⟩ (fun u_9 H locs hw hP hD hS => ?_)
  obtain ⟨nw0_7, rfl⟩ : ∃ z, z = u_9 := ⟨_, rfl⟩
  have hP : va_P G vwCl [(se_rr, .inl (cA.1 0, 3, .inl nw0_7))] H := hP
  have hD : va_D A [(se_rr, .inl (cA.1 0, 3, .inl nw0_7))] := hD
  obtain ⟨he_nw0_7, hw⟩ := hw
  have hx_nw0_7 := hw
  refine lv_aload_n hx hb dX7_swap_16 rfl (lv_at hl 1 rfl) ?_
  refine lv_iload_n hx hb dX7_swap_17 rfl (lv_at hl 3 rfl) ?_
  refine lv_iload_n hx hb dX7_swap_18 rfl (lv_at hl 0 rfl) ?_
  refine z_callSNv (As := [.ref se_rr, .int j, .int r_1]) (rest := []) (wr := []) ⟨hx, hb, hml, hown, hts⟩ hK hE hT hP hD hS hA (d_keepAt_3 l G cA se_rr nw0_7 j r_1) lk_RX7_132 ⟨rfl, rfl⟩ ⟨Nat.le_of_ble_eq_true rfl, Nat.le_of_ble_eq_true rfl⟩ [0] [] rfl rfl (by decide) rfl hl.1 rfl (lv_room (Nat.le_of_ble_eq_true rfl)) dX7_swap_19 ⟨Nat.le_of_ble_eq_true rfl, Nat.le_of_ble_eq_true rfl⟩ (fun u_13 H locs hw hP hD hS => ?_)
  obtain ⟨nw0_11, rfl⟩ : ∃ z, z = u_13 := ⟨_, rfl⟩
  have hP : va_P G vwCl [(se_rr, .inl (cA.1 0, 3, .inl nw0_11))] H := hP
  have hD : va_D A [(se_rr, .inl (cA.1 0, 3, .inl nw0_11))] := hD
  obtain ⟨he_nw0_11, hw⟩ := hw
  have hx_nw0_11 := hw
  have hX_15 : F_Se_swap_q c_se_rr k j = (nw0_11 : (Nat → Int32)) := by
    refine (F_Se_swap_q_s ..).trans ?_
    extract_lets -merge -useContext +onlyGivenNames w9 y9; have e9 : r_1 = w9 := he_r_1; clear_value w9; subst e9
    extract_lets -merge -useContext +onlyGivenNames w9 y9; have e9 : r_4 = w9 := he_r_4; clear_value w9; subst e9
    extract_lets -merge -useContext +onlyGivenNames w9 y9; have e9 : nw0_7 = w9 := he_nw0_7; clear_value w9; subst e9
    extract_lets -merge -useContext +onlyGivenNames w9 y9; have e9 : nw0_11 = w9 := he_nw0_11; clear_value w9; subst e9
    exact rfl
  exact hret _ _ _ _ _ nw0_11 [0] hP hD hS rfl (by decide) dX7_swap_22 ⟨(congrArg (fun z9 => z9) hX_15).symm, trivial⟩
set_option maxHeartbeats 40000000 in
set_option maxRecDepth 100000 in
theorem d_Se_sortUp (l : Launch) (G : va_G) (cA : zCA) (se_row : Nat) (c_se_row : Nat → Int32) (k : Int32) : zCv l yX7_sortUp cX7_sortUp 4 none ({ frames := 2, cells := 0, slots := 0, locals := 45 }) G cA [.ref se_row, .int k] [(se_row, .inl (cA.1 0, 10, .inl c_se_row))] (S := (Nat → Int32)) (fun (u : (Nat → Int32)) => (u = (F_Se_sortUp c_se_row k)) ∧ (True)) (fun (u : (Nat → Int32)) => [(se_row, .inl (cA.1 0, 10, .inl u))]) 0 0 := by
  refine z_start2v (own := RX7) (by decide) (Nat.le_of_ble_eq_true rfl) rfl ?_
  intro p e s m args below meth c A ls Q hx hb hml hts hown hK hE hT hP hD hS hA hl hret
  have hl : lv_has ls 4 [(0, .ref se_row), (1, .int k)] := hl
  refine lv_iconst (v := 1) hx hb dX7_sortUp_0 (by decide) ?_
  refine lv_istore_n (lv' := [(2, .int 1), (0, .ref se_row), (1, .int k)]) hx hb dX7_sortUp_1 rfl hl (by decide) rfl (fun ls hl => ?_)
  have hlp_189 : ∀ (n_L2a : Nat) (v_113 : Int32) (g_114 : Nat → Int32) (H : Heap) (locs : List Loc) (ls : Array Slot), (2147483647 - v_113.toInt).toNat < n_L2a → (1 ≤ v_113.toInt) → (F_Se_sortUp c_se_row k = F_Se_sortUp_L2a k n_L2a v_113 g_114) → va_P G vwCl [(se_row, .inl (cA.1 0, 10, .inl g_114))] H → va_D A [(se_row, .inl (cA.1 0, 10, .inl g_114))] → va_S A s.heap H locs → lv_has ls 4 [(0, .ref se_row), (1, .int k), (2, .int v_113)] → W p l e ({ frames := 2, cells := 0, slots := 0, locals := 45 }) s m args below meth c H locs 0 0 Q (F0 m 2 ls []) := by
    intro n_L2a
    induction n_L2a with
    | zero =>
      intro v_113 g_114 H locs ls hmu_hlp_189 hi_190 hF_L2a hP hD hS hl
      exact absurd hmu_hlp_189 (Nat.not_lt_zero _)
    | succ n_L2a ih_191 =>
      intro v_113 g_114 H locs ls hmu_hlp_189 hi_190 hF_L2a hP hD hS hl
      refine lv_iload_n hx hb dX7_sortUp_2 rfl (lv_at hl 2 rfl) ?_
      refine lv_iload_n hx hb dX7_sortUp_3 rfl (lv_at hl 1 rfl) ?_
      refine lv_icmp_ge (tgt := 48) hx hb dX7_sortUp_4 (by decide) (fun c_192 => ?_) (fun c_192 => ?_)
      · have b_193 := z_s1 c_192
        have hX_194 : F_Se_sortUp c_se_row k = (g_114 : (Nat → Int32)) := by
          refine hF_L2a.trans ?_
          refine (F_Se_sortUp_L2a_s ..).trans ?_
          refine (if_pos c_192).trans ?_
          exact rfl
        exact hret _ _ _ _ _ g_114 [0] hP hD hS rfl (by decide) dX7_sortUp_48 ⟨(congrArg (fun z9 => z9) hX_194).symm, trivial⟩
      · have b_195 := z_t2 c_192
        refine lv_iload_n hx hb dX7_sortUp_7 rfl (lv_at hl 2 rfl) ?_
        refine lv_istore_n (lv' := [(3, .int v_113), (0, .ref se_row), (1, .int k), (2, .int v_113)]) hx hb dX7_sortUp_8 rfl hl (by decide) rfl (fun ls hl => ?_)
        have hlp_248 : ∀ (n_L9a : Nat) (v_230 : Int32) (g_231 : Nat → Int32) (H : Heap) (locs : List Loc) (ls : Array Slot), (v_230.toInt + 2147483648).toNat < n_L9a → (F_Se_sortUp c_se_row k = F_Se_sortUp_L9a v_113 (F_Se_sortUp_L2a k n_L2a) n_L9a v_230 g_231) → va_P G vwCl [(se_row, .inl (cA.1 0, 10, .inl g_231))] H → va_D A [(se_row, .inl (cA.1 0, 10, .inl g_231))] → va_S A s.heap H locs → lv_has ls 4 [(0, .ref se_row), (1, .int k), (2, .int v_113), (3, .int v_230)] → W p l e ({ frames := 2, cells := 0, slots := 0, locals := 45 }) s m args below meth c H locs 0 0 Q (F0 m 9 ls []) := by
          intro n_L9a
          induction n_L9a with
          | zero =>
            intro v_230 g_231 H locs ls hmu_hlp_248 hF_L9a hP hD hS hl
            exact absurd hmu_hlp_248 (Nat.not_lt_zero _)
          | succ n_L9a ih_249 =>
            intro v_230 g_231 H locs ls hmu_hlp_248 hF_L9a hP hD hS hl
            refine lv_iload_n hx hb dX7_sortUp_9 rfl (lv_at hl 3 rfl) ?_
            refine lv_if_le (tgt := 42) hx hb dX7_sortUp_10 (by decide) (fun c_250 => ?_) (fun c_250 => ?_)
            · have b_251 := z_b5 c_250 (K := 0) (by decide +kernel)
              refine lv_iinc (v := (v_113 + 1)) (lv' := [(2, .int (v_113 + 1)), (0, .ref se_row), (1, .int k), (3, .int v_230)]) hx hb dX7_sortUp_42 hl (k := 2) rfl (z_ofi (by decide +kernel)) (by decide) rfl (fun ls hl => ?_)
              refine lv_goto (tgt := 2) hx hb dX7_sortUp_45 (by decide) ?_
              have hX_252 : F_Se_sortUp c_se_row k = F_Se_sortUp_L2a k n_L2a (v_113 + 1) g_231 := by
                refine hF_L9a.trans ?_
                refine (F_Se_sortUp_L9a_s ..).trans ?_
                refine (if_pos c_250).trans ?_
                exact rfl
              exact ih_191 (v_113 + 1) g_231 H locs ls (z_up hmu_hlp_189 (by omega) trivial) (z_upc hi_190 (by omega) trivial) hX_252 hP hD hS (lv_sub hl [1, 2, 0] rfl)
            · have b_253 := z_b6 c_250 (K := 0) (by decide +kernel)
              refine lv_aload_n hx hb dX7_sortUp_13 rfl (lv_at hl 0 rfl) ?_
              refine lv_iload_n hx hb dX7_sortUp_14 rfl (lv_at hl 3 rfl) ?_
              refine lv_iconst (v := 1) hx hb dX7_sortUp_15 (by decide) ?_
              refine lv_isub hx hb dX7_sortUp_16 ?_
              refine z_callSNi (As := [.ref se_row, .int (v_230 - 1)]) (rest := []) (wr := []) ⟨hx, hb, hml, hown, hts⟩ hK hE hT hP hD hS hA (d_at_10 l G cA se_row g_231 (v_230 - 1)) lk_RX7_55 ⟨rfl, rfl⟩ ⟨Nat.le_of_ble_eq_true rfl, Nat.le_of_ble_eq_true rfl⟩ [0] [] rfl rfl (by decide) rfl hl.1 rfl (lv_room (Nat.le_of_ble_eq_true rfl)) dX7_sortUp_17 ⟨Nat.le_of_ble_eq_true rfl, Nat.le_of_ble_eq_true rfl⟩ (fun r_254 u_255 H locs hw hP hD hS => ?_)
              have hP : va_P G vwCl [(se_row, .inl (cA.1 0, 10, .inl g_231))] H := hP
              have hD : va_D A [(se_row, .inl (cA.1 0, 10, .inl g_231))] := hD
              obtain ⟨he_r_254, hw⟩ := hw
              refine lv_aload_n hx hb dX7_sortUp_20 rfl (lv_at hl 0 rfl) ?_
              refine lv_iload_n hx hb dX7_sortUp_21 rfl (lv_at hl 3 rfl) ?_
              refine z_callSNi (As := [.ref se_row, .int v_230]) (rest := [.int r_254]) (wr := []) ⟨hx, hb, hml, hown, hts⟩ hK hE hT hP hD hS hA (d_at_10 l G cA se_row g_231 v_230) lk_RX7_55 ⟨rfl, rfl⟩ ⟨Nat.le_of_ble_eq_true rfl, Nat.le_of_ble_eq_true rfl⟩ [0] [] rfl rfl (by decide) rfl hl.1 rfl (lv_room (Nat.le_of_ble_eq_true rfl)) dX7_sortUp_22 ⟨Nat.le_of_ble_eq_true rfl, Nat.le_of_ble_eq_true rfl⟩ (fun r_257 u_258 H locs hw hP hD hS => ?_)
              have hP : va_P G vwCl [(se_row, .inl (cA.1 0, 10, .inl g_231))] H := hP
              have hD : va_D A [(se_row, .inl (cA.1 0, 10, .inl g_231))] := hD
              obtain ⟨he_r_257, hw⟩ := hw
              refine lv_icmp_le (tgt := 42) hx hb dX7_sortUp_25 (by decide) (fun c_260 => ?_) (fun c_260 => ?_)
              · have b_261 := z_s5 c_260
                refine lv_iinc (v := (v_113 + 1)) (lv' := [(2, .int (v_113 + 1)), (0, .ref se_row), (1, .int k), (3, .int v_230)]) hx hb dX7_sortUp_42 hl (k := 2) rfl (z_ofi (by decide +kernel)) (by decide) rfl (fun ls hl => ?_)
                refine lv_goto (tgt := 2) hx hb dX7_sortUp_45 (by decide) ?_
                have hX_262 : F_Se_sortUp c_se_row k = F_Se_sortUp_L2a k n_L2a (v_113 + 1) g_231 := by
                  refine hF_L9a.trans ?_
                  refine (F_Se_sortUp_L9a_s ..).trans ?_
                  refine (if_neg c_250).trans ?_
                  extract_lets -merge -useContext +onlyGivenNames w9 y9; have e9 : r_254 = w9 := he_r_254; clear_value w9; subst e9
                  extract_lets -merge -useContext +onlyGivenNames w9 y9; have e9 : r_257 = w9 := he_r_257; clear_value w9; subst e9
                  refine (if_pos c_260).trans ?_
                  exact rfl
                exact ih_191 (v_113 + 1) g_231 H locs ls (z_up hmu_hlp_189 (by omega) trivial) (z_upc hi_190 (by omega) trivial) hX_262 hP hD hS (lv_sub hl [1, 2, 0] rfl)
              · have b_263 := z_t6 c_260
                refine lv_aload_n hx hb dX7_sortUp_28 rfl (lv_at hl 0 rfl) ?_
                refine lv_iload_n hx hb dX7_sortUp_29 rfl (lv_at hl 3 rfl) ?_
                refine lv_iconst (v := 1) hx hb dX7_sortUp_30 (by decide) ?_
                refine lv_isub hx hb dX7_sortUp_31 ?_
                refine lv_iload_n hx hb dX7_sortUp_32 rfl (lv_at hl 3 rfl) ?_
                refine z_callSv (As := [.ref se_row, .int (v_230 - 1), .int v_230]) (rest := []) (wr := []) ⟨hx, hb, hml, hown, hts⟩ hK hE hT hP hD hS hA (d_Se_swap_r l G cA se_row g_231 (v_230 - 1) v_230) lk_RX7_136 ⟨rfl, rfl⟩ ⟨Nat.le_of_ble_eq_true rfl, Nat.le_of_ble_eq_true rfl⟩ [0] [] rfl rfl (by decide) rfl hl.1 rfl (lv_room (Nat.le_of_ble_eq_true rfl)) dX7_sortUp_33 ⟨Nat.le_of_ble_eq_true rfl, Nat.le_of_ble_eq_true rfl⟩ (fun u_266 H locs hw hP hD hS => ?_)
                obtain ⟨nw0_264, rfl⟩ : ∃ z, z = u_266 := ⟨_, rfl⟩
                have hP : va_P G vwCl [(se_row, .inl (cA.1 0, 10, .inl nw0_264))] H := hP
                have hD : va_D A [(se_row, .inl (cA.1 0, 10, .inl nw0_264))] := hD
                obtain ⟨he_nw0_264, hw⟩ := hw
                refine lv_iinc (v := (v_230 + (-1))) (lv' := [(3, .int (v_230 + (-1))), (0, .ref se_row), (1, .int k), (2, .int v_113)]) hx hb dX7_sortUp_36 hl (k := 3) rfl (z_ofi (by decide +kernel)) (by decide) rfl (fun ls hl => ?_)
                refine lv_goto (tgt := 9) hx hb dX7_sortUp_39 (by decide) ?_
                have hX_268 : F_Se_sortUp c_se_row k = F_Se_sortUp_L9a v_113 (F_Se_sortUp_L2a k n_L2a) n_L9a (v_230 + (-1)) nw0_264 := by
                  refine hF_L9a.trans ?_
                  refine (F_Se_sortUp_L9a_s ..).trans ?_
                  refine (if_neg c_250).trans ?_
                  extract_lets -merge -useContext +onlyGivenNames w9 y9; have e9 : r_254 = w9 := he_r_254; clear_value w9; subst e9
                  extract_lets -merge -useContext +onlyGivenNames w9 y9; have e9 : r_257 = w9 := he_r_257; clear_value w9; subst e9
                  refine (if_neg c_260).trans ?_
                  extract_lets -merge -useContext +onlyGivenNames w9 y9; have e9 : nw0_264 = w9 := he_nw0_264; clear_value w9; subst e9
                  exact rfl
                exact ih_249 (v_230 + (-1)) nw0_264 H locs ls (z_dn hmu_hlp_248 (by omega) trivial) hX_268 hP hD hS (lv_sub hl [1, 2, 3, 0] rfl)
        have hX_269 : F_Se_sortUp c_se_row k = F_Se_sortUp_L9a v_113 (F_Se_sortUp_L2a k n_L2a) ((v_113.toInt + 2147483648).toNat + 1) v_113 g_114 := by
          refine hF_L2a.trans ?_
          refine (F_Se_sortUp_L2a_s ..).trans ?_
          refine (if_neg c_192).trans ?_
          exact rfl
        exact hlp_248 ((v_113.toInt + 2147483648).toNat + 1) v_113 g_114 _ _ _ (Nat.lt_succ_self _) hX_269 hP hD hS (lv_sub hl [1, 2, 3, 0] rfl)
  have hX_270 : F_Se_sortUp c_se_row k = F_Se_sortUp_L2a k ((2147483647 - (1 : Int32).toInt).toNat + 1) (1 : Int32) c_se_row := by
    refine (F_Se_sortUp_s ..).trans ?_
    exact rfl
  exact hlp_189 ((2147483647 - (1 : Int32).toInt).toNat + 1) 1 c_se_row _ _ _ (Nat.lt_succ_self _) (by first | decide +kernel | omega) hX_270 hP hD hS (lv_sub hl [1, 2, 0] rfl)
set_option maxHeartbeats 40000000 in
set_option maxRecDepth 100000 in
theorem d_Se_nextOrder_r (l : Launch) (G : va_G) (cA : zCA) (se_row : Nat) (c_se_row : Nat → Int32) (k : Int32) : zCi l yX7_nextOrder cX7_nextOrder 6 (some .boolean) ({ frames := 2, cells := 0, slots := 0, locals := 45 }) G cA [.ref se_row, .int k] [(se_row, .inl (cA.1 0, 10, .inl c_se_row))] (S := (Nat → Int32)) (fun (r : Int32) (u : (Nat → Int32)) => (r = (F_Se_nextOrder_r c_se_row k).1) ∧ (u = (F_Se_nextOrder_r c_se_row k).2) ∧ (r = 0 ∨ r = 1)) (fun (u : (Nat → Int32)) => [(se_row, .inl (cA.1 0, 10, .inl u))]) 0 0 := by
  refine z_start2z (own := RX7) (by decide) (Nat.le_of_ble_eq_true rfl) rfl ?_
  intro p e s m args below meth c A ls Q hx hb hml hts hown hK hE hT hP hD hS hA hl hret
  have hl : lv_has ls 6 [(0, .ref se_row), (1, .int k)] := hl
  refine lv_iload_n hx hb dX7_nextOrder_0 rfl (lv_at hl 1 rfl) ?_
  refine lv_iconst (v := 2) hx hb dX7_nextOrder_1 (by decide) ?_
  refine lv_isub hx hb dX7_nextOrder_2 ?_
  refine lv_istore_n (lv' := [(2, .int (k - 2)), (0, .ref se_row), (1, .int k)]) hx hb dX7_nextOrder_3 rfl hl (by decide) rfl (fun ls hl => ?_)
  have hlp_267 : ∀ (n_L4a : Nat) (v_28 : Int32) (H : Heap) (locs : List Loc) (ls : Array Slot), (v_28.toInt + 2147483648).toNat < n_L4a → (F_Se_nextOrder_r c_se_row k = F_Se_nextOrder_r_L4a c_se_row k n_L4a v_28) → va_P G vwCl [(se_row, .inl (cA.1 0, 10, .inl c_se_row))] H → va_D A [(se_row, .inl (cA.1 0, 10, .inl c_se_row))] → va_S A s.heap H locs → lv_has ls 6 [(0, .ref se_row), (1, .int k), (2, .int v_28)] → W p l e ({ frames := 2, cells := 0, slots := 0, locals := 45 }) s m args below meth c H locs 0 0 Q (F0 m 4 ls []) := by
    intro n_L4a
    induction n_L4a with
    | zero =>
      intro v_28 H locs ls hmu_hlp_267 hF_L4a hP hD hS hl
      exact absurd hmu_hlp_267 (Nat.not_lt_zero _)
    | succ n_L4a ih_268 =>
      intro v_28 H locs ls hmu_hlp_267 hF_L4a hP hD hS hl
      refine lv_iload_n hx hb dX7_nextOrder_4 rfl (lv_at hl 2 rfl) ?_
      refine lv_if_lt (tgt := 29) hx hb dX7_nextOrder_5 (by decide) (fun c_269 => ?_) (fun c_269 => ?_)
      · have b_270 := z_b3 c_269 (K := 0) (by decide +kernel)
        refine lv_iload_n hx hb dX7_nextOrder_29 rfl (lv_at hl 2 rfl) ?_
        refine lv_if_ge (tgt := 35) hx hb dX7_nextOrder_30 (by decide) (fun h9 => absurd h9 (fun h8 => absurd ((z_ige (K := 0) (by decide +kernel)).mp h8) (by omega))) (fun _ => ?_)
        refine lv_iconst (v := 0) hx hb dX7_nextOrder_33 (by decide) ?_
        have hX_271 : F_Se_nextOrder_r c_se_row k = (((0 : Int32), c_se_row) : Int32 × (Nat → Int32)) := by
          refine hF_L4a.trans ?_
          refine (F_Se_nextOrder_r_L4a_s ..).trans ?_
          refine (if_pos c_269).trans ?_
          exact rfl
        exact hret _ _ _ _ _ _ c_se_row [0] hP hD hS rfl (by decide) dX7_nextOrder_34 (Or.inl rfl) ⟨(congrArg (fun z9 => z9.1) hX_271).symm, (congrArg (fun z9 => z9.2) hX_271).symm, (Or.inl rfl)⟩
      · have b_272 := z_b4 c_269 (K := 0) (by decide +kernel)
        refine lv_aload_n hx hb dX7_nextOrder_8 rfl (lv_at hl 0 rfl) ?_
        refine lv_iload_n hx hb dX7_nextOrder_9 rfl (lv_at hl 2 rfl) ?_
        refine z_callSNi (As := [.ref se_row, .int v_28]) (rest := []) (wr := []) ⟨hx, hb, hml, hown, hts⟩ hK hE hT hP hD hS hA (d_at_10 l G cA se_row c_se_row v_28) lk_RX7_55 ⟨rfl, rfl⟩ ⟨Nat.le_of_ble_eq_true rfl, Nat.le_of_ble_eq_true rfl⟩ [0] [] rfl rfl (by decide) rfl hl.1 rfl (lv_room (Nat.le_of_ble_eq_true rfl)) dX7_nextOrder_10 ⟨Nat.le_of_ble_eq_true rfl, Nat.le_of_ble_eq_true rfl⟩ (fun r_273 u_274 H locs hw hP hD hS => ?_)
        have hP : va_P G vwCl [(se_row, .inl (cA.1 0, 10, .inl c_se_row))] H := hP
        have hD : va_D A [(se_row, .inl (cA.1 0, 10, .inl c_se_row))] := hD
        obtain ⟨he_r_273, hw⟩ := hw
        refine lv_aload_n hx hb dX7_nextOrder_13 rfl (lv_at hl 0 rfl) ?_
        refine lv_iload_n hx hb dX7_nextOrder_14 rfl (lv_at hl 2 rfl) ?_
        refine lv_iconst (v := 1) hx hb dX7_nextOrder_15 (by decide) ?_
        refine lv_iadd hx hb dX7_nextOrder_16 ?_
        refine z_callSNi (As := [.ref se_row, .int (v_28 + 1)]) (rest := [.int r_273]) (wr := []) ⟨hx, hb, hml, hown, hts⟩ hK hE hT hP hD hS hA (d_at_10 l G cA se_row c_se_row (v_28 + 1)) lk_RX7_55 ⟨rfl, rfl⟩ ⟨Nat.le_of_ble_eq_true rfl, Nat.le_of_ble_eq_true rfl⟩ [0] [] rfl rfl (by decide) rfl hl.1 rfl (lv_room (Nat.le_of_ble_eq_true rfl)) dX7_nextOrder_17 ⟨Nat.le_of_ble_eq_true rfl, Nat.le_of_ble_eq_true rfl⟩ (fun r_276 u_277 H locs hw hP hD hS => ?_)
        have hP : va_P G vwCl [(se_row, .inl (cA.1 0, 10, .inl c_se_row))] H := hP
        have hD : va_D A [(se_row, .inl (cA.1 0, 10, .inl c_se_row))] := hD
        obtain ⟨he_r_276, hw⟩ := hw
        refine lv_icmp_le (tgt := 29) hx hb dX7_nextOrder_20 (by decide) (fun c_279 => ?_) (fun c_279 => ?_)
        · have b_280 := z_s5 c_279
          refine lv_iload_n hx hb dX7_nextOrder_29 rfl (lv_at hl 2 rfl) ?_
          refine lv_if_ge (tgt := 35) hx hb dX7_nextOrder_30 (by decide) (fun _ => ?_) (fun h9 => absurd ((z_ige (K := 0) (by decide +kernel)).mpr (by omega)) h9)
          refine lv_iload_n hx hb dX7_nextOrder_35 rfl (lv_at hl 1 rfl) ?_
          refine lv_iconst (v := 1) hx hb dX7_nextOrder_36 (by decide) ?_
          refine lv_isub hx hb dX7_nextOrder_37 ?_
          refine lv_istore_n (lv' := [(3, .int (k - 1)), (0, .ref se_row), (1, .int k), (2, .int v_28)]) hx hb dX7_nextOrder_38 rfl hl (by decide) rfl (fun ls hl => ?_)
          have hlp_406 : ∀ (n_L39a : Nat) (v_307 : Int32) (H : Heap) (locs : List Loc) (ls : Array Slot), (v_307.toInt + 2147483648).toNat < n_L39a → (F_Se_nextOrder_r c_se_row k = F_Se_nextOrder_r_L39a c_se_row k v_28 n_L39a v_307) → va_P G vwCl [(se_row, .inl (cA.1 0, 10, .inl c_se_row))] H → va_D A [(se_row, .inl (cA.1 0, 10, .inl c_se_row))] → va_S A s.heap H locs → lv_has ls 6 [(0, .ref se_row), (1, .int k), (2, .int v_28), (3, .int v_307)] → W p l e ({ frames := 2, cells := 0, slots := 0, locals := 45 }) s m args below meth c H locs 0 0 Q (F0 m 39 ls []) := by
            intro n_L39a
            induction n_L39a with
            | zero =>
              intro v_307 H locs ls hmu_hlp_406 hF_L39a hP hD hS hl
              exact absurd hmu_hlp_406 (Nat.not_lt_zero _)
            | succ n_L39a ih_407 =>
              intro v_307 H locs ls hmu_hlp_406 hF_L39a hP hD hS hl
              refine lv_iload_n hx hb dX7_nextOrder_39 rfl (lv_at hl 3 rfl) ?_
              refine lv_iload_n hx hb dX7_nextOrder_40 rfl (lv_at hl 2 rfl) ?_
              refine lv_icmp_le (tgt := 63) hx hb dX7_nextOrder_41 (by decide) (fun c_408 => ?_) (fun c_408 => ?_)
              · have b_409 := z_s5 c_408
                refine lv_aload_n hx hb dX7_nextOrder_63 rfl (lv_at hl 0 rfl) ?_
                refine lv_iload_n hx hb dX7_nextOrder_64 rfl (lv_at hl 2 rfl) ?_
                refine lv_iload_n hx hb dX7_nextOrder_65 rfl (lv_at hl 3 rfl) ?_
                refine z_callSv (As := [.ref se_row, .int v_28, .int v_307]) (rest := []) (wr := []) ⟨hx, hb, hml, hown, hts⟩ hK hE hT hP hD hS hA (d_Se_swap_r l G cA se_row c_se_row v_28 v_307) lk_RX7_136 ⟨rfl, rfl⟩ ⟨Nat.le_of_ble_eq_true rfl, Nat.le_of_ble_eq_true rfl⟩ [0] [] rfl rfl (by decide) rfl hl.1 rfl (lv_room (Nat.le_of_ble_eq_true rfl)) dX7_nextOrder_66 ⟨Nat.le_of_ble_eq_true rfl, Nat.le_of_ble_eq_true rfl⟩ (fun u_412 H locs hw hP hD hS => ?_)
                obtain ⟨nw0_410, rfl⟩ : ∃ z, z = u_412 := ⟨_, rfl⟩
                have hP : va_P G vwCl [(se_row, .inl (cA.1 0, 10, .inl nw0_410))] H := hP
                have hD : va_D A [(se_row, .inl (cA.1 0, 10, .inl nw0_410))] := hD
                obtain ⟨he_nw0_410, hw⟩ := hw
                refine lv_iload_n hx hb dX7_nextOrder_69 rfl (lv_at hl 1 rfl) ?_
                refine lv_iconst (v := 1) hx hb dX7_nextOrder_70 (by decide) ?_
                refine lv_isub hx hb dX7_nextOrder_71 ?_
                refine lv_istore (lv' := [(4, .int (k - 1)), (0, .ref se_row), (1, .int k), (2, .int v_28), (3, .int v_307)]) hx hb dX7_nextOrder_72 hl (by decide) rfl (fun ls hl => ?_)
                refine lv_iload_n hx hb dX7_nextOrder_74 rfl (lv_at hl 3 rfl) ?_
                refine lv_iconst (v := 1) hx hb dX7_nextOrder_75 (by decide) ?_
                refine lv_iadd hx hb dX7_nextOrder_76 ?_
                refine lv_istore (lv' := [(5, .int (v_28 + 1)), (4, .int (k - 1)), (0, .ref se_row), (1, .int k), (2, .int v_28), (3, .int v_307)]) hx hb dX7_nextOrder_77 hl (by decide) rfl (fun ls hl => ?_)
                have hlp_443 : ∀ (n_L79a : Nat) (v_433 : Int32) (v_434 : Int32) (g_435 : Nat → Int32) (H : Heap) (locs : List Loc) (ls : Array Slot), (v_433.toInt + 2147483648).toNat < n_L79a → (F_Se_nextOrder_r c_se_row k = F_Se_nextOrder_r_L79a n_L79a v_433 v_434 g_435) → va_P G vwCl [(se_row, .inl (cA.1 0, 10, .inl g_435))] H → va_D A [(se_row, .inl (cA.1 0, 10, .inl g_435))] → va_S A s.heap H locs → lv_has ls 6 [(0, .ref se_row), (1, .int k), (2, .int v_28), (3, .int v_307), (4, .int v_433), (5, .int v_434)] → W p l e ({ frames := 2, cells := 0, slots := 0, locals := 45 }) s m args below meth c H locs 0 0 Q (F0 m 79 ls []) := by
                  intro n_L79a
                  induction n_L79a with
                  | zero =>
                    intro v_433 v_434 g_435 H locs ls hmu_hlp_443 hF_L79a hP hD hS hl
                    exact absurd hmu_hlp_443 (Nat.not_lt_zero _)
                  | succ n_L79a ih_444 =>
                    intro v_433 v_434 g_435 H locs ls hmu_hlp_443 hF_L79a hP hD hS hl
                    refine lv_iload hx hb dX7_nextOrder_79 (lv_at hl 5 rfl) ?_
                    refine lv_iload hx hb dX7_nextOrder_81 (lv_at hl 4 rfl) ?_
                    refine lv_icmp_ge (tgt := 103) hx hb dX7_nextOrder_83 (by decide) (fun c_445 => ?_) (fun c_445 => ?_)
                    · have b_446 := z_s1 c_445
                      refine lv_iconst (v := 1) hx hb dX7_nextOrder_103 (by decide) ?_
                      have hX_447 : F_Se_nextOrder_r c_se_row k = (((1 : Int32), g_435) : Int32 × (Nat → Int32)) := by
                        refine hF_L79a.trans ?_
                        refine (F_Se_nextOrder_r_L79a_s ..).trans ?_
                        refine (if_pos c_445).trans ?_
                        exact rfl
                      exact hret _ _ _ _ _ _ g_435 [0] hP hD hS rfl (by decide) dX7_nextOrder_104 (Or.inr rfl) ⟨(congrArg (fun z9 => z9.1) hX_447).symm, (congrArg (fun z9 => z9.2) hX_447).symm, (Or.inr rfl)⟩
                    · have b_448 := z_t2 c_445
                      refine lv_aload_n hx hb dX7_nextOrder_86 rfl (lv_at hl 0 rfl) ?_
                      refine lv_iload hx hb dX7_nextOrder_87 (lv_at hl 5 rfl) ?_
                      refine lv_iload hx hb dX7_nextOrder_89 (lv_at hl 4 rfl) ?_
                      refine z_callSv (As := [.ref se_row, .int v_434, .int v_433]) (rest := []) (wr := []) ⟨hx, hb, hml, hown, hts⟩ hK hE hT hP hD hS hA (d_Se_swap_r l G cA se_row g_435 v_434 v_433) lk_RX7_136 ⟨rfl, rfl⟩ ⟨Nat.le_of_ble_eq_true rfl, Nat.le_of_ble_eq_true rfl⟩ [0] [] rfl rfl (by decide) rfl hl.1 rfl (lv_room (Nat.le_of_ble_eq_true rfl)) dX7_nextOrder_91 ⟨Nat.le_of_ble_eq_true rfl, Nat.le_of_ble_eq_true rfl⟩ (fun u_451 H locs hw hP hD hS => ?_)
                      obtain ⟨nw0_449, rfl⟩ : ∃ z, z = u_451 := ⟨_, rfl⟩
                      have hP : va_P G vwCl [(se_row, .inl (cA.1 0, 10, .inl nw0_449))] H := hP
                      have hD : va_D A [(se_row, .inl (cA.1 0, 10, .inl nw0_449))] := hD
                      obtain ⟨he_nw0_449, hw⟩ := hw
                      refine lv_iinc (v := (v_433 + (-1))) (lv' := [(4, .int (v_433 + (-1))), (0, .ref se_row), (1, .int k), (2, .int v_28), (3, .int v_307), (5, .int v_434)]) hx hb dX7_nextOrder_94 hl (k := 4) rfl (z_ofi (by decide +kernel)) (by decide) rfl (fun ls hl => ?_)
                      refine lv_iinc (v := (v_434 + 1)) (lv' := [(5, .int (v_434 + 1)), (4, .int (v_433 + (-1))), (0, .ref se_row), (1, .int k), (2, .int v_28), (3, .int v_307)]) hx hb dX7_nextOrder_97 hl (k := 5) rfl (z_ofi (by decide +kernel)) (by decide) rfl (fun ls hl => ?_)
                      refine lv_goto (tgt := 79) hx hb dX7_nextOrder_100 (by decide) ?_
                      have hX_453 : F_Se_nextOrder_r c_se_row k = F_Se_nextOrder_r_L79a n_L79a (v_433 + (-1)) (v_434 + 1) nw0_449 := by
                        refine hF_L79a.trans ?_
                        refine (F_Se_nextOrder_r_L79a_s ..).trans ?_
                        refine (if_neg c_445).trans ?_
                        extract_lets -merge -useContext +onlyGivenNames w9 y9; have e9 : nw0_449 = w9 := he_nw0_449; clear_value w9; subst e9
                        exact rfl
                      exact ih_444 (v_433 + (-1)) (v_434 + 1) nw0_449 H locs ls (z_dn hmu_hlp_443 (by omega) trivial) hX_453 hP hD hS (lv_sub hl [2, 3, 4, 5, 1, 0] rfl)
                have hX_454 : F_Se_nextOrder_r c_se_row k = F_Se_nextOrder_r_L79a (((k - 1).toInt + 2147483648).toNat + 1) (k - 1) (v_28 + 1) nw0_410 := by
                  refine hF_L39a.trans ?_
                  refine (F_Se_nextOrder_r_L39a_s ..).trans ?_
                  refine (if_pos c_408).trans ?_
                  extract_lets -merge -useContext +onlyGivenNames w9 y9; have e9 : nw0_410 = w9 := he_nw0_410; clear_value w9; subst e9
                  exact rfl
                exact hlp_443 (((k - 1).toInt + 2147483648).toNat + 1) (k - 1) (v_28 + 1) nw0_410 _ _ _ (Nat.lt_succ_self _) hX_454 hP hD hS (lv_sub hl [2, 3, 4, 5, 1, 0] rfl)
              · have b_455 := z_t6 c_408
                refine lv_aload_n hx hb dX7_nextOrder_44 rfl (lv_at hl 0 rfl) ?_
                refine lv_iload_n hx hb dX7_nextOrder_45 rfl (lv_at hl 3 rfl) ?_
                refine z_callSNi (As := [.ref se_row, .int v_307]) (rest := []) (wr := []) ⟨hx, hb, hml, hown, hts⟩ hK hE hT hP hD hS hA (d_at_10 l G cA se_row c_se_row v_307) lk_RX7_55 ⟨rfl, rfl⟩ ⟨Nat.le_of_ble_eq_true rfl, Nat.le_of_ble_eq_true rfl⟩ [0] [] rfl rfl (by decide) rfl hl.1 rfl (lv_room (Nat.le_of_ble_eq_true rfl)) dX7_nextOrder_46 ⟨Nat.le_of_ble_eq_true rfl, Nat.le_of_ble_eq_true rfl⟩ (fun r_456 u_457 H locs hw hP hD hS => ?_)
                have hP : va_P G vwCl [(se_row, .inl (cA.1 0, 10, .inl c_se_row))] H := hP
                have hD : va_D A [(se_row, .inl (cA.1 0, 10, .inl c_se_row))] := hD
                obtain ⟨he_r_456, hw⟩ := hw
                refine lv_aload_n hx hb dX7_nextOrder_49 rfl (lv_at hl 0 rfl) ?_
                refine lv_iload_n hx hb dX7_nextOrder_50 rfl (lv_at hl 2 rfl) ?_
                refine z_callSNi (As := [.ref se_row, .int v_28]) (rest := [.int r_456]) (wr := []) ⟨hx, hb, hml, hown, hts⟩ hK hE hT hP hD hS hA (d_at_10 l G cA se_row c_se_row v_28) lk_RX7_55 ⟨rfl, rfl⟩ ⟨Nat.le_of_ble_eq_true rfl, Nat.le_of_ble_eq_true rfl⟩ [0] [] rfl rfl (by decide) rfl hl.1 rfl (lv_room (Nat.le_of_ble_eq_true rfl)) dX7_nextOrder_51 ⟨Nat.le_of_ble_eq_true rfl, Nat.le_of_ble_eq_true rfl⟩ (fun r_459 u_460 H locs hw hP hD hS => ?_)
                have hP : va_P G vwCl [(se_row, .inl (cA.1 0, 10, .inl c_se_row))] H := hP
                have hD : va_D A [(se_row, .inl (cA.1 0, 10, .inl c_se_row))] := hD
                obtain ⟨he_r_459, hw⟩ := hw
                refine lv_icmp_ge (tgt := 63) hx hb dX7_nextOrder_54 (by decide) (fun c_462 => ?_) (fun c_462 => ?_)
                · have b_463 := z_s1 c_462
                  refine lv_aload_n hx hb dX7_nextOrder_63 rfl (lv_at hl 0 rfl) ?_
                  refine lv_iload_n hx hb dX7_nextOrder_64 rfl (lv_at hl 2 rfl) ?_
                  refine lv_iload_n hx hb dX7_nextOrder_65 rfl (lv_at hl 3 rfl) ?_
                  refine z_callSv (As := [.ref se_row, .int v_28, .int v_307]) (rest := []) (wr := []) ⟨hx, hb, hml, hown, hts⟩ hK hE hT hP hD hS hA (d_Se_swap_r l G cA se_row c_se_row v_28 v_307) lk_RX7_136 ⟨rfl, rfl⟩ ⟨Nat.le_of_ble_eq_true rfl, Nat.le_of_ble_eq_true rfl⟩ [0] [] rfl rfl (by decide) rfl hl.1 rfl (lv_room (Nat.le_of_ble_eq_true rfl)) dX7_nextOrder_66 ⟨Nat.le_of_ble_eq_true rfl, Nat.le_of_ble_eq_true rfl⟩ (fun u_466 H locs hw hP hD hS => ?_)
                  obtain ⟨nw0_464, rfl⟩ : ∃ z, z = u_466 := ⟨_, rfl⟩
                  have hP : va_P G vwCl [(se_row, .inl (cA.1 0, 10, .inl nw0_464))] H := hP
                  have hD : va_D A [(se_row, .inl (cA.1 0, 10, .inl nw0_464))] := hD
                  obtain ⟨he_nw0_464, hw⟩ := hw
                  refine lv_iload_n hx hb dX7_nextOrder_69 rfl (lv_at hl 1 rfl) ?_
                  refine lv_iconst (v := 1) hx hb dX7_nextOrder_70 (by decide) ?_
                  refine lv_isub hx hb dX7_nextOrder_71 ?_
                  refine lv_istore (lv' := [(4, .int (k - 1)), (0, .ref se_row), (1, .int k), (2, .int v_28), (3, .int v_307)]) hx hb dX7_nextOrder_72 hl (by decide) rfl (fun ls hl => ?_)
                  refine lv_iload_n hx hb dX7_nextOrder_74 rfl (lv_at hl 3 rfl) ?_
                  refine lv_iconst (v := 1) hx hb dX7_nextOrder_75 (by decide) ?_
                  refine lv_iadd hx hb dX7_nextOrder_76 ?_
                  refine lv_istore (lv' := [(5, .int (v_28 + 1)), (4, .int (k - 1)), (0, .ref se_row), (1, .int k), (2, .int v_28), (3, .int v_307)]) hx hb dX7_nextOrder_77 hl (by decide) rfl (fun ls hl => ?_)
                  have hlp_497 : ∀ (n_L79b : Nat) (v_487 : Int32) (v_488 : Int32) (g_489 : Nat → Int32) (H : Heap) (locs : List Loc) (ls : Array Slot), (v_487.toInt + 2147483648).toNat < n_L79b → (F_Se_nextOrder_r c_se_row k = F_Se_nextOrder_r_L79b n_L79b v_487 v_488 g_489) → va_P G vwCl [(se_row, .inl (cA.1 0, 10, .inl g_489))] H → va_D A [(se_row, .inl (cA.1 0, 10, .inl g_489))] → va_S A s.heap H locs → lv_has ls 6 [(0, .ref se_row), (1, .int k), (2, .int v_28), (3, .int v_307), (4, .int v_487), (5, .int v_488)] → W p l e ({ frames := 2, cells := 0, slots := 0, locals := 45 }) s m args below meth c H locs 0 0 Q (F0 m 79 ls []) := by
                    intro n_L79b
                    induction n_L79b with
                    | zero =>
                      intro v_487 v_488 g_489 H locs ls hmu_hlp_497 hF_L79b hP hD hS hl
                      exact absurd hmu_hlp_497 (Nat.not_lt_zero _)
                    | succ n_L79b ih_498 =>
                      intro v_487 v_488 g_489 H locs ls hmu_hlp_497 hF_L79b hP hD hS hl
                      refine lv_iload hx hb dX7_nextOrder_79 (lv_at hl 5 rfl) ?_
                      refine lv_iload hx hb dX7_nextOrder_81 (lv_at hl 4 rfl) ?_
                      refine lv_icmp_ge (tgt := 103) hx hb dX7_nextOrder_83 (by decide) (fun c_499 => ?_) (fun c_499 => ?_)
                      · have b_500 := z_s1 c_499
                        refine lv_iconst (v := 1) hx hb dX7_nextOrder_103 (by decide) ?_
                        have hX_501 : F_Se_nextOrder_r c_se_row k = (((1 : Int32), g_489) : Int32 × (Nat → Int32)) := by
                          refine hF_L79b.trans ?_
                          refine (F_Se_nextOrder_r_L79b_s ..).trans ?_
                          refine (if_pos c_499).trans ?_
                          exact rfl
                        exact hret _ _ _ _ _ _ g_489 [0] hP hD hS rfl (by decide) dX7_nextOrder_104 (Or.inr rfl) ⟨(congrArg (fun z9 => z9.1) hX_501).symm, (congrArg (fun z9 => z9.2) hX_501).symm, (Or.inr rfl)⟩
                      · have b_502 := z_t2 c_499
                        refine lv_aload_n hx hb dX7_nextOrder_86 rfl (lv_at hl 0 rfl) ?_
                        refine lv_iload hx hb dX7_nextOrder_87 (lv_at hl 5 rfl) ?_
                        refine lv_iload hx hb dX7_nextOrder_89 (lv_at hl 4 rfl) ?_
                        refine z_callSv (As := [.ref se_row, .int v_488, .int v_487]) (rest := []) (wr := []) ⟨hx, hb, hml, hown, hts⟩ hK hE hT hP hD hS hA (d_Se_swap_r l G cA se_row g_489 v_488 v_487) lk_RX7_136 ⟨rfl, rfl⟩ ⟨Nat.le_of_ble_eq_true rfl, Nat.le_of_ble_eq_true rfl⟩ [0] [] rfl rfl (by decide) rfl hl.1 rfl (lv_room (Nat.le_of_ble_eq_true rfl)) dX7_nextOrder_91 ⟨Nat.le_of_ble_eq_true rfl, Nat.le_of_ble_eq_true rfl⟩ (fun u_505 H locs hw hP hD hS => ?_)
                        obtain ⟨nw0_503, rfl⟩ : ∃ z, z = u_505 := ⟨_, rfl⟩
                        have hP : va_P G vwCl [(se_row, .inl (cA.1 0, 10, .inl nw0_503))] H := hP
                        have hD : va_D A [(se_row, .inl (cA.1 0, 10, .inl nw0_503))] := hD
                        obtain ⟨he_nw0_503, hw⟩ := hw
                        refine lv_iinc (v := (v_487 + (-1))) (lv' := [(4, .int (v_487 + (-1))), (0, .ref se_row), (1, .int k), (2, .int v_28), (3, .int v_307), (5, .int v_488)]) hx hb dX7_nextOrder_94 hl (k := 4) rfl (z_ofi (by decide +kernel)) (by decide) rfl (fun ls hl => ?_)
                        refine lv_iinc (v := (v_488 + 1)) (lv' := [(5, .int (v_488 + 1)), (4, .int (v_487 + (-1))), (0, .ref se_row), (1, .int k), (2, .int v_28), (3, .int v_307)]) hx hb dX7_nextOrder_97 hl (k := 5) rfl (z_ofi (by decide +kernel)) (by decide) rfl (fun ls hl => ?_)
                        refine lv_goto (tgt := 79) hx hb dX7_nextOrder_100 (by decide) ?_
                        have hX_507 : F_Se_nextOrder_r c_se_row k = F_Se_nextOrder_r_L79b n_L79b (v_487 + (-1)) (v_488 + 1) nw0_503 := by
                          refine hF_L79b.trans ?_
                          refine (F_Se_nextOrder_r_L79b_s ..).trans ?_
                          refine (if_neg c_499).trans ?_
                          extract_lets -merge -useContext +onlyGivenNames w9 y9; have e9 : nw0_503 = w9 := he_nw0_503; clear_value w9; subst e9
                          exact rfl
                        exact ih_498 (v_487 + (-1)) (v_488 + 1) nw0_503 H locs ls (z_dn hmu_hlp_497 (by omega) trivial) hX_507 hP hD hS (lv_sub hl [2, 3, 4, 5, 1, 0] rfl)
                  have hX_508 : F_Se_nextOrder_r c_se_row k = F_Se_nextOrder_r_L79b (((k - 1).toInt + 2147483648).toNat + 1) (k - 1) (v_28 + 1) nw0_464 := by
                    refine hF_L39a.trans ?_
                    refine (F_Se_nextOrder_r_L39a_s ..).trans ?_
                    refine (if_neg c_408).trans ?_
                    extract_lets -merge -useContext +onlyGivenNames w9 y9; have e9 : r_456 = w9 := he_r_456; clear_value w9; subst e9
                    extract_lets -merge -useContext +onlyGivenNames w9 y9; have e9 : r_459 = w9 := he_r_459; clear_value w9; subst e9
                    refine (if_pos c_462).trans ?_
                    extract_lets -merge -useContext +onlyGivenNames w9 y9; have e9 : nw0_464 = w9 := he_nw0_464; clear_value w9; subst e9
                    exact rfl
                  exact hlp_497 (((k - 1).toInt + 2147483648).toNat + 1) (k - 1) (v_28 + 1) nw0_464 _ _ _ (Nat.lt_succ_self _) hX_508 hP hD hS (lv_sub hl [2, 3, 4, 5, 1, 0] rfl)
                · have b_509 := z_t2 c_462
                  refine lv_iinc (v := (v_307 + (-1))) (lv' := [(3, .int (v_307 + (-1))), (0, .ref se_row), (1, .int k), (2, .int v_28)]) hx hb dX7_nextOrder_57 hl (k := 3) rfl (z_ofi (by decide +kernel)) (by decide) rfl (fun ls hl => ?_)
                  refine lv_goto (tgt := 39) hx hb dX7_nextOrder_60 (by decide) ?_
                  have hX_510 : F_Se_nextOrder_r c_se_row k = F_Se_nextOrder_r_L39a c_se_row k v_28 n_L39a (v_307 + (-1)) := by
                    refine hF_L39a.trans ?_
                    refine (F_Se_nextOrder_r_L39a_s ..).trans ?_
                    refine (if_neg c_408).trans ?_
                    extract_lets -merge -useContext +onlyGivenNames w9 y9; have e9 : r_456 = w9 := he_r_456; clear_value w9; subst e9
                    extract_lets -merge -useContext +onlyGivenNames w9 y9; have e9 : r_459 = w9 := he_r_459; clear_value w9; subst e9
                    refine (if_neg c_462).trans ?_
                    exact rfl
                  exact ih_407 (v_307 + (-1)) H locs ls (z_dn hmu_hlp_406 (by omega) trivial) hX_510 hP hD hS (lv_sub hl [1, 2, 3, 0] rfl)
          have hX_511 : F_Se_nextOrder_r c_se_row k = F_Se_nextOrder_r_L39a c_se_row k v_28 (((k - 1).toInt + 2147483648).toNat + 1) (k - 1) := by
            refine hF_L4a.trans ?_
            refine (F_Se_nextOrder_r_L4a_s ..).trans ?_
            refine (if_neg c_269).trans ?_
            extract_lets -merge -useContext +onlyGivenNames w9 y9; have e9 : r_273 = w9 := he_r_273; clear_value w9; subst e9
            extract_lets -merge -useContext +onlyGivenNames w9 y9; have e9 : r_276 = w9 := he_r_276; clear_value w9; subst e9
            refine (if_pos c_279).trans ?_
            exact rfl
          exact hlp_406 (((k - 1).toInt + 2147483648).toNat + 1) (k - 1) _ _ _ (Nat.lt_succ_self _) hX_511 hP hD hS (lv_sub hl [1, 2, 3, 0] rfl)
        · have b_512 := z_t6 c_279
          refine lv_iinc (v := (v_28 + (-1))) (lv' := [(2, .int (v_28 + (-1))), (0, .ref se_row), (1, .int k)]) hx hb dX7_nextOrder_23 hl (k := 2) rfl (z_ofi (by decide +kernel)) (by decide) rfl (fun ls hl => ?_)
          refine lv_goto (tgt := 4) hx hb dX7_nextOrder_26 (by decide) ?_
          have hX_513 : F_Se_nextOrder_r c_se_row k = F_Se_nextOrder_r_L4a c_se_row k n_L4a (v_28 + (-1)) := by
            refine hF_L4a.trans ?_
            refine (F_Se_nextOrder_r_L4a_s ..).trans ?_
            refine (if_neg c_269).trans ?_
            extract_lets -merge -useContext +onlyGivenNames w9 y9; have e9 : r_273 = w9 := he_r_273; clear_value w9; subst e9
            extract_lets -merge -useContext +onlyGivenNames w9 y9; have e9 : r_276 = w9 := he_r_276; clear_value w9; subst e9
            refine (if_neg c_279).trans ?_
            exact rfl
          exact ih_268 (v_28 + (-1)) H locs ls (z_dn hmu_hlp_267 (by omega) trivial) hX_513 hP hD hS (lv_sub hl [1, 2, 0] rfl)
  have hX_514 : F_Se_nextOrder_r c_se_row k = F_Se_nextOrder_r_L4a c_se_row k (((k - 2).toInt + 2147483648).toNat + 1) (k - 2) := by
    refine (F_Se_nextOrder_r_s ..).trans ?_
    exact rfl
  exact hlp_267 (((k - 2).toInt + 2147483648).toNat + 1) (k - 2) _ _ _ (Nat.lt_succ_self _) hX_514 hP hD hS (lv_sub hl [1, 2, 0] rfl)
set_option maxHeartbeats 40000000 in
set_option maxRecDepth 100000 in
theorem d_Se_nextOrder_q (l : Launch) (G : va_G) (cA : zCA) (se_rr : Nat) (c_se_rr : Nat → Int32) (k : Int32) : zCi l yX7_nextOrder cX7_nextOrder 6 (some .boolean) ({ frames := 2, cells := 0, slots := 0, locals := 45 }) G cA [.ref se_rr, .int k] [(se_rr, .inl (cA.1 0, 3, .inl c_se_rr))] (S := (Nat → Int32)) (fun (r : Int32) (u : (Nat → Int32)) => (r = (F_Se_nextOrder_q c_se_rr k).1) ∧ (u = (F_Se_nextOrder_q c_se_rr k).2) ∧ (r = 0 ∨ r = 1)) (fun (u : (Nat → Int32)) => [(se_rr, .inl (cA.1 0, 3, .inl u))]) 0 0 := by
  refine z_start2z (own := RX7) (by decide) (Nat.le_of_ble_eq_true rfl) rfl ?_
  intro p e s m args below meth c A ls Q hx hb hml hts hown hK hE hT hP hD hS hA hl hret
  have hl : lv_has ls 6 [(0, .ref se_rr), (1, .int k)] := hl
  refine lv_iload_n hx hb dX7_nextOrder_0 rfl (lv_at hl 1 rfl) ?_
  refine lv_iconst (v := 2) hx hb dX7_nextOrder_1 (by decide) ?_
  refine lv_isub hx hb dX7_nextOrder_2 ?_
  refine lv_istore_n (lv' := [(2, .int (k - 2)), (0, .ref se_rr), (1, .int k)]) hx hb dX7_nextOrder_3 rfl hl (by decide) rfl (fun ls hl => ?_)
  have hlp_267 : ∀ (n_L4a : Nat) (v_28 : Int32) (H : Heap) (locs : List Loc) (ls : Array Slot), (v_28.toInt + 2147483648).toNat < n_L4a → (F_Se_nextOrder_q c_se_rr k = F_Se_nextOrder_q_L4a c_se_rr k n_L4a v_28) → va_P G vwCl [(se_rr, .inl (cA.1 0, 3, .inl c_se_rr))] H → va_D A [(se_rr, .inl (cA.1 0, 3, .inl c_se_rr))] → va_S A s.heap H locs → lv_has ls 6 [(0, .ref se_rr), (1, .int k), (2, .int v_28)] → W p l e ({ frames := 2, cells := 0, slots := 0, locals := 45 }) s m args below meth c H locs 0 0 Q (F0 m 4 ls []) := by
    intro n_L4a
    induction n_L4a with
    | zero =>
      intro v_28 H locs ls hmu_hlp_267 hF_L4a hP hD hS hl
      exact absurd hmu_hlp_267 (Nat.not_lt_zero _)
    | succ n_L4a ih_268 =>
      intro v_28 H locs ls hmu_hlp_267 hF_L4a hP hD hS hl
      refine lv_iload_n hx hb dX7_nextOrder_4 rfl (lv_at hl 2 rfl) ?_
      refine lv_if_lt (tgt := 29) hx hb dX7_nextOrder_5 (by decide) (fun c_269 => ?_) (fun c_269 => ?_)
      · have b_270 := z_b3 c_269 (K := 0) (by decide +kernel)
        refine lv_iload_n hx hb dX7_nextOrder_29 rfl (lv_at hl 2 rfl) ?_
        refine lv_if_ge (tgt := 35) hx hb dX7_nextOrder_30 (by decide) (fun h9 => absurd h9 (fun h8 => absurd ((z_ige (K := 0) (by decide +kernel)).mp h8) (by omega))) (fun _ => ?_)
        refine lv_iconst (v := 0) hx hb dX7_nextOrder_33 (by decide) ?_
        have hX_271 : F_Se_nextOrder_q c_se_rr k = (((0 : Int32), c_se_rr) : Int32 × (Nat → Int32)) := by
          refine hF_L4a.trans ?_
          refine (F_Se_nextOrder_q_L4a_s ..).trans ?_
          refine (if_pos c_269).trans ?_
          exact rfl
        exact hret _ _ _ _ _ _ c_se_rr [0] hP hD hS rfl (by decide) dX7_nextOrder_34 (Or.inl rfl) ⟨(congrArg (fun z9 => z9.1) hX_271).symm, (congrArg (fun z9 => z9.2) hX_271).symm, (Or.inl rfl)⟩
      · have b_272 := z_b4 c_269 (K := 0) (by decide +kernel)
        refine lv_aload_n hx hb dX7_nextOrder_8 rfl (lv_at hl 0 rfl) ?_
        refine lv_iload_n hx hb dX7_nextOrder_9 rfl (lv_at hl 2 rfl) ?_
        refine z_callSNi (As := [.ref se_rr, .int v_28]) (rest := []) (wr := []) ⟨hx, hb, hml, hown, hts⟩ hK hE hT hP hD hS hA (d_at_3 l G cA se_rr c_se_rr v_28) lk_RX7_55 ⟨rfl, rfl⟩ ⟨Nat.le_of_ble_eq_true rfl, Nat.le_of_ble_eq_true rfl⟩ [0] [] rfl rfl (by decide) rfl hl.1 rfl (lv_room (Nat.le_of_ble_eq_true rfl)) dX7_nextOrder_10 ⟨Nat.le_of_ble_eq_true rfl, Nat.le_of_ble_eq_true rfl⟩ (fun r_273 u_274 H locs hw hP hD hS => ?_)
        have hP : va_P G vwCl [(se_rr, .inl (cA.1 0, 3, .inl c_se_rr))] H := hP
        have hD : va_D A [(se_rr, .inl (cA.1 0, 3, .inl c_se_rr))] := hD
        obtain ⟨he_r_273, hw⟩ := hw
        have hx_r_273 := hw
        refine lv_aload_n hx hb dX7_nextOrder_13 rfl (lv_at hl 0 rfl) ?_
        refine lv_iload_n hx hb dX7_nextOrder_14 rfl (lv_at hl 2 rfl) ?_
        refine lv_iconst (v := 1) hx hb dX7_nextOrder_15 (by decide) ?_
        refine lv_iadd hx hb dX7_nextOrder_16 ?_
        refine z_callSNi (As := [.ref se_rr, .int (v_28 + 1)]) (rest := [.int r_273]) (wr := []) ⟨hx, hb, hml, hown, hts⟩ hK hE hT hP hD hS hA (d_at_3 l G cA se_rr c_se_rr (v_28 + 1)) lk_RX7_55 ⟨rfl, rfl⟩ ⟨Nat.le_of_ble_eq_true rfl, Nat.le_of_ble_eq_true rfl⟩ [0] [] rfl rfl (by decide) rfl hl.1 rfl (lv_room (Nat.le_of_ble_eq_true rfl)) dX7_nextOrder_17 ⟨Nat.le_of_ble_eq_true rfl, Nat.le_of_ble_eq_true rfl⟩ (fun r_276 u_277 H locs hw hP hD hS => ?_)
        have hP : va_P G vwCl [(se_rr, .inl (cA.1 0, 3, .inl c_se_rr))] H := hP
        have hD : va_D A [(se_rr, .inl (cA.1 0, 3, .inl c_se_rr))] := hD
        obtain ⟨he_r_276, hw⟩ := hw
        have hx_r_276 := hw
        refine lv_icmp_le (tgt := 29) hx hb dX7_nextOrder_20 (by decide) (fun c_279 => ?_) (fun c_279 => ?_)
        · have b_280 := z_s5 c_279
          refine lv_iload_n hx hb dX7_nextOrder_29 rfl (lv_at hl 2 rfl) ?_
          refine lv_if_ge (tgt := 35) hx hb dX7_nextOrder_30 (by decide) (fun _ => ?_) (fun h9 => absurd ((z_ige (K := 0) (by decide +kernel)).mpr (by omega)) h9)
          refine lv_iload_n hx hb dX7_nextOrder_35 rfl (lv_at hl 1 rfl) ?_
          refine lv_iconst (v := 1) hx hb dX7_nextOrder_36 (by decide) ?_
          refine lv_isub hx hb dX7_nextOrder_37 ?_
          refine lv_istore_n (lv' := [(3, .int (k - 1)), (0, .ref se_rr), (1, .int k), (2, .int v_28)]) hx hb dX7_nextOrder_38 rfl hl (by decide) rfl (fun ls hl => ?_)
          have hlp_406 : ∀ (n_L39a : Nat) (v_307 : Int32) (H : Heap) (locs : List Loc) (ls : Array Slot), (v_307.toInt + 2147483648).toNat < n_L39a → (F_Se_nextOrder_q c_se_rr k = F_Se_nextOrder_q_L39a c_se_rr k v_28 n_L39a v_307) → va_P G vwCl [(se_rr, .inl (cA.1 0, 3, .inl c_se_rr))] H → va_D A [(se_rr, .inl (cA.1 0, 3, .inl c_se_rr))] → va_S A s.heap H locs → lv_has ls 6 [(0, .ref se_rr), (1, .int k), (2, .int v_28), (3, .int v_307)] → W p l e ({ frames := 2, cells := 0, slots := 0, locals := 45 }) s m args below meth c H locs 0 0 Q (F0 m 39 ls []) := by
            intro n_L39a
            induction n_L39a with
            | zero =>
              intro v_307 H locs ls hmu_hlp_406 hF_L39a hP hD hS hl
              exact absurd hmu_hlp_406 (Nat.not_lt_zero _)
            | succ n_L39a ih_407 =>
              intro v_307 H locs ls hmu_hlp_406 hF_L39a hP hD hS hl
              refine lv_iload_n hx hb dX7_nextOrder_39 rfl (lv_at hl 3 rfl) ?_
              refine lv_iload_n hx hb dX7_nextOrder_40 rfl (lv_at hl 2 rfl) ?_
              refine lv_icmp_le (tgt := 63) hx hb dX7_nextOrder_41 (by decide) (fun c_408 => ?_) (fun c_408 => ?_)
              · have b_409 := z_s5 c_408
                refine lv_aload_n hx hb dX7_nextOrder_63 rfl (lv_at hl 0 rfl) ?_
                refine lv_iload_n hx hb dX7_nextOrder_64 rfl (lv_at hl 2 rfl) ?_
                refine lv_iload_n hx hb dX7_nextOrder_65 rfl (lv_at hl 3 rfl) ?_
                refine z_callSv (As := [.ref se_rr, .int v_28, .int v_307]) (rest := []) (wr := []) ⟨hx, hb, hml, hown, hts⟩ hK hE hT hP hD hS hA (d_Se_swap_q l G cA se_rr c_se_rr v_28 v_307) lk_RX7_136 ⟨rfl, rfl⟩ ⟨Nat.le_of_ble_eq_true rfl, Nat.le_of_ble_eq_true rfl⟩ [0] [] rfl rfl (by decide) rfl hl.1 rfl (lv_room (Nat.le_of_ble_eq_true rfl)) dX7_nextOrder_66 ⟨Nat.le_of_ble_eq_true rfl, Nat.le_of_ble_eq_true rfl⟩ (fun u_412 H locs hw hP hD hS => ?_)
                obtain ⟨nw0_410, rfl⟩ : ∃ z, z = u_412 := ⟨_, rfl⟩
                have hP : va_P G vwCl [(se_rr, .inl (cA.1 0, 3, .inl nw0_410))] H := hP
                have hD : va_D A [(se_rr, .inl (cA.1 0, 3, .inl nw0_410))] := hD
                obtain ⟨he_nw0_410, hw⟩ := hw
                refine lv_iload_n hx hb dX7_nextOrder_69 rfl (lv_at hl 1 rfl) ?_
                refine lv_iconst (v := 1) hx hb dX7_nextOrder_70 (by decide) ?_
                refine lv_isub hx hb dX7_nextOrder_71 ?_
                refine lv_istore (lv' := [(4, .int (k - 1)), (0, .ref se_rr), (1, .int k), (2, .int v_28), (3, .int v_307)]) hx hb dX7_nextOrder_72 hl (by decide) rfl (fun ls hl => ?_)
                refine lv_iload_n hx hb dX7_nextOrder_74 rfl (lv_at hl 3 rfl) ?_
                refine lv_iconst (v := 1) hx hb dX7_nextOrder_75 (by decide) ?_
                refine lv_iadd hx hb dX7_nextOrder_76 ?_
                refine lv_istore (lv' := [(5, .int (v_28 + 1)), (4, .int (k - 1)), (0, .ref se_rr), (1, .int k), (2, .int v_28), (3, .int v_307)]) hx hb dX7_nextOrder_77 hl (by decide) rfl (fun ls hl => ?_)
                have hlp_443 : ∀ (n_L79a : Nat) (v_433 : Int32) (v_434 : Int32) (g_435 : Nat → Int32) (H : Heap) (locs : List Loc) (ls : Array Slot), (v_433.toInt + 2147483648).toNat < n_L79a → (F_Se_nextOrder_q c_se_rr k = F_Se_nextOrder_q_L79a n_L79a v_433 v_434 g_435) → va_P G vwCl [(se_rr, .inl (cA.1 0, 3, .inl g_435))] H → va_D A [(se_rr, .inl (cA.1 0, 3, .inl g_435))] → va_S A s.heap H locs → lv_has ls 6 [(0, .ref se_rr), (1, .int k), (2, .int v_28), (3, .int v_307), (4, .int v_433), (5, .int v_434)] → W p l e ({ frames := 2, cells := 0, slots := 0, locals := 45 }) s m args below meth c H locs 0 0 Q (F0 m 79 ls []) := by
                  intro n_L79a
                  induction n_L79a with
                  | zero =>
                    intro v_433 v_434 g_435 H locs ls hmu_hlp_443 hF_L79a hP hD hS hl
                    exact absurd hmu_hlp_443 (Nat.not_lt_zero _)
                  | succ n_L79a ih_444 =>
                    intro v_433 v_434 g_435 H locs ls hmu_hlp_443 hF_L79a hP hD hS hl
                    refine lv_iload hx hb dX7_nextOrder_79 (lv_at hl 5 rfl) ?_
                    refine lv_iload hx hb dX7_nextOrder_81 (lv_at hl 4 rfl) ?_
                    refine lv_icmp_ge (tgt := 103) hx hb dX7_nextOrder_83 (by decide) (fun c_445 => ?_) (fun c_445 => ?_)
                    · have b_446 := z_s1 c_445
                      refine lv_iconst (v := 1) hx hb dX7_nextOrder_103 (by decide) ?_
                      have hX_447 : F_Se_nextOrder_q c_se_rr k = (((1 : Int32), g_435) : Int32 × (Nat → Int32)) := by
                        refine hF_L79a.trans ?_
                        refine (F_Se_nextOrder_q_L79a_s ..).trans ?_
                        refine (if_pos c_445).trans ?_
                        exact rfl
                      exact hret _ _ _ _ _ _ g_435 [0] hP hD hS rfl (by decide) dX7_nextOrder_104 (Or.inr rfl) ⟨(congrArg (fun z9 => z9.1) hX_447).symm, (congrArg (fun z9 => z9.2) hX_447).symm, (Or.inr rfl)⟩
                    · have b_448 := z_t2 c_445
                      refine lv_aload_n hx hb dX7_nextOrder_86 rfl (lv_at hl 0 rfl) ?_
                      refine lv_iload hx hb dX7_nextOrder_87 (lv_at hl 5 rfl) ?_
                      refine lv_iload hx hb dX7_nextOrder_89 (lv_at hl 4 rfl) ?_
                      refine z_callSv (As := [.ref se_rr, .int v_434, .int v_433]) (rest := []) (wr := []) ⟨hx, hb, hml, hown, hts⟩ hK hE hT hP hD hS hA (d_Se_swap_q l G cA se_rr g_435 v_434 v_433) lk_RX7_136 ⟨rfl, rfl⟩ ⟨Nat.le_of_ble_eq_true rfl, Nat.le_of_ble_eq_true rfl⟩ [0] [] rfl rfl (by decide) rfl hl.1 rfl (lv_room (Nat.le_of_ble_eq_true rfl)) dX7_nextOrder_91 ⟨Nat.le_of_ble_eq_true rfl, Nat.le_of_ble_eq_true rfl⟩ (fun u_451 H locs hw hP hD hS => ?_)
                      obtain ⟨nw0_449, rfl⟩ : ∃ z, z = u_451 := ⟨_, rfl⟩
                      have hP : va_P G vwCl [(se_rr, .inl (cA.1 0, 3, .inl nw0_449))] H := hP
                      have hD : va_D A [(se_rr, .inl (cA.1 0, 3, .inl nw0_449))] := hD
                      obtain ⟨he_nw0_449, hw⟩ := hw
                      refine lv_iinc (v := (v_433 + (-1))) (lv' := [(4, .int (v_433 + (-1))), (0, .ref se_rr), (1, .int k), (2, .int v_28), (3, .int v_307), (5, .int v_434)]) hx hb dX7_nextOrder_94 hl (k := 4) rfl (z_ofi (by decide +kernel)) (by decide) rfl (fun ls hl => ?_)
                      refine lv_iinc (v := (v_434 + 1)) (lv' := [(5, .int (v_434 + 1)), (4, .int (v_433 + (-1))), (0, .ref se_rr), (1, .int k), (2, .int v_28), (3, .int v_307)]) hx hb dX7_nextOrder_97 hl (k := 5) rfl (z_ofi (by decide +kernel)) (by decide) rfl (fun ls hl => ?_)
                      refine lv_goto (tgt := 79) hx hb dX7_nextOrder_100 (by decide) ?_
                      have hX_453 : F_Se_nextOrder_q c_se_rr k = F_Se_nextOrder_q_L79a n_L79a (v_433 + (-1)) (v_434 + 1) nw0_449 := by
                        refine hF_L79a.trans ?_
                        refine (F_Se_nextOrder_q_L79a_s ..).trans ?_
                        refine (if_neg c_445).trans ?_
                        extract_lets -merge -useContext +onlyGivenNames w9 y9; have e9 : nw0_449 = w9 := he_nw0_449; clear_value w9; subst e9
                        exact rfl
                      exact ih_444 (v_433 + (-1)) (v_434 + 1) nw0_449 H locs ls (z_dn hmu_hlp_443 (by omega) trivial) hX_453 hP hD hS (lv_sub hl [2, 3, 4, 5, 1, 0] rfl)
                have hX_454 : F_Se_nextOrder_q c_se_rr k = F_Se_nextOrder_q_L79a (((k - 1).toInt + 2147483648).toNat + 1) (k - 1) (v_28 + 1) nw0_410 := by
                  refine hF_L39a.trans ?_
                  refine (F_Se_nextOrder_q_L39a_s ..).trans ?_
                  refine (if_pos c_408).trans ?_
                  extract_lets -merge -useContext +onlyGivenNames w9 y9; have e9 : nw0_410 = w9 := he_nw0_410; clear_value w9; subst e9
                  exact rfl
                exact hlp_443 (((k - 1).toInt + 2147483648).toNat + 1) (k - 1) (v_28 + 1) nw0_410 _ _ _ (Nat.lt_succ_self _) hX_454 hP hD hS (lv_sub hl [2, 3, 4, 5, 1, 0] rfl)
              · have b_455 := z_t6 c_408
                refine lv_aload_n hx hb dX7_nextOrder_44 rfl (lv_at hl 0 rfl) ?_
                refine lv_iload_n hx hb dX7_nextOrder_45 rfl (lv_at hl 3 rfl) ?_
                refine z_callSNi (As := [.ref se_rr, .int v_307]) (rest := []) (wr := []) ⟨hx, hb, hml, hown, hts⟩ hK hE hT hP hD hS hA (d_at_3 l G cA se_rr c_se_rr v_307) lk_RX7_55 ⟨rfl, rfl⟩ ⟨Nat.le_of_ble_eq_true rfl, Nat.le_of_ble_eq_true rfl⟩ [0] [] rfl rfl (by decide) rfl hl.1 rfl (lv_room (Nat.le_of_ble_eq_true rfl)) dX7_nextOrder_46 ⟨Nat.le_of_ble_eq_true rfl, Nat.le_of_ble_eq_true rfl⟩ (fun r_456 u_457 H locs hw hP hD hS => ?_)
                have hP : va_P G vwCl [(se_rr, .inl (cA.1 0, 3, .inl c_se_rr))] H := hP
                have hD : va_D A [(se_rr, .inl (cA.1 0, 3, .inl c_se_rr))] := hD
                obtain ⟨he_r_456, hw⟩ := hw
                have hx_r_456 := hw
                refine lv_aload_n hx hb dX7_nextOrder_49 rfl (lv_at hl 0 rfl) ?_
                refine lv_iload_n hx hb dX7_nextOrder_50 rfl (lv_at hl 2 rfl) ?_
                refine z_callSNi (As := [.ref se_rr, .int v_28]) (rest := [.int r_456]) (wr := []) ⟨hx, hb, hml, hown, hts⟩ hK hE hT hP hD hS hA (d_at_3 l G cA se_rr c_se_rr v_28) lk_RX7_55 ⟨rfl, rfl⟩ ⟨Nat.le_of_ble_eq_true rfl, Nat.le_of_ble_eq_true rfl⟩ [0] [] rfl rfl (by decide) rfl hl.1 rfl (lv_room (Nat.le_of_ble_eq_true rfl)) dX7_nextOrder_51 ⟨Nat.le_of_ble_eq_true rfl, Nat.le_of_ble_eq_true rfl⟩ (fun r_459 u_460 H locs hw hP hD hS => ?_)
                have hP : va_P G vwCl [(se_rr, .inl (cA.1 0, 3, .inl c_se_rr))] H := hP
                have hD : va_D A [(se_rr, .inl (cA.1 0, 3, .inl c_se_rr))] := hD
                obtain ⟨he_r_459, hw⟩ := hw
                have hx_r_459 := hw
                refine lv_icmp_ge (tgt := 63) hx hb dX7_nextOrder_54 (by decide) (fun c_462 => ?_) (fun c_462 => ?_)
                · have b_463 := z_s1 c_462
                  refine lv_aload_n hx hb dX7_nextOrder_63 rfl (lv_at hl 0 rfl) ?_
                  refine lv_iload_n hx hb dX7_nextOrder_64 rfl (lv_at hl 2 rfl) ?_
                  refine lv_iload_n hx hb dX7_nextOrder_65 rfl (lv_at hl 3 rfl) ?_
                  refine z_callSv (As := [.ref se_rr, .int v_28, .int v_307]) (rest := []) (wr := []) ⟨hx, hb, hml, hown, hts⟩ hK hE hT hP hD hS hA (d_Se_swap_q l G cA se_rr c_se_rr v_28 v_307) lk_RX7_136 ⟨rfl, rfl⟩ ⟨Nat.le_of_ble_eq_true rfl, Nat.le_of_ble_eq_true rfl⟩ [0] [] rfl rfl (by decide) rfl hl.1 rfl (lv_room (Nat.le_of_ble_eq_true rfl)) dX7_nextOrder_66 ⟨Nat.le_of_ble_eq_true rfl, Nat.le_of_ble_eq_true rfl⟩ (fun u_466 H locs hw hP hD hS => ?_)
                  obtain ⟨nw0_464, rfl⟩ : ∃ z, z = u_466 := ⟨_, rfl⟩
                  have hP : va_P G vwCl [(se_rr, .inl (cA.1 0, 3, .inl nw0_464))] H := hP
                  have hD : va_D A [(se_rr, .inl (cA.1 0, 3, .inl nw0_464))] := hD
                  obtain ⟨he_nw0_464, hw⟩ := hw
                  refine lv_iload_n hx hb dX7_nextOrder_69 rfl (lv_at hl 1 rfl) ?_
                  refine lv_iconst (v := 1) hx hb dX7_nextOrder_70 (by decide) ?_
                  refine lv_isub hx hb dX7_nextOrder_71 ?_
                  refine lv_istore (lv' := [(4, .int (k - 1)), (0, .ref se_rr), (1, .int k), (2, .int v_28), (3, .int v_307)]) hx hb dX7_nextOrder_72 hl (by decide) rfl (fun ls hl => ?_)
                  refine lv_iload_n hx hb dX7_nextOrder_74 rfl (lv_at hl 3 rfl) ?_
                  refine lv_iconst (v := 1) hx hb dX7_nextOrder_75 (by decide) ?_
                  refine lv_iadd hx hb dX7_nextOrder_76 ?_
                  refine lv_istore (lv' := [(5, .int (v_28 + 1)), (4, .int (k - 1)), (0, .ref se_rr), (1, .int k), (2, .int v_28), (3, .int v_307)]) hx hb dX7_nextOrder_77 hl (by decide) rfl (fun ls hl => ?_)
                  have hlp_497 : ∀ (n_L79b : Nat) (v_487 : Int32) (v_488 : Int32) (g_489 : Nat → Int32) (H : Heap) (locs : List Loc) (ls : Array Slot), (v_487.toInt + 2147483648).toNat < n_L79b → (F_Se_nextOrder_q c_se_rr k = F_Se_nextOrder_q_L79b n_L79b v_487 v_488 g_489) → va_P G vwCl [(se_rr, .inl (cA.1 0, 3, .inl g_489))] H → va_D A [(se_rr, .inl (cA.1 0, 3, .inl g_489))] → va_S A s.heap H locs → lv_has ls 6 [(0, .ref se_rr), (1, .int k), (2, .int v_28), (3, .int v_307), (4, .int v_487), (5, .int v_488)] → W p l e ({ frames := 2, cells := 0, slots := 0, locals := 45 }) s m args below meth c H locs 0 0 Q (F0 m 79 ls []) := by
                    intro n_L79b
                    induction n_L79b with
                    | zero =>
                      intro v_487 v_488 g_489 H locs ls hmu_hlp_497 hF_L79b hP hD hS hl
                      exact absurd hmu_hlp_497 (Nat.not_lt_zero _)
                    | succ n_L79b ih_498 =>
                      intro v_487 v_488 g_489 H locs ls hmu_hlp_497 hF_L79b hP hD hS hl
                      refine lv_iload hx hb dX7_nextOrder_79 (lv_at hl 5 rfl) ?_
                      refine lv_iload hx hb dX7_nextOrder_81 (lv_at hl 4 rfl) ?_
                      refine lv_icmp_ge (tgt := 103) hx hb dX7_nextOrder_83 (by decide) (fun c_499 => ?_) (fun c_499 => ?_)
                      · have b_500 := z_s1 c_499
                        refine lv_iconst (v := 1) hx hb dX7_nextOrder_103 (by decide) ?_
                        have hX_501 : F_Se_nextOrder_q c_se_rr k = (((1 : Int32), g_489) : Int32 × (Nat → Int32)) := by
                          refine hF_L79b.trans ?_
                          refine (F_Se_nextOrder_q_L79b_s ..).trans ?_
                          refine (if_pos c_499).trans ?_
                          exact rfl
                        exact hret _ _ _ _ _ _ g_489 [0] hP hD hS rfl (by decide) dX7_nextOrder_104 (Or.inr rfl) ⟨(congrArg (fun z9 => z9.1) hX_501).symm, (congrArg (fun z9 => z9.2) hX_501).symm, (Or.inr rfl)⟩
                      · have b_502 := z_t2 c_499
                        refine lv_aload_n hx hb dX7_nextOrder_86 rfl (lv_at hl 0 rfl) ?_
                        refine lv_iload hx hb dX7_nextOrder_87 (lv_at hl 5 rfl) ?_
                        refine lv_iload hx hb dX7_nextOrder_89 (lv_at hl 4 rfl) ?_
                        refine z_callSv (As := [.ref se_rr, .int v_488, .int v_487]) (rest := []) (wr := []) ⟨hx, hb, hml, hown, hts⟩ hK hE hT hP hD hS hA (d_Se_swap_q l G cA se_rr g_489 v_488 v_487) lk_RX7_136 ⟨rfl, rfl⟩ ⟨Nat.le_of_ble_eq_true rfl, Nat.le_of_ble_eq_true rfl⟩ [0] [] rfl rfl (by decide) rfl hl.1 rfl (lv_room (Nat.le_of_ble_eq_true rfl)) dX7_nextOrder_91 ⟨Nat.le_of_ble_eq_true rfl, Nat.le_of_ble_eq_true rfl⟩ (fun u_505 H locs hw hP hD hS => ?_)
                        obtain ⟨nw0_503, rfl⟩ : ∃ z, z = u_505 := ⟨_, rfl⟩
                        have hP : va_P G vwCl [(se_rr, .inl (cA.1 0, 3, .inl nw0_503))] H := hP
                        have hD : va_D A [(se_rr, .inl (cA.1 0, 3, .inl nw0_503))] := hD
                        obtain ⟨he_nw0_503, hw⟩ := hw
                        refine lv_iinc (v := (v_487 + (-1))) (lv' := [(4, .int (v_487 + (-1))), (0, .ref se_rr), (1, .int k), (2, .int v_28), (3, .int v_307), (5, .int v_488)]) hx hb dX7_nextOrder_94 hl (k := 4) rfl (z_ofi (by decide +kernel)) (by decide) rfl (fun ls hl => ?_)
                        refine lv_iinc (v := (v_488 + 1)) (lv' := [(5, .int (v_488 + 1)), (4, .int (v_487 + (-1))), (0, .ref se_rr), (1, .int k), (2, .int v_28), (3, .int v_307)]) hx hb dX7_nextOrder_97 hl (k := 5) rfl (z_ofi (by decide +kernel)) (by decide) rfl (fun ls hl => ?_)
                        refine lv_goto (tgt := 79) hx hb dX7_nextOrder_100 (by decide) ?_
                        have hX_507 : F_Se_nextOrder_q c_se_rr k = F_Se_nextOrder_q_L79b n_L79b (v_487 + (-1)) (v_488 + 1) nw0_503 := by
                          refine hF_L79b.trans ?_
                          refine (F_Se_nextOrder_q_L79b_s ..).trans ?_
                          refine (if_neg c_499).trans ?_
                          extract_lets -merge -useContext +onlyGivenNames w9 y9; have e9 : nw0_503 = w9 := he_nw0_503; clear_value w9; subst e9
                          exact rfl
                        exact ih_498 (v_487 + (-1)) (v_488 + 1) nw0_503 H locs ls (z_dn hmu_hlp_497 (by omega) trivial) hX_507 hP hD hS (lv_sub hl [2, 3, 4, 5, 1, 0] rfl)
                  have hX_508 : F_Se_nextOrder_q c_se_rr k = F_Se_nextOrder_q_L79b (((k - 1).toInt + 2147483648).toNat + 1) (k - 1) (v_28 + 1) nw0_464 := by
                    refine hF_L39a.trans ?_
                    refine (F_Se_nextOrder_q_L39a_s ..).trans ?_
                    refine (if_neg c_408).trans ?_
                    extract_lets -merge -useContext +onlyGivenNames w9 y9; have e9 : r_456 = w9 := he_r_456; clear_value w9; subst e9
                    extract_lets -merge -useContext +onlyGivenNames w9 y9; have e9 : r_459 = w9 := he_r_459; clear_value w9; subst e9
                    refine (if_pos c_462).trans ?_
                    extract_lets -merge -useContext +onlyGivenNames w9 y9; have e9 : nw0_464 = w9 := he_nw0_464; clear_value w9; subst e9
                    exact rfl
                  exact hlp_497 (((k - 1).toInt + 2147483648).toNat + 1) (k - 1) (v_28 + 1) nw0_464 _ _ _ (Nat.lt_succ_self _) hX_508 hP hD hS (lv_sub hl [2, 3, 4, 5, 1, 0] rfl)
                · have b_509 := z_t2 c_462
                  refine lv_iinc (v := (v_307 + (-1))) (lv' := [(3, .int (v_307 + (-1))), (0, .ref se_rr), (1, .int k), (2, .int v_28)]) hx hb dX7_nextOrder_57 hl (k := 3) rfl (z_ofi (by decide +kernel)) (by decide) rfl (fun ls hl => ?_)
                  refine lv_goto (tgt := 39) hx hb dX7_nextOrder_60 (by decide) ?_
                  have hX_510 : F_Se_nextOrder_q c_se_rr k = F_Se_nextOrder_q_L39a c_se_rr k v_28 n_L39a (v_307 + (-1)) := by
                    refine hF_L39a.trans ?_
                    refine (F_Se_nextOrder_q_L39a_s ..).trans ?_
                    refine (if_neg c_408).trans ?_
                    extract_lets -merge -useContext +onlyGivenNames w9 y9; have e9 : r_456 = w9 := he_r_456; clear_value w9; subst e9
                    extract_lets -merge -useContext +onlyGivenNames w9 y9; have e9 : r_459 = w9 := he_r_459; clear_value w9; subst e9
                    refine (if_neg c_462).trans ?_
                    exact rfl
                  exact ih_407 (v_307 + (-1)) H locs ls (z_dn hmu_hlp_406 (by omega) trivial) hX_510 hP hD hS (lv_sub hl [1, 2, 3, 0] rfl)
          have hX_511 : F_Se_nextOrder_q c_se_rr k = F_Se_nextOrder_q_L39a c_se_rr k v_28 (((k - 1).toInt + 2147483648).toNat + 1) (k - 1) := by
            refine hF_L4a.trans ?_
            refine (F_Se_nextOrder_q_L4a_s ..).trans ?_
            refine (if_neg c_269).trans ?_
            extract_lets -merge -useContext +onlyGivenNames w9 y9; have e9 : r_273 = w9 := he_r_273; clear_value w9; subst e9
            extract_lets -merge -useContext +onlyGivenNames w9 y9; have e9 : r_276 = w9 := he_r_276; clear_value w9; subst e9
            refine (if_pos c_279).trans ?_
            exact rfl
          exact hlp_406 (((k - 1).toInt + 2147483648).toNat + 1) (k - 1) _ _ _ (Nat.lt_succ_self _) hX_511 hP hD hS (lv_sub hl [1, 2, 3, 0] rfl)
        · have b_512 := z_t6 c_279
          refine lv_iinc (v := (v_28 + (-1))) (lv' := [(2, .int (v_28 + (-1))), (0, .ref se_rr), (1, .int k)]) hx hb dX7_nextOrder_23 hl (k := 2) rfl (z_ofi (by decide +kernel)) (by decide) rfl (fun ls hl => ?_)
          refine lv_goto (tgt := 4) hx hb dX7_nextOrder_26 (by decide) ?_
          have hX_513 : F_Se_nextOrder_q c_se_rr k = F_Se_nextOrder_q_L4a c_se_rr k n_L4a (v_28 + (-1)) := by
            refine hF_L4a.trans ?_
            refine (F_Se_nextOrder_q_L4a_s ..).trans ?_
            refine (if_neg c_269).trans ?_
            extract_lets -merge -useContext +onlyGivenNames w9 y9; have e9 : r_273 = w9 := he_r_273; clear_value w9; subst e9
            extract_lets -merge -useContext +onlyGivenNames w9 y9; have e9 : r_276 = w9 := he_r_276; clear_value w9; subst e9
            refine (if_neg c_279).trans ?_
            exact rfl
          exact ih_268 (v_28 + (-1)) H locs ls (z_dn hmu_hlp_267 (by omega) trivial) hX_513 hP hD hS (lv_sub hl [1, 2, 0] rfl)
  have hX_514 : F_Se_nextOrder_q c_se_rr k = F_Se_nextOrder_q_L4a c_se_rr k (((k - 2).toInt + 2147483648).toNat + 1) (k - 2) := by
    refine (F_Se_nextOrder_q_s ..).trans ?_
    exact rfl
  exact hlp_267 (((k - 2).toInt + 2147483648).toNat + 1) (k - 2) _ _ _ (Nat.lt_succ_self _) hX_514 hP hD hS (lv_sub hl [1, 2, 0] rfl)
