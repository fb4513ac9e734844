set_option maxHeartbeats 40000000 in
set_option maxRecDepth 100000 in
theorem d_H_manyThere (l : Launch) (G : va_G) (cA : zCA) (h : Nat) (h_features : Int32) (h_featureNames : Nat) (h_steps : Nat) (h_turnedFeatures : Nat) (h_sixteenths : Nat) (h_keys : Int32) (h_keySteps : Nat) (h_lent : Int32) (h_rings : Int32) (h_on : Nat) (h_onMany : Nat) (h_doors : Int32) (h_wanted : Nat) (h_openers : Nat) (h_seconds : Nat) (h_turned : Int32) (h_roundMany : Int32) (h_roundDoors : Nat) (c_h_on : Nat → Int32) (c_h_onMany : Nat → Int32) (k : Int32) (hm_h_features : 0 ≤ h_features.toInt ∧ h_features.toInt ≤ 3) (hO_c_h_onMany : zOM c_h_onMany) : zCi l yX2_manyThere cX2_manyThere 4 (some .int) ({ frames := 3, cells := 0, slots := 0, locals := 64 }) G cA [.ref h, .int k] [(h, .inr (2, [.int h_features, .ref h_featureNames, .ref h_steps, .ref h_turnedFeatures, .ref h_sixteenths, .int h_keys, .ref h_keySteps, .int h_lent, .int h_rings, .ref h_on, .ref h_onMany, .int h_doors, .ref h_wanted, .ref h_openers, .ref h_seconds, .int h_turned, .int h_roundMany, .ref h_roundDoors])), (h_on, .inl (cA.1 0, 30, .inl c_h_on)), (h_onMany, .inl (cA.1 0, 3, .inl c_h_onMany))] (S := Unit) (fun (r : Int32) (u : Unit) => (r = (F_H_manyThere h_keys h_lent h_rings c_h_on c_h_onMany k)) ∧ (r.toInt ≤ 10)) (fun (u : Unit) => [(h, .inr (2, [.int h_features, .ref h_featureNames, .ref h_steps, .ref h_turnedFeatures, .ref h_sixteenths, .int h_keys, .ref h_keySteps, .int h_lent, .int h_rings, .ref h_on, .ref h_onMany, .int h_doors, .ref h_wanted, .ref h_openers, .ref h_seconds, .int h_turned, .int h_roundMany, .ref h_roundDoors])), (h_on, .inl (cA.1 0, 30, .inl c_h_on)), (h_onMany, .inl (cA.1 0, 3, .inl c_h_onMany))]) 0 0 := by
  refine z_start2i (own := RX2) (by decide) (Nat.le_of_ble_eq_true rfl) rfl ?_
  intro p e s m args below meth c A ls Q hx hb hml hts hown hK hE hT hP hD hS hA hl hret
  have hl : lv_has ls 4 [(0, .ref h), (1, .int k)] := hl
  refine lv_iconst (v := 0) hx hb dX2_manyThere_0 (by decide) ?_
  refine lv_istore_n (lv' := [(2, .int 0), (0, .ref h), (1, .int k)]) hx hb dX2_manyThere_1 rfl hl (by decide) rfl (fun ls hl => ?_)
  refine lv_iconst (v := 0) hx hb dX2_manyThere_2 (by decide) ?_
  refine lv_istore_n (lv' := [(3, .int 0), (2, .int 0), (0, .ref h), (1, .int k)]) hx hb dX2_manyThere_3 rfl hl (by decide) rfl (fun ls hl => ?_)
  have hlp_48 : ∀ (n_L4a : Nat) (v_31 : Int32) (v_32 : Int32) (H : Heap) (locs : List Loc) (ls : Array Slot), (2147483647 - v_32.toInt).toNat < n_L4a → (0 ≤ v_32.toInt) → (0 ≤ v_31.toInt ∧ v_31.toInt ≤ v_32.toInt ∧ v_32.toInt ≤ 10) → (F_H_manyThere h_keys h_lent h_rings c_h_on c_h_onMany k = F_H_manyThere_L4a h_keys h_lent h_rings c_h_on c_h_onMany k n_L4a v_31 v_32) → va_P G vwCl [(h, .inr (2, [.int h_features, .ref h_featureNames, .ref h_steps, .ref h_turnedFeatures, .ref h_sixteenths, .int h_keys, .ref h_keySteps, .int h_lent, .int h_rings, .ref h_on, .ref h_onMany, .int h_doors, .ref h_wanted, .ref h_openers, .ref h_seconds, .int h_turned, .int h_roundMany, .ref h_roundDoors])), (h_on, .inl (cA.1 0, 30, .inl c_h_on)), (h_onMany, .inl (cA.1 0, 3, .inl c_h_onMany))] H → va_D A [(h, .inr (2, [.int h_features, .ref h_featureNames, .ref h_steps, .ref h_turnedFeatures, .ref h_sixteenths, .int h_keys, .ref h_keySteps, .int h_lent, .int h_rings, .ref h_on, .ref h_onMany, .int h_doors, .ref h_wanted, .ref h_openers, .ref h_seconds, .int h_turned, .int h_roundMany, .ref h_roundDoors])), (h_on, .inl (cA.1 0, 30, .inl c_h_on)), (h_onMany, .inl (cA.1 0, 3, .inl c_h_onMany))] → va_S A s.heap H locs → lv_has ls 4 [(0, .ref h), (1, .int k), (2, .int v_31), (3, .int v_32)] → W p l e ({ frames := 3, cells := 0, slots := 0, locals := 64 }) s m args below meth c H locs 0 0 Q (F0 m 4 ls []) := by
    intro n_L4a
    induction n_L4a with
    | zero =>
      intro v_31 v_32 H locs ls hmu_hlp_48 hi_49 hi_50 hF_L4a hP hD hS hl
      exact absurd hmu_hlp_48 (Nat.not_lt_zero _)
    | succ n_L4a ih_51 =>
      intro v_31 v_32 H locs ls hmu_hlp_48 hi_49 hi_50 hF_L4a hP hD hS hl
      refine lv_iload_n hx hb dX2_manyThere_4 rfl (lv_at hl 3 rfl) ?_
      refine lv_aload_n hx hb dX2_manyThere_5 rfl (lv_at hl 0 rfl) ?_
      refine lv_iload_n hx hb dX2_manyThere_6 rfl (lv_at hl 1 rfl) ?_
      refine z_callVi (As := [.int k]) (rest := [.int v_32]) (wr := [(h_on, .inl (cA.1 0, 30, .inl c_h_on))]) ⟨hx, hb, hml, hown, hts⟩ hK hE hT hP hD hS hA (d_H_manyOn l G cA h h_features h_featureNames h_steps h_turnedFeatures h_sixteenths h_keys h_keySteps h_lent h_rings h_on h_onMany h_doors h_wanted h_openers h_seconds h_turned h_roundMany h_roundDoors c_h_onMany k (by omega) hO_c_h_onMany) lk_RX2_113 ⟨rfl, rfl⟩ ⟨Nat.le_of_ble_eq_true rfl, Nat.le_of_ble_eq_true rfl⟩ 2 rfl rfl rfl [0, 2] [1] rfl rfl (by decide) rfl hl.1 rfl (lv_room (Nat.le_of_ble_eq_true rfl)) dX2_manyThere_7 ⟨Nat.le_of_ble_eq_true rfl, Nat.le_of_ble_eq_true rfl⟩ (fun r_52 u_53 H locs hw hP hD hS => ?_)
      have hP : va_P G vwCl [(h_on, .inl (cA.1 0, 30, .inl c_h_on)), (h, .inr (2, [.int h_features, .ref h_featureNames, .ref h_steps, .ref h_turnedFeatures, .ref h_sixteenths, .int h_keys, .ref h_keySteps, .int h_lent, .int h_rings, .ref h_on, .ref h_onMany, .int h_doors, .ref h_wanted, .ref h_openers, .ref h_seconds, .int h_turned, .int h_roundMany, .ref h_roundDoors])), (h_onMany, .inl (cA.1 0, 3, .inl c_h_onMany))] H := hP
      have hD : va_D A [(h_on, .inl (cA.1 0, 30, .inl c_h_on)), (h, .inr (2, [.int h_features, .ref h_featureNames, .ref h_steps, .ref h_turnedFeatures, .ref h_sixteenths, .int h_keys, .ref h_keySteps, .int h_lent, .int h_rings, .ref h_on, .ref h_onMany, .int h_doors, .ref h_wanted, .ref h_openers, .ref h_seconds, .int h_turned, .int h_roundMany, .ref h_roundDoors])), (h_onMany, .inl (cA.1 0, 3, .inl c_h_onMany))] := hD
      obtain ⟨he_r_52, hw⟩ := hw
      have hx_r_52 := hw
      refine lv_icmp_ge (tgt := 35) hx hb dX2_manyThere_10 (by decide) (fun c_55 => ?_) (fun c_55 => ?_)
      · have b_56 := z_s1 c_55
        refine lv_iload_n hx hb dX2_manyThere_35 rfl (lv_at hl 2 rfl) ?_
        have hX_57 : F_H_manyThere h_keys h_lent h_rings c_h_on c_h_onMany k = (v_31 : Int32) := by
          refine hF_L4a.trans ?_
          refine (F_H_manyThere_L4a_s ..).trans ?_
          extract_lets -merge -useContext +onlyGivenNames w9 y9; have e9 : r_52 = w9 := he_r_52; clear_value w9; subst e9
          refine (if_pos c_55).trans ?_
          exact rfl
        exact hret _ _ _ _ _ _ () [1, 0, 2] hP hD hS rfl (by decide) dX2_manyThere_36 ⟨(congrArg (fun z9 => z9) hX_57).symm, (by omega)⟩
      · have b_58 := z_t2 c_55
        refine lv_aload_n hx hb dX2_manyThere_13 rfl (lv_at hl 0 rfl) ?_
        refine lv_aload_n hx hb dX2_manyThere_14 rfl (lv_at hl 0 rfl) ?_
        refine lv_iload_n hx hb dX2_manyThere_15 rfl (lv_at hl 1 rfl) ?_
        refine lv_iload_n hx hb dX2_manyThere_16 rfl (lv_at hl 3 rfl) ?_
        refine z_callVi (As := [.int k, .int v_32]) (rest := [.ref h]) (wr := []) ⟨hx, hb, hml, hown, hts⟩ hK hE hT hP hD hS hA (d_H_keyOn l G cA h h_features h_featureNames h_steps h_turnedFeatures h_sixteenths h_keys h_keySteps h_lent h_rings h_on h_onMany h_doors h_wanted h_openers h_seconds h_turned h_roundMany h_roundDoors c_h_on c_h_onMany k v_32 (by omega) hO_c_h_onMany) lk_RX2_116 ⟨rfl, rfl⟩ ⟨Nat.le_of_ble_eq_true rfl, Nat.le_of_ble_eq_true rfl⟩ 2 rfl rfl rfl [1, 0, 2] [] rfl rfl (by decide) rfl hl.1 rfl (lv_room (Nat.le_of_ble_eq_true rfl)) dX2_manyThere_17 ⟨Nat.le_of_ble_eq_true rfl, Nat.le_of_ble_eq_true rfl⟩ (fun r_59 u_60 H locs hw hP hD hS => ?_)
        have hP : va_P G vwCl [(h, .inr (2, [.int h_features, .ref h_featureNames, .ref h_steps, .ref h_turnedFeatures, .ref h_sixteenths, .int h_keys, .ref h_keySteps, .int h_lent, .int h_rings, .ref h_on, .ref h_onMany, .int h_doors, .ref h_wanted, .ref h_openers, .ref h_seconds, .int h_turned, .int h_roundMany, .ref h_roundDoors])), (h_on, .inl (cA.1 0, 30, .inl c_h_on)), (h_onMany, .inl (cA.1 0, 3, .inl c_h_onMany))] H := hP
        have hD : va_D A [(h, .inr (2, [.int h_features, .ref h_featureNames, .ref h_steps, .ref h_turnedFeatures, .ref h_sixteenths, .int h_keys, .ref h_keySteps, .int h_lent, .int h_rings, .ref h_on, .ref h_onMany, .int h_doors, .ref h_wanted, .ref h_openers, .ref h_seconds, .int h_turned, .int h_roundMany, .ref h_roundDoors])), (h_on, .inl (cA.1 0, 30, .inl c_h_on)), (h_onMany, .inl (cA.1 0, 3, .inl c_h_onMany))] := hD
        obtain ⟨he_r_59, hw⟩ := hw
        refine z_callVi (As := [.int r_59]) (rest := []) (wr := [(h_on, .inl (cA.1 0, 30, .inl c_h_on)), (h_onMany, .inl (cA.1 0, 3, .inl c_h_onMany))]) ⟨hx, hb, hml, hown, hts⟩ hK hE hT hP hD hS hA (d_H_isLent l G cA h h_features h_featureNames h_steps h_turnedFeatures h_sixteenths h_keys h_keySteps h_lent h_rings h_on h_onMany h_doors h_wanted h_openers h_seconds h_turned h_roundMany h_roundDoors r_59 (by omega)) lk_RX2_123 ⟨rfl, rfl⟩ ⟨Nat.le_of_ble_eq_true rfl, Nat.le_of_ble_eq_true rfl⟩ 2 rfl rfl rfl [0] [1, 2] rfl rfl (by decide) rfl hl.1 rfl (lv_room (Nat.le_of_ble_eq_true rfl)) dX2_manyThere_20 ⟨Nat.le_of_ble_eq_true rfl, Nat.le_of_ble_eq_true rfl⟩ (fun r_62 u_63 H locs hw hP hD hS => ?_)
        have hP : va_P G vwCl [(h_on, .inl (cA.1 0, 30, .inl c_h_on)), (h_onMany, .inl (cA.1 0, 3, .inl c_h_onMany)), (h, .inr (2, [.int h_features, .ref h_featureNames, .ref h_steps, .ref h_turnedFeatures, .ref h_sixteenths, .int h_keys, .ref h_keySteps, .int h_lent, .int h_rings, .ref h_on, .ref h_onMany, .int h_doors, .ref h_wanted, .ref h_openers, .ref h_seconds, .int h_turned, .int h_roundMany, .ref h_roundDoors]))] H := hP
        have hD : va_D A [(h_on, .inl (cA.1 0, 30, .inl c_h_on)), (h_onMany, .inl (cA.1 0, 3, .inl c_h_onMany)), (h, .inr (2, [.int h_features, .ref h_featureNames, .ref h_steps, .ref h_turnedFeatures, .ref h_sixteenths, .int h_keys, .ref h_keySteps, .int h_lent, .int h_rings, .ref h_on, .ref h_onMany, .int h_doors, .ref h_wanted, .ref h_openers, .ref h_seconds, .int h_turned, .int h_roundMany, .ref h_roundDoors]))] := hD
        obtain ⟨he_r_62, hw⟩ := hw
        have hz_r_62 := hw
        refine lv_if_ne (tgt := 29) hx hb dX2_manyThere_23 (by decide) (fun c_65 => ?_) (fun c_65 => ?_)
        · skip
          refine lv_iinc (v := (v_32 + 1)) (lv' := [(3, .int (v_32 + 1)), (0, .ref h), (1, .int k), (2, .int v_31)]) hx hb dX2_manyThere_29 hl (k := 3) rfl (z_ofi (by decide +kernel)) (by decide) rfl (fun ls hl => ?_)
          refine lv_goto (tgt := 4) hx hb dX2_manyThere_32 (by decide) ?_
          have hX_67 : F_H_manyThere h_keys h_lent h_rings c_h_on c_h_onMany k = F_H_manyThere_L4a h_keys h_lent h_rings c_h_on c_h_onMany k n_L4a v_31 (v_32 + 1) := by
            refine hF_L4a.trans ?_
            refine (F_H_manyThere_L4a_s ..).trans ?_
            extract_lets -merge -useContext +onlyGivenNames w9 y9; have e9 : r_52 = w9 := he_r_52; clear_value w9; subst e9
            refine (if_neg c_55).trans ?_
            extract_lets -merge -useContext +onlyGivenNames w9 y9; have e9 : r_59 = w9 := he_r_59; clear_value w9; subst e9
            extract_lets -merge -useContext +onlyGivenNames w9 y9; have e9 : r_62 = w9 := he_r_62; clear_value w9; subst e9
            refine (if_neg c_65).trans ?_
            exact rfl
          have hq9_k_68 : (v_32 + 1).toInt = v_32.toInt + 1 := z_addI (K := 1) (by decide +kernel) (by omega) (by omega)
          have hP := hP.sub (ws' := [(h, .inr (2, [.int h_features, .ref h_featureNames, .ref h_steps, .ref h_turnedFeatures, .ref h_sixteenths, .int h_keys, .ref h_keySteps, .int h_lent, .int h_rings, .ref h_on, .ref h_onMany, .int h_doors, .ref h_wanted, .ref h_openers, .ref h_seconds, .int h_turned, .int h_roundMany, .ref h_roundDoors])), (h_on, .inl (cA.1 0, 30, .inl c_h_on)), (h_onMany, .inl (cA.1 0, 3, .inl c_h_onMany))]) [2, 0, 1] rfl
          have hD := hD.sub (ws' := [(h, .inr (2, [.int h_features, .ref h_featureNames, .ref h_steps, .ref h_turnedFeatures, .ref h_sixteenths, .int h_keys, .ref h_keySteps, .int h_lent, .int h_rings, .ref h_on, .ref h_onMany, .int h_doors, .ref h_wanted, .ref h_openers, .ref h_seconds, .int h_turned, .int h_roundMany, .ref h_roundDoors])), (h_on, .inl (cA.1 0, 30, .inl c_h_on)), (h_onMany, .inl (cA.1 0, 3, .inl c_h_onMany))]) [2, 0, 1] (by decide) rfl
          exact ih_51 v_31 (v_32 + 1) H locs ls (z_up hmu_hlp_48 (by omega) trivial) (z_upc hi_49 (by omega) trivial) (by omega) hX_67 hP hD hS (lv_sub hl [1, 2, 3, 0] rfl)
        · skip
          refine lv_iinc (v := (v_31 + 1)) (lv' := [(2, .int (v_31 + 1)), (0, .ref h), (1, .int k), (3, .int v_32)]) hx hb dX2_manyThere_26 hl (k := 2) rfl (z_ofi (by decide +kernel)) (by decide) rfl (fun ls hl => ?_)
          refine lv_iinc (v := (v_32 + 1)) (lv' := [(3, .int (v_32 + 1)), (2, .int (v_31 + 1)), (0, .ref h), (1, .int k)]) hx hb dX2_manyThere_29 hl (k := 3) rfl (z_ofi (by decide +kernel)) (by decide) rfl (fun ls hl => ?_)
          refine lv_goto (tgt := 4) hx hb dX2_manyThere_32 (by decide) ?_
          have hX_70 : F_H_manyThere h_keys h_lent h_rings c_h_on c_h_onMany k = F_H_manyThere_L4a h_keys h_lent h_rings c_h_on c_h_onMany k n_L4a (v_31 + 1) (v_32 + 1) := by
            refine hF_L4a.trans ?_
            refine (F_H_manyThere_L4a_s ..).trans ?_
            extract_lets -merge -useContext +onlyGivenNames w9 y9; have e9 : r_52 = w9 := he_r_52; clear_value w9; subst e9
            refine (if_neg c_55).trans ?_
            extract_lets -merge -useContext +onlyGivenNames w9 y9; have e9 : r_59 = w9 := he_r_59; clear_value w9; subst e9
            extract_lets -merge -useContext +onlyGivenNames w9 y9; have e9 : r_62 = w9 := he_r_62; clear_value w9; subst e9
            refine (if_pos c_65).trans ?_
            exact rfl
          have hq9_k_71 : (v_31 + 1).toInt = v_31.toInt + 1 := z_addI (K := 1) (by decide +kernel) (by omega) (by omega)
          have hq9_k_72 : (v_32 + 1).toInt = v_32.toInt + 1 := z_addI (K := 1) (by decide +kernel) (by omega) (by omega)
          have hP := hP.sub (ws' := [(h, .inr (2, [.int h_features, .ref h_featureNames, .ref h_steps, .ref h_turnedFeatures, .ref h_sixteenths, .int h_keys, .ref h_keySteps, .int h_lent, .int h_rings, .ref h_on, .ref h_onMany, .int h_doors, .ref h_wanted, .ref h_openers, .ref h_seconds, .int h_turned, .int h_roundMany, .ref h_roundDoors])), (h_on, .inl (cA.1 0, 30, .inl c_h_on)), (h_onMany, .inl (cA.1 0, 3, .inl c_h_onMany))]) [2, 0, 1] rfl
          have hD := hD.sub (ws' := [(h, .inr (2, [.int h_features, .ref h_featureNames, .ref h_steps, .ref h_turnedFeatures, .ref h_sixteenths, .int h_keys, .ref h_keySteps, .int h_lent, .int h_rings, .ref h_on, .ref h_onMany, .int h_doors, .ref h_wanted, .ref h_openers, .ref h_seconds, .int h_turned, .int h_roundMany, .ref h_roundDoors])), (h_on, .inl (cA.1 0, 30, .inl c_h_on)), (h_onMany, .inl (cA.1 0, 3, .inl c_h_onMany))]) [2, 0, 1] (by decide) rfl
          exact ih_51 (v_31 + 1) (v_32 + 1) H locs ls (z_up hmu_hlp_48 (by omega) trivial) (z_upc hi_49 (by omega) trivial) (by omega) hX_70 hP hD hS (lv_sub hl [2, 3, 1, 0] rfl)
  have hX_73 : F_H_manyThere h_keys h_lent h_rings c_h_on c_h_onMany k = F_H_manyThere_L4a h_keys h_lent h_rings c_h_on c_h_onMany k ((2147483647 - (0 : Int32).toInt).toNat + 1) (0 : Int32) (0 : Int32) := by
    refine (F_H_manyThere_s ..).trans ?_
    exact rfl
  exact hlp_48 ((2147483647 - (0 : Int32).toInt).toNat + 1) 0 0 _ _ _ (Nat.lt_succ_self _) (by first | decide +kernel | omega) (by first | decide +kernel | omega) hX_73 hP hD hS (lv_sub hl [2, 3, 1, 0] rfl)
set_option maxHeartbeats 40000000 in
set_option maxRecDepth 100000 in
theorem d_H_keyThere (l : Launch) (G : va_G) (cA : zCA) (h : Nat) (h_features : Int32) (h_featureNames : Nat) (h_steps : Nat) (h_turnedFeatures : Nat) (h_sixteenths : Nat) (h_keys : Int32) (h_keySteps : Nat) (h_lent : Int32) (h_rings : Int32) (h_on : Nat) (h_onMany : Nat) (h_doors : Int32) (h_wanted : Nat) (h_openers : Nat) (h_seconds : Nat) (h_turned : Int32) (h_roundMany : Int32) (h_roundDoors : Nat) (c_h_on : Nat → Int32) (c_h_onMany : Nat → Int32) (x : Int32) (y : Int32) (hm_h_features : 0 ≤ h_features.toInt ∧ h_features.toInt ≤ 3) (hO_c_h_onMany : zOM c_h_onMany) : zCi l yX2_keyThere cX2_keyThere 6 (some .int) ({ frames := 3, cells := 0, slots := 0, locals := 64 }) G cA [.ref h, .int x, .int y] [(h, .inr (2, [.int h_features, .ref h_featureNames, .ref h_steps, .ref h_turnedFeatures, .ref h_sixteenths, .int h_keys, .ref h_keySteps, .int h_lent, .int h_rings, .ref h_on, .ref h_onMany, .int h_doors, .ref h_wanted, .ref h_openers, .ref h_seconds, .int h_turned, .int h_roundMany, .ref h_roundDoors])), (h_on, .inl (cA.1 0, 30, .inl c_h_on)), (h_onMany, .inl (cA.1 0, 3, .inl c_h_onMany))] (S := Unit) (fun (r : Int32) (u : Unit) => (r = (F_H_keyThere h_keys h_lent h_rings c_h_on c_h_onMany x y)) ∧ (True)) (fun (u : Unit) => [(h, .inr (2, [.int h_features, .ref h_featureNames, .ref h_steps, .ref h_turnedFeatures, .ref h_sixteenths, .int h_keys, .ref h_keySteps, .int h_lent, .int h_rings, .ref h_on, .ref h_onMany, .int h_doors, .ref h_wanted, .ref h_openers, .ref h_seconds, .int h_turned, .int h_roundMany, .ref h_roundDoors])), (h_on, .inl (cA.1 0, 30, .inl c_h_on)), (h_onMany, .inl (cA.1 0, 3, .inl c_h_onMany))]) 0 0 := by
  refine z_start2i (own := RX2) (by decide) (Nat.le_of_ble_eq_true rfl) rfl ?_
  intro p e s m args below meth c A ls Q hx hb hml hts hown hK hE hT hP hD hS hA hl hret
  have hl : lv_has ls 6 [(0, .ref h), (1, .int x), (2, .int y)] := hl
  refine lv_iconst (v := 0) hx hb dX2_keyThere_0 (by decide) ?_
  refine lv_istore_n (lv' := [(3, .int 0), (0, .ref h), (1, .int x), (2, .int y)]) hx hb dX2_keyThere_1 rfl hl (by decide) rfl (fun ls hl => ?_)
  refine lv_iconst (v := 0) hx hb dX2_keyThere_2 (by decide) ?_
  refine lv_istore (lv' := [(4, .int 0), (3, .int 0), (0, .ref h), (1, .int x), (2, .int y)]) hx hb dX2_keyThere_3 hl (by decide) rfl (fun ls hl => ?_)
  have hlp_55 : ∀ (n_L5a : Nat) (v_35 : Int32) (v_36 : Int32) (H : Heap) (locs : List Loc) (ls : Array Slot), (2147483647 - v_36.toInt).toNat < n_L5a → (0 ≤ v_36.toInt) → (F_H_keyThere h_keys h_lent h_rings c_h_on c_h_onMany x y = F_H_keyThere_L5a h_keys h_lent h_rings c_h_on c_h_onMany x y n_L5a v_35 v_36) → va_P G vwCl [(h, .inr (2, [.int h_features, .ref h_featureNames, .ref h_steps, .ref h_turnedFeatures, .ref h_sixteenths, .int h_keys, .ref h_keySteps, .int h_lent, .int h_rings, .ref h_on, .ref h_onMany, .int h_doors, .ref h_wanted, .ref h_openers, .ref h_seconds, .int h_turned, .int h_roundMany, .ref h_roundDoors])), (h_on, .inl (cA.1 0, 30, .inl c_h_on)), (h_onMany, .inl (cA.1 0, 3, .inl c_h_onMany))] H → va_D A [(h, .inr (2, [.int h_features, .ref h_featureNames, .ref h_steps, .ref h_turnedFeatures, .ref h_sixteenths, .int h_keys, .ref h_keySteps, .int h_lent, .int h_rings, .ref h_on, .ref h_onMany, .int h_doors, .ref h_wanted, .ref h_openers, .ref h_seconds, .int h_turned, .int h_roundMany, .ref h_roundDoors])), (h_on, .inl (cA.1 0, 30, .inl c_h_on)), (h_onMany, .inl (cA.1 0, 3, .inl c_h_onMany))] → va_S A s.heap H locs → lv_has ls 6 [(0, .ref h), (1, .int x), (2, .int y), (3, .int v_35), (4, .int v_36)] → W p l e ({ frames := 3, cells := 0, slots := 0, locals := 64 }) s m args below meth c H locs 0 0 Q (F0 m 5 ls []) := by
    intro n_L5a
    induction n_L5a with
    | zero =>
      intro v_35 v_36 H locs ls hmu_hlp_55 hi_56 hF_L5a hP hD hS hl
      exact absurd hmu_hlp_55 (Nat.not_lt_zero _)
    | succ n_L5a ih_57 =>
      intro v_35 v_36 H locs ls hmu_hlp_55 hi_56 hF_L5a hP hD hS hl
      refine lv_iload hx hb dX2_keyThere_5 (lv_at hl 4 rfl) ?_
      refine lv_aload_n hx hb dX2_keyThere_7 rfl (lv_at hl 0 rfl) ?_
      refine lv_iload_n hx hb dX2_keyThere_8 rfl (lv_at hl 1 rfl) ?_
      refine z_callVi (As := [.int x]) (rest := [.int v_36]) (wr := [(h_on, .inl (cA.1 0, 30, .inl c_h_on))]) ⟨hx, hb, hml, hown, hts⟩ hK hE hT hP hD hS hA (d_H_manyOn l G cA h h_features h_featureNames h_steps h_turnedFeatures h_sixteenths h_keys h_keySteps h_lent h_rings h_on h_onMany h_doors h_wanted h_openers h_seconds h_turned h_roundMany h_roundDoors c_h_onMany x (by omega) hO_c_h_onMany) lk_RX2_113 ⟨rfl, rfl⟩ ⟨Nat.le_of_ble_eq_true rfl, Nat.le_of_ble_eq_true rfl⟩ 2 rfl rfl rfl [0, 2] [1] rfl rfl (by decide) rfl hl.1 rfl (lv_room (Nat.le_of_ble_eq_true rfl)) dX2_keyThere_9 ⟨Nat.le_of_ble_eq_true rfl, Nat.le_of_ble_eq_true rfl⟩ (fun r_58 u_59 H locs hw hP hD hS => ?_)
      have hP : va_P G vwCl [(h_on, .inl (cA.1 0, 30, .inl c_h_on)), (h, .inr (2, [.int h_features, .ref h_featureNames, .ref h_steps, .ref h_turnedFeatures, .ref h_sixteenths, .int h_keys, .ref h_keySteps, .int h_lent, .int h_rings, .ref h_on, .ref h_onMany, .int h_doors, .ref h_wanted, .ref h_openers, .ref h_seconds, .int h_turned, .int h_roundMany, .ref h_roundDoors])), (h_onMany, .inl (cA.1 0, 3, .inl c_h_onMany))] H := hP
      have hD : va_D A [(h_on, .inl (cA.1 0, 30, .inl c_h_on)), (h, .inr (2, [.int h_features, .ref h_featureNames, .ref h_steps, .ref h_turnedFeatures, .ref h_sixteenths, .int h_keys, .ref h_keySteps, .int h_lent, .int h_rings, .ref h_on, .ref h_onMany, .int h_doors, .ref h_wanted, .ref h_openers, .ref h_seconds, .int h_turned, .int h_roundMany, .ref h_roundDoors])), (h_onMany, .inl (cA.1 0, 3, .inl c_h_onMany))] := hD
      obtain ⟨he_r_58, hw⟩ := hw
      have hx_r_58 := hw
      refine lv_icmp_ge (tgt := 53) hx hb dX2_keyThere_12 (by decide) (fun c_61 => ?_) (fun c_61 => ?_)
      · have b_62 := z_s1 c_61
        refine lv_iconst (v := (-1)) hx hb dX2_keyThere_53 (by decide) ?_
        have hX_63 : F_H_keyThere h_keys h_lent h_rings c_h_on c_h_onMany x y = ((-1 : Int32) : Int32) := by
          refine hF_L5a.trans ?_
          refine (F_H_keyThere_L5a_s ..).trans ?_
          extract_lets -merge -useContext +onlyGivenNames w9 y9; have e9 : r_58 = w9 := he_r_58; clear_value w9; subst e9
          refine (if_pos c_61).trans ?_
          exact rfl
        exact hret _ _ _ _ _ _ () [1, 0, 2] hP hD hS rfl (by decide) dX2_keyThere_54 ⟨(congrArg (fun z9 => z9) hX_63).symm, trivial⟩
      · have b_64 := z_t2 c_61
        refine lv_aload_n hx hb dX2_keyThere_15 rfl (lv_at hl 0 rfl) ?_
        refine lv_iload_n hx hb dX2_keyThere_16 rfl (lv_at hl 1 rfl) ?_
        refine lv_iload hx hb dX2_keyThere_17 (lv_at hl 4 rfl) ?_
        refine z_callVi (As := [.int x, .int v_36]) (rest := []) (wr := []) ⟨hx, hb, hml, hown, hts⟩ hK hE hT hP hD hS hA (d_H_keyOn l G cA h h_features h_featureNames h_steps h_turnedFeatures h_sixteenths h_keys h_keySteps h_lent h_rings h_on h_onMany h_doors h_wanted h_openers h_seconds h_turned h_roundMany h_roundDoors c_h_on c_h_onMany x v_36 (by omega) hO_c_h_onMany) lk_RX2_116 ⟨rfl, rfl⟩ ⟨Nat.le_of_ble_eq_true rfl, Nat.le_of_ble_eq_true rfl⟩ 2 rfl rfl rfl [1, 0, 2] [] rfl rfl (by decide) rfl hl.1 rfl (lv_room (Nat.le_of_ble_eq_true rfl)) dX2_keyThere_19 ⟨Nat.le_of_ble_eq_true rfl, Nat.le_of_ble_eq_true rfl⟩ (fun r_65 u_66 H locs hw hP hD hS => ?_)
        have hP : va_P G vwCl [(h, .inr (2, [.int h_features, .ref h_featureNames, .ref h_steps, .ref h_turnedFeatures, .ref h_sixteenths, .int h_keys, .ref h_keySteps, .int h_lent, .int h_rings, .ref h_on, .ref h_onMany, .int h_doors, .ref h_wanted, .ref h_openers, .ref h_seconds, .int h_turned, .int h_roundMany, .ref h_roundDoors])), (h_on, .inl (cA.1 0, 30, .inl c_h_on)), (h_onMany, .inl (cA.1 0, 3, .inl c_h_onMany))] H := hP
        have hD : va_D A [(h, .inr (2, [.int h_features, .ref h_featureNames, .ref h_steps, .ref h_turnedFeatures, .ref h_sixteenths, .int h_keys, .ref h_keySteps, .int h_lent, .int h_rings, .ref h_on, .ref h_onMany, .int h_doors, .ref h_wanted, .ref h_openers, .ref h_seconds, .int h_turned, .int h_roundMany, .ref h_roundDoors])), (h_on, .inl (cA.1 0, 30, .inl c_h_on)), (h_onMany, .inl (cA.1 0, 3, .inl c_h_onMany))] := hD
        obtain ⟨he_r_65, hw⟩ := hw
        refine lv_istore (lv' := [(5, .int r_65), (0, .ref h), (1, .int x), (2, .int y), (3, .int v_35), (4, .int v_36)]) hx hb dX2_keyThere_22 hl (by decide) rfl (fun ls hl => ?_)
        refine lv_aload_n hx hb dX2_keyThere_24 rfl (lv_at hl 1 rfl) ?_
        refine lv_iload hx hb dX2_keyThere_25 (lv_at hl 0 rfl) ?_
        refine z_callVi (As := [.int r_65]) (rest := []) (wr := [(h_on, .inl (cA.1 0, 30, .inl c_h_on)), (h_onMany, .inl (cA.1 0, 3, .inl c_h_onMany))]) ⟨hx, hb, hml, hown, hts⟩ hK hE hT hP hD hS hA (d_H_isLent l G cA h h_features h_featureNames h_steps h_turnedFeatures h_sixteenths h_keys h_keySteps h_lent h_rings h_on h_onMany h_doors h_wanted h_openers h_seconds h_turned h_roundMany h_roundDoors r_65 (by omega)) lk_RX2_123 ⟨rfl, rfl⟩ ⟨Nat.le_of_ble_eq_true rfl, Nat.le_of_ble_eq_true rfl⟩ 2 rfl rfl rfl [0] [1, 2] rfl rfl (by decide) rfl hl.1 rfl (lv_room (Nat.le_of_ble_eq_true rfl)) dX2_keyThere_27 ⟨Nat.le_of_ble_eq_true rfl, Nat.le_of_ble_eq_true rfl⟩ (fun r_68 u_69 H locs hw hP hD hS => ?_)
        have hP : va_P G vwCl [(h_on, .inl (cA.1 0, 30, .inl c_h_on)), (h_onMany, .inl (cA.1 0, 3, .inl c_h_onMany)), (h, .inr (2, [.int h_features, .ref h_featureNames, .ref h_steps, .ref h_turnedFeatures, .ref h_sixteenths, .int h_keys, .ref h_keySteps, .int h_lent, .int h_rings, .ref h_on, .ref h_onMany, .int h_doors, .ref h_wanted, .ref h_openers, .ref h_seconds, .int h_turned, .int h_roundMany, .ref h_roundDoors]))] H := hP
        have hD : va_D A [(h_on, .inl (cA.1 0, 30, .inl c_h_on)), (h_onMany, .inl (cA.1 0, 3, .inl c_h_onMany)), (h, .inr (2, [.int h_features, .ref h_featureNames, .ref h_steps, .ref h_turnedFeatures, .ref h_sixteenths, .int h_keys, .ref h_keySteps, .int h_lent, .int h_rings, .ref h_on, .ref h_onMany, .int h_doors, .ref h_wanted, .ref h_openers, .ref h_seconds, .int h_turned, .int h_roundMany, .ref h_roundDoors]))] := hD
        obtain ⟨he_r_68, hw⟩ := hw
        have hz_r_68 := hw
        refine lv_if_eq (tgt := 36) hx hb dX2_keyThere_30 (by decide) (fun c_71 => ?_) (fun c_71 => ?_)
        · skip
          refine lv_iload_n hx hb dX2_keyThere_36 rfl (lv_at hl 4 rfl) ?_
          refine lv_iload_n hx hb dX2_keyThere_37 rfl (lv_at hl 3 rfl) ?_
          refine lv_icmp_ne (tgt := 44) hx hb dX2_keyThere_38 (by decide) (fun c_73 => ?_) (fun c_73 => ?_)
          · skip
            refine lv_iinc (v := (v_35 + 1)) (lv' := [(3, .int (v_35 + 1)), (5, .int r_65), (0, .ref h), (1, .int x), (2, .int y), (4, .int v_36)]) hx hb dX2_keyThere_44 hl (k := 4) rfl (z_ofi (by decide +kernel)) (by decide) rfl (fun ls hl => ?_)
            refine lv_iinc (v := (v_36 + 1)) (lv' := [(4, .int (v_36 + 1)), (3, .int (v_35 + 1)), (5, .int r_65), (0, .ref h), (1, .int x), (2, .int y)]) hx hb dX2_keyThere_47 hl (k := 5) rfl (z_ofi (by decide +kernel)) (by decide) rfl (fun ls hl => ?_)
            refine lv_goto (tgt := 5) hx hb dX2_keyThere_50 (by decide) ?_
            have hX_75 : F_H_keyThere h_keys h_lent h_rings c_h_on c_h_onMany x y = F_H_keyThere_L5a h_keys h_lent h_rings c_h_on c_h_onMany x y n_L5a (v_35 + 1) (v_36 + 1) := by
              refine hF_L5a.trans ?_
              refine (F_H_keyThere_L5a_s ..).trans ?_
              extract_lets -merge -useContext +onlyGivenNames w9 y9; have e9 : r_58 = w9 := he_r_58; clear_value w9; subst e9
              refine (if_neg c_61).trans ?_
              extract_lets -merge -useContext +onlyGivenNames w9 y9; have e9 : r_65 = w9 := he_r_65; clear_value w9; subst e9
              extract_lets -merge -useContext +onlyGivenNames w9 y9; have e9 : r_68 = w9 := he_r_68; clear_value w9; subst e9
              refine (if_pos c_71).trans ?_
              refine (if_neg c_73).trans ?_
              exact rfl
            have hP := hP.sub (ws' := [(h, .inr (2, [.int h_features, .ref h_featureNames, .ref h_steps, .ref h_turnedFeatures, .ref h_sixteenths, .int h_keys, .ref h_keySteps, .int h_lent, .int h_rings, .ref h_on, .ref h_onMany, .int h_doors, .ref h_wanted, .ref h_openers, .ref h_seconds, .int h_turned, .int h_roundMany, .ref h_roundDoors])), (h_on, .inl (cA.1 0, 30, .inl c_h_on)), (h_onMany, .inl (cA.1 0, 3, .inl c_h_onMany))]) [2, 0, 1] rfl
            have hD := hD.sub (ws' := [(h, .inr (2, [.int h_features, .ref h_featureNames, .ref h_steps, .ref h_turnedFeatures, .ref h_sixteenths, .int h_keys, .ref h_keySteps, .int h_lent, .int h_rings, .ref h_on, .ref h_onMany, .int h_doors, .ref h_wanted, .ref h_openers, .ref h_seconds, .int h_turned, .int h_roundMany, .ref h_roundDoors])), (h_on, .inl (cA.1 0, 30, .inl c_h_on)), (h_onMany, .inl (cA.1 0, 3, .inl c_h_onMany))]) [2, 0, 1] (by decide) rfl
            exact ih_57 (v_35 + 1) (v_36 + 1) H locs ls (z_up hmu_hlp_55 (by omega) trivial) (z_upc hi_56 (by omega) trivial) hX_75 hP hD hS (lv_sub hl [3, 4, 5, 1, 0] rfl)
          · skip
            refine lv_iload hx hb dX2_keyThere_41 (lv_at hl 0 rfl) ?_
            have hX_77 : F_H_keyThere h_keys h_lent h_rings c_h_on c_h_onMany x y = (r_65 : Int32) := by
              refine hF_L5a.trans ?_
              refine (F_H_keyThere_L5a_s ..).trans ?_
              extract_lets -merge -useContext +onlyGivenNames w9 y9; have e9 : r_58 = w9 := he_r_58; clear_value w9; subst e9
              refine (if_neg c_61).trans ?_
              extract_lets -merge -useContext +onlyGivenNames w9 y9; have e9 : r_65 = w9 := he_r_65; clear_value w9; subst e9
              extract_lets -merge -useContext +onlyGivenNames w9 y9; have e9 : r_68 = w9 := he_r_68; clear_value w9; subst e9
              refine (if_pos c_71).trans ?_
              refine (if_pos c_73).trans ?_
              exact rfl
            exact hret _ _ _ _ _ _ () [2, 0, 1] hP hD hS rfl (by decide) dX2_keyThere_43 ⟨(congrArg (fun z9 => z9) hX_77).symm, trivial⟩
        · skip
          refine lv_goto (tgt := 47) hx hb dX2_keyThere_33 (by decide) ?_
          refine lv_iinc (v := (v_36 + 1)) (lv' := [(4, .int (v_36 + 1)), (5, .int r_65), (0, .ref h), (1, .int x), (2, .int y), (3, .int v_35)]) hx hb dX2_keyThere_47 hl (k := 5) rfl (z_ofi (by decide +kernel)) (by decide) rfl (fun ls hl => ?_)
          refine lv_goto (tgt := 5) hx hb dX2_keyThere_50 (by decide) ?_
          have hX_79 : F_H_keyThere h_keys h_lent h_rings c_h_on c_h_onMany x y = F_H_keyThere_L5a h_keys h_lent h_rings c_h_on c_h_onMany x y n_L5a v_35 (v_36 + 1) := by
            refine hF_L5a.trans ?_
            refine (F_H_keyThere_L5a_s ..).trans ?_
            extract_lets -merge -useContext +onlyGivenNames w9 y9; have e9 : r_58 = w9 := he_r_58; clear_value w9; subst e9
            refine (if_neg c_61).trans ?_
            extract_lets -merge -useContext +onlyGivenNames w9 y9; have e9 : r_65 = w9 := he_r_65; clear_value w9; subst e9
            extract_lets -merge -useContext +onlyGivenNames w9 y9; have e9 : r_68 = w9 := he_r_68; clear_value w9; subst e9
            refine (if_neg c_71).trans ?_
            exact rfl
          have hP := hP.sub (ws' := [(h, .inr (2, [.int h_features, .ref h_featureNames, .ref h_steps, .ref h_turnedFeatures, .ref h_sixteenths, .int h_keys, .ref h_keySteps, .int h_lent, .int h_rings, .ref h_on, .ref h_onMany, .int h_doors, .ref h_wanted, .ref h_openers, .ref h_seconds, .int h_turned, .int h_roundMany, .ref h_roundDoors])), (h_on, .inl (cA.1 0, 30, .inl c_h_on)), (h_onMany, .inl (cA.1 0, 3, .inl c_h_onMany))]) [2, 0, 1] rfl
          have hD := hD.sub (ws' := [(h, .inr (2, [.int h_features, .ref h_featureNames, .ref h_steps, .ref h_turnedFeatures, .ref h_sixteenths, .int h_keys, .ref h_keySteps, .int h_lent, .int h_rings, .ref h_on, .ref h_onMany, .int h_doors, .ref h_wanted, .ref h_openers, .ref h_seconds, .int h_turned, .int h_roundMany, .ref h_roundDoors])), (h_on, .inl (cA.1 0, 30, .inl c_h_on)), (h_onMany, .inl (cA.1 0, 3, .inl c_h_onMany))]) [2, 0, 1] (by decide) rfl
          exact ih_57 v_35 (v_36 + 1) H locs ls (z_up hmu_hlp_55 (by omega) trivial) (z_upc hi_56 (by omega) trivial) hX_79 hP hD hS (lv_sub hl [2, 3, 4, 5, 0] rfl)
  have hX_80 : F_H_keyThere h_keys h_lent h_rings c_h_on c_h_onMany x y = F_H_keyThere_L5a h_keys h_lent h_rings c_h_on c_h_onMany x y ((2147483647 - (0 : Int32).toInt).toNat + 1) (0 : Int32) (0 : Int32) := by
    refine (F_H_keyThere_s ..).trans ?_
    exact rfl
  exact hlp_55 ((2147483647 - (0 : Int32).toInt).toNat + 1) 0 0 _ _ _ (Nat.lt_succ_self _) (by first | decide +kernel | omega) hX_80 hP hD hS (lv_sub hl [2, 3, 4, 1, 0] rfl)
set_option maxHeartbeats 40000000 in
set_option maxRecDepth 100000 in
theorem d_H_isOnlyOpener (l : Launch) (G : va_G) (cA : zCA) (h : Nat) (h_features : Int32) (h_featureNames : Nat) (h_steps : Nat) (h_turnedFeatures : Nat) (h_sixteenths : Nat) (h_keys : Int32) (h_keySteps : Nat) (h_lent : Int32) (h_rings : Int32) (h_on : Nat) (h_onMany : Nat) (h_doors : Int32) (h_wanted : Nat) (h_openers : Nat) (h_seconds : Nat) (h_turned : Int32) (h_roundMany : Int32) (h_roundDoors : Nat) (c_h_on : Nat → Int32) (c_h_onMany : Nat → Int32) (c_h_openers : Nat → Int32) (x : Int32) (y : Int32) (hm_h_features : 0 ≤ h_features.toInt ∧ h_features.toInt ≤ 3) (hO_c_h_onMany : zOM c_h_onMany) : zCi l yX2_isOnlyOpener cX2_isOnlyOpener 6 (some .boolean) ({ frames := 5, cells := 0, slots := 0, locals := 109 }) G cA [.ref h, .int x, .int y] [(h, .inr (2, [.int h_features, .ref h_featureNames, .ref h_steps, .ref h_turnedFeatures, .ref h_sixteenths, .int h_keys, .ref h_keySteps, .int h_lent, .int h_rings, .ref h_on, .ref h_onMany, .int h_doors, .ref h_wanted, .ref h_openers, .ref h_seconds, .int h_turned, .int h_roundMany, .ref h_roundDoors])), (h_on, .inl (cA.1 0, 30, .inl c_h_on)), (h_onMany, .inl (cA.1 0, 3, .inl c_h_onMany)), (h_openers, .inl (cA.1 0, 5, .inl c_h_openers))] (S := Unit) (fun (r : Int32) (u : Unit) => (r = (F_H_isOnlyOpener h_keys h_lent h_rings h_doors c_h_on c_h_onMany c_h_openers x y)) ∧ (r = 0 ∨ r = 1)) (fun (u : Unit) => [(h, .inr (2, [.int h_features, .ref h_featureNames, .ref h_steps, .ref h_turnedFeatures, .ref h_sixteenths, .int h_keys, .ref h_keySteps, .int h_lent, .int h_rings, .ref h_on, .ref h_onMany, .int h_doors, .ref h_wanted, .ref h_openers, .ref h_seconds, .int h_turned, .int h_roundMany, .ref h_roundDoors])), (h_on, .inl (cA.1 0, 30, .inl c_h_on)), (h_onMany, .inl (cA.1 0, 3, .inl c_h_onMany)), (h_openers, .inl (cA.1 0, 5, .inl c_h_openers))]) 0 0 := by
  refine z_start2z (own := RX2) (by decide) (Nat.le_of_ble_eq_true rfl) rfl ?_
  intro p e s m args below meth c A ls Q hx hb hml hts hown hK hE hT hP hD hS hA hl hret
  have hl : lv_has ls 6 [(0, .ref h), (1, .int x), (2, .int y)] := hl
  refine lv_aload_n hx hb dX2_isOnlyOpener_0 rfl (lv_at hl 0 rfl) ?_
  refine lv_iload_n hx hb dX2_isOnlyOpener_1 rfl (lv_at hl 1 rfl) ?_
  refine z_callVi (As := [.int x]) (rest := []) (wr := [(h_openers, .inl (cA.1 0, 5, .inl c_h_openers))]) ⟨hx, hb, hml, hown, hts⟩ hK hE hT hP hD hS hA (d_H_ringOf l G cA h h_features h_featureNames h_steps h_turnedFeatures h_sixteenths h_keys h_keySteps h_lent h_rings h_on h_onMany h_doors h_wanted h_openers h_seconds h_turned h_roundMany h_roundDoors c_h_on c_h_onMany x (by omega) hO_c_h_onMany) lk_RX2_130 ⟨rfl, rfl⟩ ⟨Nat.le_of_ble_eq_true rfl, Nat.le_of_ble_eq_true rfl⟩ 2 rfl rfl rfl [0, 1, 2] [3] rfl rfl (by decide) rfl hl.1 rfl (lv_room (Nat.le_of_ble_eq_true rfl)) dX2_isOnlyOpener_2 ⟨Nat.le_of_ble_eq_true rfl, Nat.le_of_ble_eq_true rfl⟩ (fun r_1 u_2 H locs hw hP hD hS => ?_)
  have hP : va_P G vwCl [(h_openers, .inl (cA.1 0, 5, .inl c_h_openers)), (h, .inr (2, [.int h_features, .ref h_featureNames, .ref h_steps, .ref h_turnedFeatures, .ref h_sixteenths, .int h_keys, .ref h_keySteps, .int h_lent, .int h_rings, .ref h_on, .ref h_onMany, .int h_doors, .ref h_wanted, .ref h_openers, .ref h_seconds, .int h_turned, .int h_roundMany, .ref h_roundDoors])), (h_on, .inl (cA.1 0, 30, .inl c_h_on)), (h_onMany, .inl (cA.1 0, 3, .inl c_h_onMany))] H := hP
  have hD : va_D A [(h_openers, .inl (cA.1 0, 5, .inl c_h_openers)), (h, .inr (2, [.int h_features, .ref h_featureNames, .ref h_steps, .ref h_turnedFeatures, .ref h_sixteenths, .int h_keys, .ref h_keySteps, .int h_lent, .int h_rings, .ref h_on, .ref h_onMany, .int h_doors, .ref h_wanted, .ref h_openers, .ref h_seconds, .int h_turned, .int h_roundMany, .ref h_roundDoors])), (h_on, .inl (cA.1 0, 30, .inl c_h_on)), (h_onMany, .inl (cA.1 0, 3, .inl c_h_onMany))] := hD
  obtain ⟨he_r_1, hw⟩ := hw
  refine lv_istore_n (lv' := [(3, .int r_1), (0, .ref h), (1, .int x), (2, .int y)]) hx hb dX2_isOnlyOpener_5 rfl hl (by decide) rfl (fun ls hl => ?_)
  refine lv_iload_n hx hb dX2_isOnlyOpener_6 rfl (lv_at hl 0 rfl) ?_
  refine lv_iconst (v := (-1)) hx hb dX2_isOnlyOpener_7 (by decide) ?_
  refine lv_icmp_eq (tgt := 28) hx hb dX2_isOnlyOpener_8 (by decide) (fun c_4 => ?_) (fun c_4 => ?_)
  · skip
    refine lv_iconst (v := 0) hx hb dX2_isOnlyOpener_28 (by decide) ?_
    have hX_6 : F_H_isOnlyOpener h_keys h_lent h_rings h_doors c_h_on c_h_onMany c_h_openers x y = ((0 : Int32) : Int32) := by
      refine (F_H_isOnlyOpener_s ..).trans ?_
      extract_lets -merge -useContext +onlyGivenNames w9 y9; have e9 : r_1 = w9 := he_r_1; clear_value w9; subst e9
      refine (if_pos c_4).trans ?_
      exact rfl
    exact hret _ _ _ _ _ _ () [1, 2, 3, 0] hP hD hS rfl (by decide) dX2_isOnlyOpener_29 (Or.inl rfl) ⟨(congrArg (fun z9 => z9) hX_6).symm, (Or.inl rfl)⟩
  · skip
    refine lv_aload_n hx hb dX2_isOnlyOpener_11 rfl (lv_at hl 1 rfl) ?_
    refine lv_iload_n hx hb dX2_isOnlyOpener_12 rfl (lv_at hl 2 rfl) ?_
    refine z_callVi (As := [.int x]) (rest := []) (wr := [(h_openers, .inl (cA.1 0, 5, .inl c_h_openers)), (h_on, .inl (cA.1 0, 30, .inl c_h_on)), (h_onMany, .inl (cA.1 0, 3, .inl c_h_onMany))]) ⟨hx, hb, hml, hown, hts⟩ hK hE hT hP hD hS hA (d_H_isLent l G cA h h_features h_featureNames h_steps h_turnedFeatures h_sixteenths h_keys h_keySteps h_lent h_rings h_on h_onMany h_doors h_wanted h_openers h_seconds h_turned h_roundMany h_roundDoors x (by omega)) lk_RX2_123 ⟨rfl, rfl⟩ ⟨Nat.le_of_ble_eq_true rfl, Nat.le_of_ble_eq_true rfl⟩ 2 rfl rfl rfl [1] [0, 2, 3] rfl rfl (by decide) rfl hl.1 rfl (lv_room (Nat.le_of_ble_eq_true rfl)) dX2_isOnlyOpener_13 ⟨Nat.le_of_ble_eq_true rfl, Nat.le_of_ble_eq_true rfl⟩ (fun r_8 u_9 H locs hw hP hD hS => ?_)
    have hP : va_P G vwCl [(h_openers, .inl (cA.1 0, 5, .inl c_h_openers)), (h_on, .inl (cA.1 0, 30, .inl c_h_on)), (h_onMany, .inl (cA.1 0, 3, .inl c_h_onMany)), (h, .inr (2, [.int h_features, .ref h_featureNames, .ref h_steps, .ref h_turnedFeatures, .ref h_sixteenths, .int h_keys, .ref h_keySteps, .int h_lent, .int h_rings, .ref h_on, .ref h_onMany, .int h_doors, .ref h_wanted, .ref h_openers, .ref h_seconds, .int h_turned, .int h_roundMany, .ref h_roundDoors]))] H := hP
    have hD : va_D A [(h_openers, .inl (cA.1 0, 5, .inl c_h_openers)), (h_on, .inl (cA.1 0, 30, .inl c_h_on)), (h_onMany, .inl (cA.1 0, 3, .inl c_h_onMany)), (h, .inr (2, [.int h_features, .ref h_featureNames, .ref h_steps, .ref h_turnedFeatures, .ref h_sixteenths, .int h_keys, .ref h_keySteps, .int h_lent, .int h_rings, .ref h_on, .ref h_onMany, .int h_doors, .ref h_wanted, .ref h_openers, .ref h_seconds, .int h_turned, .int h_roundMany, .ref h_roundDoors]))] := hD
    obtain ⟨he_r_8, hw⟩ := hw
    have hz_r_8 := hw
    refine lv_if_ne (tgt := 28) hx hb dX2_isOnlyOpener_16 (by decide) (fun c_11 => ?_) (fun c_11 => ?_)
    · skip
      refine lv_iconst (v := 0) hx hb dX2_isOnlyOpener_28 (by decide) ?_
      have hX_13 : F_H_isOnlyOpener h_keys h_lent h_rings h_doors c_h_on c_h_onMany c_h_openers x y = ((0 : Int32) : Int32) := by
        refine (F_H_isOnlyOpener_s ..).trans ?_
        extract_lets -merge -useContext +onlyGivenNames w9 y9; have e9 : r_1 = w9 := he_r_1; clear_value w9; subst e9
        refine (if_neg c_4).trans ?_
        extract_lets -merge -useContext +onlyGivenNames w9 y9; have e9 : r_8 = w9 := he_r_8; clear_value w9; subst e9
        refine (if_neg c_11).trans ?_
        exact rfl
      exact hret _ _ _ _ _ _ () [3, 1, 2, 0] hP hD hS rfl (by decide) dX2_isOnlyOpener_29 (Or.inl rfl) ⟨(congrArg (fun z9 => z9) hX_13).symm, (Or.inl rfl)⟩
    · skip
      refine lv_aload_n hx hb dX2_isOnlyOpener_19 rfl (lv_at hl 1 rfl) ?_
      refine lv_iload_n hx hb dX2_isOnlyOpener_20 rfl (lv_at hl 2 rfl) ?_
      refine lv_iload_n hx hb dX2_isOnlyOpener_21 rfl (lv_at hl 3 rfl) ?_
      refine z_callVi (As := [.int x, .int y]) (rest := []) (wr := [(h_on, .inl (cA.1 0, 30, .inl c_h_on)), (h_onMany, .inl (cA.1 0, 3, .inl c_h_onMany))]) ⟨hx, hb, hml, hown, hts⟩ hK hE hT hP hD hS hA (d_H_unlocks l G cA h h_features h_featureNames h_steps h_turnedFeatures h_sixteenths h_keys h_keySteps h_lent h_rings h_on h_onMany h_doors h_wanted h_openers h_seconds h_turned h_roundMany h_roundDoors c_h_openers x y (by omega)) lk_RX2_133 ⟨rfl, rfl⟩ ⟨Nat.le_of_ble_eq_true rfl, Nat.le_of_ble_eq_true rfl⟩ 2 rfl rfl rfl [3, 0] [1, 2] rfl rfl (by decide) rfl hl.1 rfl (lv_room (Nat.le_of_ble_eq_true rfl)) dX2_isOnlyOpener_22 ⟨Nat.le_of_ble_eq_true rfl, Nat.le_of_ble_eq_true rfl⟩ (fun r_15 u_16 H locs hw hP hD hS => ?_)
      have hP : va_P G vwCl [(h_on, .inl (cA.1 0, 30, .inl c_h_on)), (h_onMany, .inl (cA.1 0, 3, .inl c_h_onMany)), (h, .inr (2, [.int h_features, .ref h_featureNames, .ref h_steps, .ref h_turnedFeatures, .ref h_sixteenths, .int h_keys, .ref h_keySteps, .int h_lent, .int h_rings, .ref h_on, .ref h_onMany, .int h_doors, .ref h_wanted, .ref h_openers, .ref h_seconds, .int h_turned, .int h_roundMany, .ref h_roundDoors])), (h_openers, .inl (cA.1 0, 5, .inl c_h_openers))] H := hP
      have hD : va_D A [(h_on, .inl (cA.1 0, 30, .inl c_h_on)), (h_onMany, .inl (cA.1 0, 3, .inl c_h_onMany)), (h, .inr (2, [.int h_features, .ref h_featureNames, .ref h_steps, .ref h_turnedFeatures, .ref h_sixteenths, .int h_keys, .ref h_keySteps, .int h_lent, .int h_rings, .ref h_on, .ref h_onMany, .int h_doors, .ref h_wanted, .ref h_openers, .ref h_seconds, .int h_turned, .int h_roundMany, .ref h_roundDoors])), (h_openers, .inl (cA.1 0, 5, .inl c_h_openers))] := hD
      obtain ⟨he_r_15, hw⟩ := hw
      have hz_r_15 := hw
      refine lv_if_ne (tgt := 30) hx hb dX2_isOnlyOpener_25 (by decide) (fun c_18 => ?_) (fun c_18 => ?_)
      · skip
        refine lv_iconst (v := 0) hx hb dX2_isOnlyOpener_30 (by decide) ?_
        refine lv_istore (lv' := [(4, .int 0), (3, .int r_1), (0, .ref h), (1, .int x), (2, .int y)]) hx hb dX2_isOnlyOpener_31 hl (by decide) rfl (fun ls hl => ?_)
        have hlp_92 : ∀ (n_L33a : Nat) (v_67 : Int32) (H : Heap) (locs : List Loc) (ls : Array Slot), (2147483647 - v_67.toInt).toNat < n_L33a → (0 ≤ v_67.toInt) → (F_H_isOnlyOpener h_keys h_lent h_rings h_doors c_h_on c_h_onMany c_h_openers x y = F_H_isOnlyOpener_L33a h_keys h_lent h_rings h_doors c_h_on c_h_onMany c_h_openers x y r_1 n_L33a v_67) → va_P G vwCl [(h_on, .inl (cA.1 0, 30, .inl c_h_on)), (h_onMany, .inl (cA.1 0, 3, .inl c_h_onMany)), (h, .inr (2, [.int h_features, .ref h_featureNames, .ref h_steps, .ref h_turnedFeatures, .ref h_sixteenths, .int h_keys, .ref h_keySteps, .int h_lent, .int h_rings, .ref h_on, .ref h_onMany, .int h_doors, .ref h_wanted, .ref h_openers, .ref h_seconds, .int h_turned, .int h_roundMany, .ref h_roundDoors])), (h_openers, .inl (cA.1 0, 5, .inl c_h_openers))] H → va_D A [(h_on, .inl (cA.1 0, 30, .inl c_h_on)), (h_onMany, .inl (cA.1 0, 3, .inl c_h_onMany)), (h, .inr (2, [.int h_features, .ref h_featureNames, .ref h_steps, .ref h_turnedFeatures, .ref h_sixteenths, .int h_keys, .ref h_keySteps, .int h_lent, .int h_rings, .ref h_on, .ref h_onMany, .int h_doors, .ref h_wanted, .ref h_openers, .ref h_seconds, .int h_turned, .int h_roundMany, .ref h_roundDoors])), (h_openers, .inl (cA.1 0, 5, .inl c_h_openers))] → va_S A s.heap H locs → lv_has ls 6 [(0, .ref h), (1, .int x), (2, .int y), (3, .int r_1), (4, .int v_67)] → W p l e ({ frames := 5, cells := 0, slots := 0, locals := 109 }) s m args below meth c H locs 0 0 Q (F0 m 33 ls []) := by
          intro n_L33a
          induction n_L33a with
          | zero =>
            intro v_67 H locs ls hmu_hlp_92 hi_93 hF_L33a hP hD hS hl
            exact absurd hmu_hlp_92 (Nat.not_lt_zero _)
          | succ n_L33a ih_94 =>
            intro v_67 H locs ls hmu_hlp_92 hi_93 hF_L33a hP hD hS hl
            refine lv_iload hx hb dX2_isOnlyOpener_33 (lv_at hl 4 rfl) ?_
            refine lv_aload_n hx hb dX2_isOnlyOpener_35 rfl (lv_at hl 0 rfl) ?_
            refine lv_iload_n hx hb dX2_isOnlyOpener_36 rfl (lv_at hl 3 rfl) ?_
            refine z_callVi (As := [.int r_1]) (rest := [.int v_67]) (wr := [(h_on, .inl (cA.1 0, 30, .inl c_h_on)), (h_openers, .inl (cA.1 0, 5, .inl c_h_openers))]) ⟨hx, hb, hml, hown, hts⟩ hK hE hT hP hD hS hA (d_H_manyOn l G cA h h_features h_featureNames h_steps h_turnedFeatures h_sixteenths h_keys h_keySteps h_lent h_rings h_on h_onMany h_doors h_wanted h_openers h_seconds h_turned h_roundMany h_roundDoors c_h_onMany r_1 (by omega) hO_c_h_onMany) lk_RX2_113 ⟨rfl, rfl⟩ ⟨Nat.le_of_ble_eq_true rfl, Nat.le_of_ble_eq_true rfl⟩ 2 rfl rfl rfl [2, 1] [0, 3] rfl rfl (by decide) rfl hl.1 rfl (lv_room (Nat.le_of_ble_eq_true rfl)) dX2_isOnlyOpener_37 ⟨Nat.le_of_ble_eq_true rfl, Nat.le_of_ble_eq_true rfl⟩ (fun r_95 u_96 H locs hw hP hD hS => ?_)
            have hP : va_P G vwCl [(h_on, .inl (cA.1 0, 30, .inl c_h_on)), (h_openers, .inl (cA.1 0, 5, .inl c_h_openers)), (h, .inr (2, [.int h_features, .ref h_featureNames, .ref h_steps, .ref h_turnedFeatures, .ref h_sixteenths, .int h_keys, .ref h_keySteps, .int h_lent, .int h_rings, .ref h_on, .ref h_onMany, .int h_doors, .ref h_wanted, .ref h_openers, .ref h_seconds, .int h_turned, .int h_roundMany, .ref h_roundDoors])), (h_onMany, .inl (cA.1 0, 3, .inl c_h_onMany))] H := hP
            have hD : va_D A [(h_on, .inl (cA.1 0, 30, .inl c_h_on)), (h_openers, .inl (cA.1 0, 5, .inl c_h_openers)), (h, .inr (2, [.int h_features, .ref h_featureNames, .ref h_steps, .ref h_turnedFeatures, .ref h_sixteenths, .int h_keys, .ref h_keySteps, .int h_lent, .int h_rings, .ref h_on, .ref h_onMany, .int h_doors, .ref h_wanted, .ref h_openers, .ref h_seconds, .int h_turned, .int h_roundMany, .ref h_roundDoors])), (h_onMany, .inl (cA.1 0, 3, .inl c_h_onMany))] := hD
            obtain ⟨he_r_95, hw⟩ := hw
            have hx_r_95 := hw
            refine lv_icmp_ge (tgt := 85) hx hb dX2_isOnlyOpener_40 (by decide) (fun c_98 => ?_) (fun c_98 => ?_)
            · have b_99 := z_s1 c_98
              refine lv_iconst (v := 1) hx hb dX2_isOnlyOpener_85 (by decide) ?_
              have hX_100 : F_H_isOnlyOpener h_keys h_lent h_rings h_doors c_h_on c_h_onMany c_h_openers x y = ((1 : Int32) : Int32) := by
                refine hF_L33a.trans ?_
                refine (F_H_isOnlyOpener_L33a_s ..).trans ?_
                extract_lets -merge -useContext +onlyGivenNames w9 y9; have e9 : r_95 = w9 := he_r_95; clear_value w9; subst e9
                refine (if_pos c_98).trans ?_
                exact rfl
              exact hret _ _ _ _ _ _ () [2, 0, 3, 1] hP hD hS rfl (by decide) dX2_isOnlyOpener_86 (Or.inr rfl) ⟨(congrArg (fun z9 => z9) hX_100).symm, (Or.inr rfl)⟩
            · have b_101 := z_t2 c_98
              refine lv_aload_n hx hb dX2_isOnlyOpener_43 rfl (lv_at hl 0 rfl) ?_
              refine lv_iload_n hx hb dX2_isOnlyOpener_44 rfl (lv_at hl 3 rfl) ?_
              refine lv_iload hx hb dX2_isOnlyOpener_45 (lv_at hl 4 rfl) ?_
              refine z_callVi (As := [.int r_1, .int v_67]) (rest := []) (wr := [(h_openers, .inl (cA.1 0, 5, .inl c_h_openers))]) ⟨hx, hb, hml, hown, hts⟩ hK hE hT hP hD hS hA (d_H_keyOn l G cA h h_features h_featureNames h_steps h_turnedFeatures h_sixteenths h_keys h_keySteps h_lent h_rings h_on h_onMany h_doors h_wanted h_openers h_seconds h_turned h_roundMany h_roundDoors c_h_on c_h_onMany r_1 v_67 (by omega) hO_c_h_onMany) lk_RX2_116 ⟨rfl, rfl⟩ ⟨Nat.le_of_ble_eq_true rfl, Nat.le_of_ble_eq_true rfl⟩ 2 rfl rfl rfl [2, 0, 3] [1] rfl rfl (by decide) rfl hl.1 rfl (lv_room (Nat.le_of_ble_eq_true rfl)) dX2_isOnlyOpener_47 ⟨Nat.le_of_ble_eq_true rfl, Nat.le_of_ble_eq_true rfl⟩ (fun r_102 u_103 H locs hw hP hD hS => ?_)
              have hP : va_P G vwCl [(h_openers, .inl (cA.1 0, 5, .inl c_h_openers)), (h, .inr (2, [.int h_features, .ref h_featureNames, .ref h_steps, .ref h_turnedFeatures, .ref h_sixteenths, .int h_keys, .ref h_keySteps, .int h_lent, .int h_rings, .ref h_on, .ref h_onMany, .int h_doors, .ref h_wanted, .ref h_openers, .ref h_seconds, .int h_turned, .int h_roundMany, .ref h_roundDoors])), (h_on, .inl (cA.1 0, 30, .inl c_h_on)), (h_onMany, .inl (cA.1 0, 3, .inl c_h_onMany))] H := hP
              have hD : va_D A [(h_openers, .inl (cA.1 0, 5, .inl c_h_openers)), (h, .inr (2, [.int h_features, .ref h_featureNames, .ref h_steps, .ref h_turnedFeatures, .ref h_sixteenths, .int h_keys, .ref h_keySteps, .int h_lent, .int h_rings, .ref h_on, .ref h_onMany, .int h_doors, .ref h_wanted, .ref h_openers, .ref h_seconds, .int h_turned, .int h_roundMany, .ref h_roundDoors])), (h_on, .inl (cA.1 0, 30, .inl c_h_on)), (h_onMany, .inl (cA.1 0, 3, .inl c_h_onMany))] := hD
              obtain ⟨he_r_102, hw⟩ := hw
              refine lv_istore (lv' := [(5, .int r_102), (0, .ref h), (1, .int x), (2, .int y), (3, .int r_1), (4, .int v_67)]) hx hb dX2_isOnlyOpener_50 hl (by decide) rfl (fun ls hl => ?_)
              refine lv_iload hx hb dX2_isOnlyOpener_52 (lv_at hl 0 rfl) ?_
              refine lv_iload_n hx hb dX2_isOnlyOpener_54 rfl (lv_at hl 2 rfl) ?_
              refine lv_icmp_eq (tgt := 79) hx hb dX2_isOnlyOpener_55 (by decide) (fun c_105 => ?_) (fun c_105 => ?_)
              · skip
                refine lv_iinc (v := (v_67 + 1)) (lv' := [(4, .int (v_67 + 1)), (5, .int r_102), (0, .ref h), (1, .int x), (2, .int y), (3, .int r_1)]) hx hb dX2_isOnlyOpener_79 hl (k := 5) rfl (z_ofi (by decide +kernel)) (by decide) rfl (fun ls hl => ?_)
                refine lv_goto (tgt := 33) hx hb dX2_isOnlyOpener_82 (by decide) ?_
                have hX_107 : F_H_isOnlyOpener h_keys h_lent h_rings h_doors c_h_on c_h_onMany c_h_openers x y = F_H_isOnlyOpener_L33a h_keys h_lent h_rings h_doors c_h_on c_h_onMany c_h_openers x y r_1 n_L33a (v_67 + 1) := by
                  refine hF_L33a.trans ?_
                  refine (F_H_isOnlyOpener_L33a_s ..).trans ?_
                  extract_lets -merge -useContext +onlyGivenNames w9 y9; have e9 : r_95 = w9 := he_r_95; clear_value w9; subst e9
                  refine (if_neg c_98).trans ?_
                  extract_lets -merge -useContext +onlyGivenNames w9 y9; have e9 : r_102 = w9 := he_r_102; clear_value w9; subst e9
                  refine (if_pos c_105).trans ?_
                  exact rfl
                have hP := hP.sub (ws' := [(h_on, .inl (cA.1 0, 30, .inl c_h_on)), (h_onMany, .inl (cA.1 0, 3, .inl c_h_onMany)), (h, .inr (2, [.int h_features, .ref h_featureNames, .ref h_steps, .ref h_turnedFeatures, .ref h_sixteenths, .int h_keys, .ref h_keySteps, .int h_lent, .int h_rings, .ref h_on, .ref h_onMany, .int h_doors, .ref h_wanted, .ref h_openers, .ref h_seconds, .int h_turned, .int h_roundMany, .ref h_roundDoors])), (h_openers, .inl (cA.1 0, 5, .inl c_h_openers))]) [2, 3, 1, 0] rfl
                have hD := hD.sub (ws' := [(h_on, .inl (cA.1 0, 30, .inl c_h_on)), (h_onMany, .inl (cA.1 0, 3, .inl c_h_onMany)), (h, .inr (2, [.int h_features, .ref h_featureNames, .ref h_steps, .ref h_turnedFeatures, .ref h_sixteenths, .int h_keys, .ref h_keySteps, .int h_lent, .int h_rings, .ref h_on, .ref h_onMany, .int h_doors, .ref h_wanted, .ref h_openers, .ref h_seconds, .int h_turned, .int h_roundMany, .ref h_roundDoors])), (h_openers, .inl (cA.1 0, 5, .inl c_h_openers))]) [2, 3, 1, 0] (by decide) rfl
                exact ih_94 (v_67 + 1) H locs ls (z_up hmu_hlp_92 (by omega) trivial) (z_upc hi_93 (by omega) trivial) hX_107 hP hD hS (lv_sub hl [2, 3, 4, 5, 0] rfl)
              · skip
                refine lv_aload_n hx hb dX2_isOnlyOpener_58 rfl (lv_at hl 1 rfl) ?_
                refine lv_iload hx hb dX2_isOnlyOpener_59 (lv_at hl 0 rfl) ?_
                refine z_callVi (As := [.int r_102]) (rest := []) (wr := [(h_openers, .inl (cA.1 0, 5, .inl c_h_openers)), (h_on, .inl (cA.1 0, 30, .inl c_h_on)), (h_onMany, .inl (cA.1 0, 3, .inl c_h_onMany))]) ⟨hx, hb, hml, hown, hts⟩ hK hE hT hP hD hS hA (d_H_isLent l G cA h h_features h_featureNames h_steps h_turnedFeatures h_sixteenths h_keys h_keySteps h_lent h_rings h_on h_onMany h_doors h_wanted h_openers h_seconds h_turned h_roundMany h_roundDoors r_102 (by omega)) lk_RX2_123 ⟨rfl, rfl⟩ ⟨Nat.le_of_ble_eq_true rfl, Nat.le_of_ble_eq_true rfl⟩ 2 rfl rfl rfl [1] [0, 2, 3] rfl rfl (by decide) rfl hl.1 rfl (lv_room (Nat.le_of_ble_eq_true rfl)) dX2_isOnlyOpener_61 ⟨Nat.le_of_ble_eq_true rfl, Nat.le_of_ble_eq_true rfl⟩ (fun r_109 u_110 H locs hw hP hD hS => ?_)
                have hP : va_P G vwCl [(h_openers, .inl (cA.1 0, 5, .inl c_h_openers)), (h_on, .inl (cA.1 0, 30, .inl c_h_on)), (h_onMany, .inl (cA.1 0, 3, .inl c_h_onMany)), (h, .inr (2, [.int h_features, .ref h_featureNames, .ref h_steps, .ref h_turnedFeatures, .ref h_sixteenths, .int h_keys, .ref h_keySteps, .int h_lent, .int h_rings, .ref h_on, .ref h_onMany, .int h_doors, .ref h_wanted, .ref h_openers, .ref h_seconds, .int h_turned, .int h_roundMany, .ref h_roundDoors]))] H := hP
                have hD : va_D A [(h_openers, .inl (cA.1 0, 5, .inl c_h_openers)), (h_on, .inl (cA.1 0, 30, .inl c_h_on)), (h_onMany, .inl (cA.1 0, 3, .inl c_h_onMany)), (h, .inr (2, [.int h_features, .ref h_featureNames, .ref h_steps, .ref h_turnedFeatures, .ref h_sixteenths, .int h_keys, .ref h_keySteps, .int h_lent, .int h_rings, .ref h_on, .ref h_onMany, .int h_doors, .ref h_wanted, .ref h_openers, .ref h_seconds, .int h_turned, .int h_roundMany, .ref h_roundDoors]))] := hD
                obtain ⟨he_r_109, hw⟩ := hw
                have hz_r_109 := hw
                refine lv_if_ne (tgt := 79) hx hb dX2_isOnlyOpener_64 (by decide) (fun c_112 => ?_) (fun c_112 => ?_)
                · skip
                  refine lv_iinc (v := (v_67 + 1)) (lv' := [(4, .int (v_67 + 1)), (5, .int r_102), (0, .ref h), (1, .int x), (2, .int y), (3, .int r_1)]) hx hb dX2_isOnlyOpener_79 hl (k := 5) rfl (z_ofi (by decide +kernel)) (by decide) rfl (fun ls hl => ?_)
                  refine lv_goto (tgt := 33) hx hb dX2_isOnlyOpener_82 (by decide) ?_
                  have hX_114 : F_H_isOnlyOpener h_keys h_lent h_rings h_doors c_h_on c_h_onMany c_h_openers x y = F_H_isOnlyOpener_L33a h_keys h_lent h_rings h_doors c_h_on c_h_onMany c_h_openers x y r_1 n_L33a (v_67 + 1) := by
                    refine hF_L33a.trans ?_
                    refine (F_H_isOnlyOpener_L33a_s ..).trans ?_
                    extract_lets -merge -useContext +onlyGivenNames w9 y9; have e9 : r_95 = w9 := he_r_95; clear_value w9; subst e9
                    refine (if_neg c_98).trans ?_
                    extract_lets -merge -useContext +onlyGivenNames w9 y9; have e9 : r_102 = w9 := he_r_102; clear_value w9; subst e9
                    refine (if_neg c_105).trans ?_
                    extract_lets -merge -useContext +onlyGivenNames w9 y9; have e9 : r_109 = w9 := he_r_109; clear_value w9; subst e9
                    refine (if_neg c_112).trans ?_
                    exact rfl
                  have hP := hP.sub (ws' := [(h_on, .inl (cA.1 0, 30, .inl c_h_on)), (h_onMany, .inl (cA.1 0, 3, .inl c_h_onMany)), (h, .inr (2, [.int h_features, .ref h_featureNames, .ref h_steps, .ref h_turnedFeatures, .ref h_sixteenths, .int h_keys, .ref h_keySteps, .int h_lent, .int h_rings, .ref h_on, .ref h_onMany, .int h_doors, .ref h_wanted, .ref h_openers, .ref h_seconds, .int h_turned, .int h_roundMany, .ref h_roundDoors])), (h_openers, .inl (cA.1 0, 5, .inl c_h_openers))]) [1, 2, 3, 0] rfl
                  have hD := hD.sub (ws' := [(h_on, .inl (cA.1 0, 30, .inl c_h_on)), (h_onMany, .inl (cA.1 0, 3, .inl c_h_onMany)), (h, .inr (2, [.int h_features, .ref h_featureNames, .ref h_steps, .ref h_turnedFeatures, .ref h_sixteenths, .int h_keys, .ref h_keySteps, .int h_lent, .int h_rings, .ref h_on, .ref h_onMany, .int h_doors, .ref h_wanted, .ref h_openers, .ref h_seconds, .int h_turned, .int h_roundMany, .ref h_roundDoors])), (h_openers, .inl (cA.1 0, 5, .inl c_h_openers))]) [1, 2, 3, 0] (by decide) rfl
                  exact ih_94 (v_67 + 1) H locs ls (z_up hmu_hlp_92 (by omega) trivial) (z_upc hi_93 (by omega) trivial) hX_114 hP hD hS (lv_sub hl [2, 3, 4, 5, 0] rfl)
                · skip
                  refine lv_aload_n hx hb dX2_isOnlyOpener_67 rfl (lv_at hl 1 rfl) ?_
                  refine lv_iload hx hb dX2_isOnlyOpener_68 (lv_at hl 0 rfl) ?_
                  refine lv_iload_n hx hb dX2_isOnlyOpener_70 rfl (lv_at hl 3 rfl) ?_
                  refine z_callVi (As := [.int r_102, .int y]) (rest := []) (wr := [(h_on, .inl (cA.1 0, 30, .inl c_h_on)), (h_onMany, .inl (cA.1 0, 3, .inl c_h_onMany))]) ⟨hx, hb, hml, hown, hts⟩ hK hE hT hP hD hS hA (d_H_unlocks l G cA h h_features h_featureNames h_steps h_turnedFeatures h_sixteenths h_keys h_keySteps h_lent h_rings h_on h_onMany h_doors h_wanted h_openers h_seconds h_turned h_roundMany h_roundDoors c_h_openers r_102 y (by omega)) lk_RX2_133 ⟨rfl, rfl⟩ ⟨Nat.le_of_ble_eq_true rfl, Nat.le_of_ble_eq_true rfl⟩ 2 rfl rfl rfl [3, 0] [1, 2] rfl rfl (by decide) rfl hl.1 rfl (lv_room (Nat.le_of_ble_eq_true rfl)) dX2_isOnlyOpener_71 ⟨Nat.le_of_ble_eq_true rfl, Nat.le_of_ble_eq_true rfl⟩ (fun r_116 u_117 H locs hw hP hD hS => ?_)
                  have hP : va_P G vwCl [(h_on, .inl (cA.1 0, 30, .inl c_h_on)), (h_onMany, .inl (cA.1 0, 3, .inl c_h_onMany)), (h, .inr (2, [.int h_features, .ref h_featureNames, .ref h_steps, .ref h_turnedFeatures, .ref h_sixteenths, .int h_keys, .ref h_keySteps, .int h_lent, .int h_rings, .ref h_on, .ref h_onMany, .int h_doors, .ref h_wanted, .ref h_openers, .ref h_seconds, .int h_turned, .int h_roundMany, .ref h_roundDoors])), (h_openers, .inl (cA.1 0, 5, .inl c_h_openers))] H := hP
                  have hD : va_D A [(h_on, .inl (cA.1 0, 30, .inl c_h_on)), (h_onMany, .inl (cA.1 0, 3, .inl c_h_onMany)), (h, .inr (2, [.int h_features, .ref h_featureNames, .ref h_steps, .ref h_turnedFeatures, .ref h_sixteenths, .int h_keys, .ref h_keySteps, .int h_lent, .int h_rings, .ref h_on, .ref h_onMany, .int h_doors, .ref h_wanted, .ref h_openers, .ref h_seconds, .int h_turned, .int h_roundMany, .ref h_roundDoors])), (h_openers, .inl (cA.1 0, 5, .inl c_h_openers))] := hD
                  obtain ⟨he_r_116, hw⟩ := hw
                  have hz_r_116 := hw
                  refine lv_if_eq (tgt := 79) hx hb dX2_isOnlyOpener_74 (by decide) (fun c_119 => ?_) (fun c_119 => ?_)
                  · skip
                    refine lv_iinc (v := (v_67 + 1)) (lv' := [(4, .int (v_67 + 1)), (5, .int r_102), (0, .ref h), (1, .int x), (2, .int y), (3, .int r_1)]) hx hb dX2_isOnlyOpener_79 hl (k := 5) rfl (z_ofi (by decide +kernel)) (by decide) rfl (fun ls hl => ?_)
                    refine lv_goto (tgt := 33) hx hb dX2_isOnlyOpener_82 (by decide) ?_
                    have hX_121 : F_H_isOnlyOpener h_keys h_lent h_rings h_doors c_h_on c_h_onMany c_h_openers x y = F_H_isOnlyOpener_L33a h_keys h_lent h_rings h_doors c_h_on c_h_onMany c_h_openers x y r_1 n_L33a (v_67 + 1) := by
                      refine hF_L33a.trans ?_
                      refine (F_H_isOnlyOpener_L33a_s ..).trans ?_
                      extract_lets -merge -useContext +onlyGivenNames w9 y9; have e9 : r_95 = w9 := he_r_95; clear_value w9; subst e9
                      refine (if_neg c_98).trans ?_
                      extract_lets -merge -useContext +onlyGivenNames w9 y9; have e9 : r_102 = w9 := he_r_102; clear_value w9; subst e9
                      refine (if_neg c_105).trans ?_
                      extract_lets -merge -useContext +onlyGivenNames w9 y9; have e9 : r_109 = w9 := he_r_109; clear_value w9; subst e9
                      refine (if_pos c_112).trans ?_
                      extract_lets -merge -useContext +onlyGivenNames w9 y9; have e9 : r_116 = w9 := he_r_116; clear_value w9; subst e9
                      refine (if_pos c_119).trans ?_
                      exact rfl
                    exact ih_94 (v_67 + 1) H locs ls (z_up hmu_hlp_92 (by omega) trivial) (z_upc hi_93 (by omega) trivial) hX_121 hP hD hS (lv_sub hl [2, 3, 4, 5, 0] rfl)
                  · skip
                    refine lv_iconst (v := 0) hx hb dX2_isOnlyOpener_77 (by decide) ?_
                    have hX_123 : F_H_isOnlyOpener h_keys h_lent h_rings h_doors c_h_on c_h_onMany c_h_openers x y = ((0 : Int32) : Int32) := by
                      refine hF_L33a.trans ?_
                      refine (F_H_isOnlyOpener_L33a_s ..).trans ?_
                      extract_lets -merge -useContext +onlyGivenNames w9 y9; have e9 : r_95 = w9 := he_r_95; clear_value w9; subst e9
                      refine (if_neg c_98).trans ?_
                      extract_lets -merge -useContext +onlyGivenNames w9 y9; have e9 : r_102 = w9 := he_r_102; clear_value w9; subst e9
                      refine (if_neg c_105).trans ?_
                      extract_lets -merge -useContext +onlyGivenNames w9 y9; have e9 : r_109 = w9 := he_r_109; clear_value w9; subst e9
                      refine (if_pos c_112).trans ?_
                      extract_lets -merge -useContext +onlyGivenNames w9 y9; have e9 : r_116 = w9 := he_r_116; clear_value w9; subst e9
                      refine (if_neg c_119).trans ?_
                      exact rfl
                    exact hret _ _ _ _ _ _ () [2, 0, 1, 3] hP hD hS rfl (by decide) dX2_isOnlyOpener_78 (Or.inl rfl) ⟨(congrArg (fun z9 => z9) hX_123).symm, (Or.inl rfl)⟩
        have hX_124 : F_H_isOnlyOpener h_keys h_lent h_rings h_doors c_h_on c_h_onMany c_h_openers x y = F_H_isOnlyOpener_L33a h_keys h_lent h_rings h_doors c_h_on c_h_onMany c_h_openers x y r_1 ((2147483647 - (0 : Int32).toInt).toNat + 1) (0 : Int32) := by
          refine (F_H_isOnlyOpener_s ..).trans ?_
          extract_lets -merge -useContext +onlyGivenNames w9 y9; have e9 : r_1 = w9 := he_r_1; clear_value w9; subst e9
          refine (if_neg c_4).trans ?_
          extract_lets -merge -useContext +onlyGivenNames w9 y9; have e9 : r_8 = w9 := he_r_8; clear_value w9; subst e9
          refine (if_pos c_11).trans ?_
          extract_lets -merge -useContext +onlyGivenNames w9 y9; have e9 : r_15 = w9 := he_r_15; clear_value w9; subst e9
          refine (if_neg c_18).trans ?_
          exact rfl
        exact hlp_92 ((2147483647 - (0 : Int32).toInt).toNat + 1) 0 _ _ _ (Nat.lt_succ_self _) (by first | decide +kernel | omega) hX_124 hP hD hS (lv_sub hl [2, 3, 4, 1, 0] rfl)
      · skip
        refine lv_iconst (v := 0) hx hb dX2_isOnlyOpener_28 (by decide) ?_
        have hX_126 : F_H_isOnlyOpener h_keys h_lent h_rings h_doors c_h_on c_h_onMany c_h_openers x y = ((0 : Int32) : Int32) := by
          refine (F_H_isOnlyOpener_s ..).trans ?_
          extract_lets -merge -useContext +onlyGivenNames w9 y9; have e9 : r_1 = w9 := he_r_1; clear_value w9; subst e9
          refine (if_neg c_4).trans ?_
          extract_lets -merge -useContext +onlyGivenNames w9 y9; have e9 : r_8 = w9 := he_r_8; clear_value w9; subst e9
          refine (if_pos c_11).trans ?_
          extract_lets -merge -useContext +onlyGivenNames w9 y9; have e9 : r_15 = w9 := he_r_15; clear_value w9; subst e9
          refine (if_pos c_18).trans ?_
          exact rfl
        exact hret _ _ _ _ _ _ () [2, 0, 1, 3] hP hD hS rfl (by decide) dX2_isOnlyOpener_29 (Or.inl rfl) ⟨(congrArg (fun z9 => z9) hX_126).symm, (Or.inl rfl)⟩
set_option maxHeartbeats 40000000 in
set_option maxRecDepth 100000 in
theorem d_H_setFeltAs (l : Launch) (G : va_G) (cA : zCA) (h : Nat) (h_features : Int32) (h_featureNames : Nat) (h_steps : Nat) (h_turnedFeatures : Nat) (h_sixteenths : Nat) (h_keys : Int32) (h_keySteps : Nat) (h_lent : Int32) (h_rings : Int32) (h_on : Nat) (h_onMany : Nat) (h_doors : Int32) (h_wanted : Nat) (h_openers : Nat) (h_seconds : Nat) (h_turned : Int32) (h_roundMany : Int32) (h_roundDoors : Nat) (c_h_sixteenths : Nat → Int32) (x : Int32) (y : Int32) (k : Int32) (j : Int32) (hm_h_features : 0 ≤ h_features.toInt ∧ h_features.toInt ≤ 3) : zCv l yX2_setFeltAs cX2_setFeltAs 5 none ({ frames := 1, cells := 0, slots := 0, locals := 22 }) G cA [.ref h, .int x, .int y, .int k, .int j] [(h, .inr (2, [.int h_features, .ref h_featureNames, .ref h_steps, .ref h_turnedFeatures, .ref h_sixteenths, .int h_keys, .ref h_keySteps, .int h_lent, .int h_rings, .ref h_on, .ref h_onMany, .int h_doors, .ref h_wanted, .ref h_openers, .ref h_seconds, .int h_turned, .int h_roundMany, .ref h_roundDoors])), (h_sixteenths, .inl (cA.1 0, 48, .inl c_h_sixteenths))] (S := (Nat → Int32)) (fun (u : (Nat → Int32)) => (u = (F_H_setFeltAs c_h_sixteenths x y k j)) ∧ (True)) (fun (u : (Nat → Int32)) => [(h, .inr (2, [.int h_features, .ref h_featureNames, .ref h_steps, .ref h_turnedFeatures, .ref h_sixteenths, .int h_keys, .ref h_keySteps, .int h_lent, .int h_rings, .ref h_on, .ref h_onMany, .int h_doors, .ref h_wanted, .ref h_openers, .ref h_seconds, .int h_turned, .int h_roundMany, .ref h_roundDoors])), (h_sixteenths, .inl (cA.1 0, 48, .inl u))]) 0 0 := by
  refine z_start2v (own := RX2) (by decide) (Nat.le_of_ble_eq_true rfl) rfl ?_
  intro p e s m args below meth c A ls Q hx hb hml hts hown hK hE hT hP hD hS hA hl hret
  have hl : lv_has ls 5 [(0, .ref h), (1, .int x), (2, .int y), (3, .int k), (4, .int j)] := hl
  refine lv_aload_n hx hb dX2_setFeltAs_0 rfl (lv_at hl 0 rfl) ?_
  refine va_get (D := G) (ci := 2) (v := .ref h_sixteenths) (C := RX2) (T := TX2) (N := 18) hx hb hts inT2 hown hK hP 0 rfl rfl 4 (by decide) (hts _ tw_273) (fun _ h9 => h9) rfl dX2_setFeltAs_1 ?_
  refine lv_iload_n hx hb dX2_setFeltAs_4 rfl (lv_at hl 1 rfl) ?_
  refine lv_iconst (v := 4) hx hb dX2_setFeltAs_5 (by decide) ?_
  refine lv_imul hx hb dX2_setFeltAs_6 ?_
  refine lv_topi (fun x_1 he_x_1 => ?_)
  refine lv_iload_n hx hb dX2_setFeltAs_7 rfl (lv_at hl 2 rfl) ?_
  refine lv_iadd hx hb dX2_setFeltAs_8 ?_
  refine lv_topi (fun x_2 he_x_2 => ?_)
  refine lv_iconst (v := 4) hx hb dX2_setFeltAs_9 (by decide) ?_
  refine lv_imul hx hb dX2_setFeltAs_10 ?_
  refine lv_topi (fun x_3 he_x_3 => ?_)
  refine lv_iload_n hx hb dX2_setFeltAs_11 rfl (lv_at hl 3 rfl) ?_
  refine lv_iadd hx hb dX2_setFeltAs_12 ?_
  refine lv_topi (fun x_4 he_x_4 => ?_)
  refine lv_iload hx hb dX2_setFeltAs_13 (lv_at hl 4 rfl) ?_
  refine z_callSNv (As := [.ref h_sixteenths, .int x_4, .int j]) (rest := []) (wr := [(h, .inr (2, [.int h_features, .ref h_featureNames, .ref h_steps, .ref h_turnedFeatures, .ref h_sixteenths, .int h_keys, .ref h_keySteps, .int h_lent, .int h_rings, .ref h_on, .ref h_onMany, .int h_doors, .ref h_wanted, .ref h_openers, .ref h_seconds, .int h_turned, .int h_roundMany, .ref h_roundDoors]))]) ⟨hx, hb, hml, hown, hts⟩ hK hE hT hP hD hS hA (d_keepAt_48 l G cA h_sixteenths c_h_sixteenths x_4 j) lk_RX2_126 ⟨rfl, rfl⟩ ⟨Nat.le_of_ble_eq_true rfl, Nat.le_of_ble_eq_true rfl⟩ [1] [0] rfl rfl (by decide) rfl hl.1 rfl (lv_room (Nat.le_of_ble_eq_true rfl)) dX2_setFeltAs_15 ⟨Nat.le_of_ble_eq_true rfl, Nat.le_of_ble_eq_true rfl⟩ (fun u_7 H locs hw hP hD hS => ?_)
  obtain ⟨nw0_5, rfl⟩ : ∃ z, z = u_7 := ⟨_, rfl⟩
  have hP : va_P G vwCl [(h, .inr (2, [.int h_features, .ref h_featureNames, .ref h_steps, .ref h_turnedFeatures, .ref h_sixteenths, .int h_keys, .ref h_keySteps, .int h_lent, .int h_rings, .ref h_on, .ref h_onMany, .int h_doors, .ref h_wanted, .ref h_openers, .ref h_seconds, .int h_turned, .int h_roundMany, .ref h_roundDoors])), (h_sixteenths, .inl (cA.1 0, 48, .inl nw0_5))] H := hP
  have hD : va_D A [(h, .inr (2, [.int h_features, .ref h_featureNames, .ref h_steps, .ref h_turnedFeatures, .ref h_sixteenths, .int h_keys, .ref h_keySteps, .int h_lent, .int h_rings, .ref h_on, .ref h_onMany, .int h_doors, .ref h_wanted, .ref h_openers, .ref h_seconds, .int h_turned, .int h_roundMany, .ref h_roundDoors])), (h_sixteenths, .inl (cA.1 0, 48, .inl nw0_5))] := hD
  obtain ⟨he_nw0_5, hw⟩ := hw
  have hX_9 : F_H_setFeltAs c_h_sixteenths x y k j = (nw0_5 : (Nat → Int32)) := by
    refine (F_H_setFeltAs_s ..).trans ?_
    try (extract_lets -merge -useContext +onlyGivenNames y9; have e9 : x_1 = y9 := (by first | exact he_x_1 | exact he_x_1.symm); clear_value y9; subst e9)
    try (extract_lets -merge -useContext +onlyGivenNames y9; have e9 : x_2 = y9 := (by first | exact he_x_2 | exact he_x_2.symm); clear_value y9; subst e9)
    try (extract_lets -merge -useContext +onlyGivenNames y9; have e9 : x_3 = y9 := (by first | exact he_x_3 | exact he_x_3.symm); clear_value y9; subst e9)
    try (extract_lets -merge -useContext +onlyGivenNames y9; have e9 : x_4 = y9 := (by first | exact he_x_4 | exact he_x_4.symm); clear_value y9; subst e9)
    extract_lets -merge -useContext +onlyGivenNames w9 y9; have e9 : nw0_5 = w9 := he_nw0_5; clear_value w9; subst e9
    exact rfl
  exact hret _ _ _ _ _ nw0_5 [0, 1] hP hD hS rfl (by decide) dX2_setFeltAs_18 ⟨(congrArg (fun z9 => z9) hX_9).symm, trivial⟩
set_option maxHeartbeats 40000000 in
set_option maxRecDepth 100000 in
theorem d_H_setStep (l : Launch) (G : va_G) (cA : zCA) (h : Nat) (h_features : Int32) (h_featureNames : Nat) (h_steps : Nat) (h_turnedFeatures : Nat) (h_sixteenths : Nat) (h_keys : Int32) (h_keySteps : Nat) (h_lent : Int32) (h_rings : Int32) (h_on : Nat) (h_onMany : Nat) (h_doors : Int32) (h_wanted : Nat) (h_openers : Nat) (h_seconds : Nat) (h_turned : Int32) (h_roundMany : Int32) (h_roundDoors : Nat) (c_h_keySteps : Nat → Int32) (x : Int32) (y : Int32) (k : Int32) (hm_h_features : 0 ≤ h_features.toInt ∧ h_features.toInt ≤ 3) : zCv l yX2_setStep cX2_setStep 4 none ({ frames := 1, cells := 0, slots := 0, locals := 22 }) G cA [.ref h, .int x, .int y, .int k] [(h, .inr (2, [.int h_features, .ref h_featureNames, .ref h_steps, .ref h_turnedFeatures, .ref h_sixteenths, .int h_keys, .ref h_keySteps, .int h_lent, .int h_rings, .ref h_on, .ref h_onMany, .int h_doors, .ref h_wanted, .ref h_openers, .ref h_seconds, .int h_turned, .int h_roundMany, .ref h_roundDoors])), (h_keySteps, .inl (cA.1 0, 30, .inl c_h_keySteps))] (S := (Nat → Int32)) (fun (u : (Nat → Int32)) => (u = (F_H_setStep c_h_keySteps x y k)) ∧ (True)) (fun (u : (Nat → Int32)) => [(h, .inr (2, [.int h_features, .ref h_featureNames, .ref h_steps, .ref h_turnedFeatures, .ref h_sixteenths, .int h_keys, .ref h_keySteps, .int h_lent, .int h_rings, .ref h_on, .ref h_onMany, .int h_doors, .ref h_wanted, .ref h_openers, .ref h_seconds, .int h_turned, .int h_roundMany, .ref h_roundDoors])), (h_keySteps, .inl (cA.1 0, 30, .inl u))]) 0 0 := by
  refine z_start2v (own := RX2) (by decide) (Nat.le_of_ble_eq_true rfl) rfl ?_
  intro p e s m args below meth c A ls Q hx hb hml hts hown hK hE hT hP hD hS hA hl hret
  have hl : lv_has ls 4 [(0, .ref h), (1, .int x), (2, .int y), (3, .int k)] := hl
  refine lv_aload_n hx hb dX2_setStep_0 rfl (lv_at hl 0 rfl) ?_
  refine va_get (D := G) (ci := 2) (v := .ref h_keySteps) (C := RX2) (T := TX2) (N := 18) hx hb hts inT2 hown hK hP 0 rfl rfl 6 (by decide) (hts _ tw_277) (fun _ h9 => h9) rfl dX2_setStep_1 ?_
  refine lv_iload_n hx hb dX2_setStep_4 rfl (lv_at hl 1 rfl) ?_
  refine lv_iconst (v := 3) hx hb dX2_setStep_5 (by decide) ?_
  refine lv_imul hx hb dX2_setStep_6 ?_
  refine lv_topi (fun x_1 he_x_1 => ?_)
  refine lv_iload_n hx hb dX2_setStep_7 rfl (lv_at hl 2 rfl) ?_
  refine lv_iadd hx hb dX2_setStep_8 ?_
  refine lv_topi (fun x_2 he_x_2 => ?_)
  refine lv_iload_n hx hb dX2_setStep_9 rfl (lv_at hl 3 rfl) ?_
  refine z_callSNv (As := [.ref h_keySteps, .int x_2, .int k]) (rest := []) (wr := [(h, .inr (2, [.int h_features, .ref h_featureNames, .ref h_steps, .ref h_turnedFeatures, .ref h_sixteenths, .int h_keys, .ref h_keySteps, .int h_lent, .int h_rings, .ref h_on, .ref h_onMany, .int h_doors, .ref h_wanted, .ref h_openers, .ref h_seconds, .int h_turned, .int h_roundMany, .ref h_roundDoors]))]) ⟨hx, hb, hml, hown, hts⟩ hK hE hT hP hD hS hA (d_keepAt_30 l G cA h_keySteps c_h_keySteps x_2 k) lk_RX2_126 ⟨rfl, rfl⟩ ⟨Nat.le_of_ble_eq_true rfl, Nat.le_of_ble_eq_true rfl⟩ [1] [0] rfl rfl (by decide) rfl hl.1 rfl (lv_room (Nat.le_of_ble_eq_true rfl)) dX2_setStep_10 ⟨Nat.le_of_ble_eq_true rfl, Nat.le_of_ble_eq_true rfl⟩ (fun u_5 H locs hw hP hD hS => ?_)
  obtain ⟨nw0_3, rfl⟩ : ∃ z, z = u_5 := ⟨_, rfl⟩
  have hP : va_P G vwCl [(h, .inr (2, [.int h_features, .ref h_featureNames, .ref h_steps, .ref h_turnedFeatures, .ref h_sixteenths, .int h_keys, .ref h_keySteps, .int h_lent, .int h_rings, .ref h_on, .ref h_onMany, .int h_doors, .ref h_wanted, .ref h_openers, .ref h_seconds, .int h_turned, .int h_roundMany, .ref h_roundDoors])), (h_keySteps, .inl (cA.1 0, 30, .inl nw0_3))] H := hP
  have hD : va_D A [(h, .inr (2, [.int h_features, .ref h_featureNames, .ref h_steps, .ref h_turnedFeatures, .ref h_sixteenths, .int h_keys, .ref h_keySteps, .int h_lent, .int h_rings, .ref h_on, .ref h_onMany, .int h_doors, .ref h_wanted, .ref h_openers, .ref h_seconds, .int h_turned, .int h_roundMany, .ref h_roundDoors])), (h_keySteps, .inl (cA.1 0, 30, .inl nw0_3))] := hD
  obtain ⟨he_nw0_3, hw⟩ := hw
  have hX_7 : F_H_setStep c_h_keySteps x y k = (nw0_3 : (Nat → Int32)) := by
    refine (F_H_setStep_s ..).trans ?_
    try (extract_lets -merge -useContext +onlyGivenNames y9; have e9 : x_1 = y9 := (by first | exact he_x_1 | exact he_x_1.symm); clear_value y9; subst e9)
    try (extract_lets -merge -useContext +onlyGivenNames y9; have e9 : x_2 = y9 := (by first | exact he_x_2 | exact he_x_2.symm); clear_value y9; subst e9)
    extract_lets -merge -useContext +onlyGivenNames w9 y9; have e9 : nw0_3 = w9 := he_nw0_3; clear_value w9; subst e9
    exact rfl
  exact hret _ _ _ _ _ nw0_3 [0, 1] hP hD hS rfl (by decide) dX2_setStep_13 ⟨(congrArg (fun z9 => z9) hX_7).symm, trivial⟩
set_option maxHeartbeats 40000000 in
set_option maxRecDepth 100000 in
theorem d_H_setSeconds (l : Launch) (G : va_G) (cA : zCA) (h : Nat) (h_features : Int32) (h_featureNames : Nat) (h_steps : Nat) (h_turnedFeatures : Nat) (h_sixteenths : Nat) (h_keys : Int32) (h_keySteps : Nat) (h_lent : Int32) (h_rings : Int32) (h_on : Nat) (h_onMany : Nat) (h_doors : Int32) (h_wanted : Nat) (h_openers : Nat) (h_seconds : Nat) (h_turned : Int32) (h_roundMany : Int32) (h_roundDoors : Nat) (c_h_seconds : Nat → Int32) (x : Int32) (y : Int32) (hm_h_features : 0 ≤ h_features.toInt ∧ h_features.toInt ≤ 3) : zCv l yX2_setSeconds cX2_setSeconds 3 none ({ frames := 1, cells := 0, slots := 0, locals := 22 }) G cA [.ref h, .int x, .int y] [(h, .inr (2, [.int h_features, .ref h_featureNames, .ref h_steps, .ref h_turnedFeatures, .ref h_sixteenths, .int h_keys, .ref h_keySteps, .int h_lent, .int h_rings, .ref h_on, .ref h_onMany, .int h_doors, .ref h_wanted, .ref h_openers, .ref h_seconds, .int h_turned, .int h_roundMany, .ref h_roundDoors])), (h_seconds, .inl (cA.1 0, 4, .inl c_h_seconds))] (S := (Nat → Int32)) (fun (u : (Nat → Int32)) => (u = (F_H_setSeconds c_h_seconds x y)) ∧ (True)) (fun (u : (Nat → Int32)) => [(h, .inr (2, [.int h_features, .ref h_featureNames, .ref h_steps, .ref h_turnedFeatures, .ref h_sixteenths, .int h_keys, .ref h_keySteps, .int h_lent, .int h_rings, .ref h_on, .ref h_onMany, .int h_doors, .ref h_wanted, .ref h_openers, .ref h_seconds, .int h_turned, .int h_roundMany, .ref h_roundDoors])), (h_seconds, .inl (cA.1 0, 4, .inl u))]) 0 0 := by
  refine z_start2v (own := RX2) (by decide) (Nat.le_of_ble_eq_true rfl) rfl ?_
  intro p e s m args below meth c A ls Q hx hb hml hts hown hK hE hT hP hD hS hA hl hret
  have hl : lv_has ls 3 [(0, .ref h), (1, .int x), (2, .int y)] := hl
  refine lv_aload_n hx hb dX2_setSeconds_0 rfl (lv_at hl 0 rfl) ?_
  refine va_get (D := G) (ci := 2) (v := .ref h_seconds) (C := RX2) (T := TX2) (N := 18) hx hb hts inT2 hown hK hP 0 rfl rfl 14 (by decide) (hts _ tw_291) (fun _ h9 => h9) rfl dX2_setSeconds_1 ?_
  refine lv_iload_n hx hb dX2_setSeconds_4 rfl (lv_at hl 1 rfl) ?_
  refine lv_iload_n hx hb dX2_setSeconds_5 rfl (lv_at hl 2 rfl) ?_
  refine z_callSNv (As := [.ref h_seconds, .int x, .int y]) (rest := []) (wr := [(h, .inr (2, [.int h_features, .ref h_featureNames, .ref h_steps, .ref h_turnedFeatures, .ref h_sixteenths, .int h_keys, .ref h_keySteps, .int h_lent, .int h_rings, .ref h_on, .ref h_onMany, .int h_doors, .ref h_wanted, .ref h_openers, .ref h_seconds, .int h_turned, .int h_roundMany, .ref h_roundDoors]))]) ⟨hx, hb, hml, hown, hts⟩ hK hE hT hP hD hS hA (d_keepAt_4 l G cA h_seconds c_h_seconds x y) lk_RX2_126 ⟨rfl, rfl⟩ ⟨Nat.le_of_ble_eq_true rfl, Nat.le_of_ble_eq_true rfl⟩ [1] [0] rfl rfl (by decide) rfl hl.1 rfl (lv_room (Nat.le_of_ble_eq_true rfl)) dX2_setSeconds_6 ⟨Nat.le_of_ble_eq_true rfl, Nat.le_of_ble_eq_true rfl⟩ (fun u_3 H locs hw hP hD hS => ?_)
  obtain ⟨nw0_1, rfl⟩ : ∃ z, z = u_3 := ⟨_, rfl⟩
  have hP : va_P G vwCl [(h, .inr (2, [.int h_features, .ref h_featureNames, .ref h_steps, .ref h_turnedFeatures, .ref h_sixteenths, .int h_keys, .ref h_keySteps, .int h_lent, .int h_rings, .ref h_on, .ref h_onMany, .int h_doors, .ref h_wanted, .ref h_openers, .ref h_seconds, .int h_turned, .int h_roundMany, .ref h_roundDoors])), (h_seconds, .inl (cA.1 0, 4, .inl nw0_1))] H := hP
  have hD : va_D A [(h, .inr (2, [.int h_features, .ref h_featureNames, .ref h_steps, .ref h_turnedFeatures, .ref h_sixteenths, .int h_keys, .ref h_keySteps, .int h_lent, .int h_rings, .ref h_on, .ref h_onMany, .int h_doors, .ref h_wanted, .ref h_openers, .ref h_seconds, .int h_turned, .int h_roundMany, .ref h_roundDoors])), (h_seconds, .inl (cA.1 0, 4, .inl nw0_1))] := hD
  obtain ⟨he_nw0_1, hw⟩ := hw
  have hX_5 : F_H_setSeconds c_h_seconds x y = (nw0_1 : (Nat → Int32)) := by
    refine (F_H_setSeconds_s ..).trans ?_
    extract_lets -merge -useContext +onlyGivenNames w9 y9; have e9 : nw0_1 = w9 := he_nw0_1; clear_value w9; subst e9
    exact rfl
  exact hret _ _ _ _ _ nw0_1 [0, 1] hP hD hS rfl (by decide) dX2_setSeconds_9 ⟨(congrArg (fun z9 => z9) hX_5).symm, trivial⟩
set_option maxHeartbeats 40000000 in
set_option maxRecDepth 100000 in
theorem d_H_addFeature (l : Launch) (G : va_G) (cA : zCA) (h : Nat) (h_features : Int32) (h_featureNames : Nat) (h_steps : Nat) (h_turnedFeatures : Nat) (h_sixteenths : Nat) (h_keys : Int32) (h_keySteps : Nat) (h_lent : Int32) (h_rings : Int32) (h_on : Nat) (h_onMany : Nat) (h_doors : Int32) (h_wanted : Nat) (h_openers : Nat) (h_seconds : Nat) (h_turned : Int32) (h_roundMany : Int32) (h_roundDoors : Nat) (c_h_featureNames : Nat → Int64) (c_h_steps : Nat → Int32) (c_h_turnedFeatures : Nat → Int32) (c_h_sixteenths : Nat → Int32) (x : Int64) (y : Int32) (k : Int32) (hft : h_features.toInt ≤ 2) (hm_h_features : 0 ≤ h_features.toInt ∧ h_features.toInt ≤ 3) : zCv l yX2_addFeature cX2_addFeature 7 none ({ frames := 2, cells := 0, slots := 0, locals := 46 }) G cA [.ref h, .long x, .int y, .int k] [(h, .inr (2, [.int h_features, .ref h_featureNames, .ref h_steps, .ref h_turnedFeatures, .ref h_sixteenths, .int h_keys, .ref h_keySteps, .int h_lent, .int h_rings, .ref h_on, .ref h_onMany, .int h_doors, .ref h_wanted, .ref h_openers, .ref h_seconds, .int h_turned, .int h_roundMany, .ref h_roundDoors])), (h_featureNames, .inl (cA.1 1, 3, .inr (.inl c_h_featureNames))), (h_steps, .inl (cA.1 0, 3, .inl c_h_steps)), (h_turnedFeatures, .inl (cA.1 0, 3, .inl c_h_turnedFeatures)), (h_sixteenths, .inl (cA.1 0, 48, .inl c_h_sixteenths))] (S := Int32 × (Nat → Int64) × (Nat → Int32) × (Nat → Int32) × (Nat → Int32)) (fun (u : Int32 × (Nat → Int64) × (Nat → Int32) × (Nat → Int32) × (Nat → Int32)) => (u.1 = (F_H_addFeature h_features c_h_featureNames c_h_steps c_h_turnedFeatures c_h_sixteenths x y k).1) ∧ (u.2.1 = (F_H_addFeature h_features c_h_featureNames c_h_steps c_h_turnedFeatures c_h_sixteenths x y k).2.1) ∧ (u.2.2.1 = (F_H_addFeature h_features c_h_featureNames c_h_steps c_h_turnedFeatures c_h_sixteenths x y k).2.2.1) ∧ (u.2.2.2.1 = (F_H_addFeature h_features c_h_featureNames c_h_steps c_h_turnedFeatures c_h_sixteenths x y k).2.2.2.1) ∧ (u.2.2.2.2 = (F_H_addFeature h_features c_h_featureNames c_h_steps c_h_turnedFeatures c_h_sixteenths x y k).2.2.2.2) ∧ (0 ≤ u.1.toInt ∧ u.1.toInt ≤ 3)) (fun (u : Int32 × (Nat → Int64) × (Nat → Int32) × (Nat → Int32) × (Nat → Int32)) => [(h, .inr (2, [.int u.1, .ref h_featureNames, .ref h_steps, .ref h_turnedFeatures, .ref h_sixteenths, .int h_keys, .ref h_keySteps, .int h_lent, .int h_rings, .ref h_on, .ref h_onMany, .int h_doors, .ref h_wanted, .ref h_openers, .ref h_seconds, .int h_turned, .int h_roundMany, .ref h_roundDoors])), (h_featureNames, .inl (cA.1 1, 3, .inr (.inl u.2.1))), (h_steps, .inl (cA.1 0, 3, .inl u.2.2.1)), (h_turnedFeatures, .inl (cA.1 0, 3, .inl u.2.2.2.1)), (h_sixteenths, .inl (cA.1 0, 48, .inl u.2.2.2.2))]) 0 0 := by
  refine z_start2v (own := RX2) (by decide) (Nat.le_of_ble_eq_true rfl) rfl ?_
  intro p e s m args below meth c A ls Q hx hb hml hts hown hK hE hT hP hD hS hA hl hret
  have hl : lv_has ls 7 [(0, .ref h), (1, .long x), (3, .int y), (4, .int k)] := hl
  refine lv_aload_n hx hb dX2_addFeature_0 rfl (lv_at hl 0 rfl) ?_
  refine va_get (D := G) (ci := 2) (v := .ref h_featureNames) (C := RX2) (T := TX2) (N := 18) hx hb hts inT2 hown hK hP 0 rfl rfl 1 (by decide) (hts _ tw_270) (fun _ h9 => h9) rfl dX2_addFeature_1 ?_
  refine lv_aload_n hx hb dX2_addFeature_4 rfl (lv_at hl 0 rfl) ?_
  refine va_get (D := G) (ci := 2) (v := .int h_features) (C := RX2) (T := TX2) (N := 18) hx hb hts inT2 hown hK hP 0 rfl rfl 0 (by decide) (hts _ tw_265) (fun _ h9 => h9) rfl dX2_addFeature_5 ?_
  refine lv_lload_n hx hb dX2_addFeature_8 rfl (lv_at hl 1 rfl) ?_
  refine z_callSNv (As := [.ref h_featureNames, .int h_features, .long x]) (rest := []) (wr := [(h, .inr (2, [.int h_features, .ref h_featureNames, .ref h_steps, .ref h_turnedFeatures, .ref h_sixteenths, .int h_keys, .ref h_keySteps, .int h_lent, .int h_rings, .ref h_on, .ref h_onMany, .int h_doors, .ref h_wanted, .ref h_openers, .ref h_seconds, .int h_turned, .int h_roundMany, .ref h_roundDoors])), (h_steps, .inl (cA.1 0, 3, .inl c_h_steps)), (h_turnedFeatures, .inl (cA.1 0, 3, .inl c_h_turnedFeatures)), (h_sixteenths, .inl (cA.1 0, 48, .inl c_h_sixteenths))]) ⟨hx, hb, hml, hown, hts⟩ hK hE hT hP hD hS hA (d_keepLongAt_3 l G cA h_featureNames c_h_featureNames h_features x) lk_RX2_137 ⟨rfl, rfl⟩ ⟨Nat.le_of_ble_eq_true rfl, Nat.le_of_ble_eq_true rfl⟩ [1] [0, 2, 3, 4] rfl rfl (by decide) rfl hl.1 rfl (lv_room (Nat.le_of_ble_eq_true rfl)) dX2_addFeature_9 ⟨Nat.le_of_ble_eq_true rfl, Nat.le_of_ble_eq_true rfl⟩ (fun u_3 H locs hw hP hD hS => ?_)
  obtain ⟨nw0_1, rfl⟩ : ∃ z, z = u_3 := ⟨_, rfl⟩
  have hP : va_P G vwCl [(h, .inr (2, [.int h_features, .ref h_featureNames, .ref h_steps, .ref h_turnedFeatures, .ref h_sixteenths, .int h_keys, .ref h_keySteps, .int h_lent, .int h_rings, .ref h_on, .ref h_onMany, .int h_doors, .ref h_wanted, .ref h_openers, .ref h_seconds, .int h_turned, .int h_roundMany, .ref h_roundDoors])), (h_steps, .inl (cA.1 0, 3, .inl c_h_steps)), (h_turnedFeatures, .inl (cA.1 0, 3, .inl c_h_turnedFeatures)), (h_sixteenths, .inl (cA.1 0, 48, .inl c_h_sixteenths)), (h_featureNames, .inl (cA.1 1, 3, .inr (.inl nw0_1)))] H := hP
  have hD : va_D A [(h, .inr (2, [.int h_features, .ref h_featureNames, .ref h_steps, .ref h_turnedFeatures, .ref h_sixteenths, .int h_keys, .ref h_keySteps, .int h_lent, .int h_rings, .ref h_on, .ref h_onMany, .int h_doors, .ref h_wanted, .ref h_openers, .ref h_seconds, .int h_turned, .int h_roundMany, .ref h_roundDoors])), (h_steps, .inl (cA.1 0, 3, .inl c_h_steps)), (h_turnedFeatures, .inl (cA.1 0, 3, .inl c_h_turnedFeatures)), (h_sixteenths, .inl (cA.1 0, 48, .inl c_h_sixteenths)), (h_featureNames, .inl (cA.1 1, 3, .inr (.inl nw0_1)))] := hD
  obtain ⟨he_nw0_1, hw⟩ := hw
  refine lv_aload_n hx hb dX2_addFeature_12 rfl (lv_at hl 0 rfl) ?_
  refine va_get (D := G) (ci := 2) (v := .ref h_steps) (C := RX2) (T := TX2) (N := 18) hx hb hts inT2 hown hK hP 0 rfl rfl 2 (by decide) (hts _ tw_271) (fun _ h9 => h9) rfl dX2_addFeature_13 ?_
  refine lv_aload_n hx hb dX2_addFeature_16 rfl (lv_at hl 0 rfl) ?_
  refine va_get (D := G) (ci := 2) (v := .int h_features) (C := RX2) (T := TX2) (N := 18) hx hb hts inT2 hown hK hP 0 rfl rfl 0 (by decide) (hts _ tw_265) (fun _ h9 => h9) rfl dX2_addFeature_17 ?_
  refine lv_iload_n hx hb dX2_addFeature_20 rfl (lv_at hl 2 rfl) ?_
  refine z_callSNv (As := [.ref h_steps, .int h_features, .int y]) (rest := []) (wr := [(h, .inr (2, [.int h_features, .ref h_featureNames, .ref h_steps, .ref h_turnedFeatures, .ref h_sixteenths, .int h_keys, .ref h_keySteps, .int h_lent, .int h_rings, .ref h_on, .ref h_onMany, .int h_doors, .ref h_wanted, .ref h_openers, .ref h_seconds, .int h_turned, .int h_roundMany, .ref h_roundDoors])), (h_turnedFeatures, .inl (cA.1 0, 3, .inl c_h_turnedFeatures)), (h_sixteenths, .inl (cA.1 0, 48, .inl c_h_sixteenths)), (h_featureNames, .inl (cA.1 1, 3, .inr (.inl nw0_1)))]) ⟨hx, hb, hml, hown, hts⟩ hK hE hT hP hD hS hA (d_keepAt_3 l G cA h_steps c_h_steps h_features y) lk_RX2_126 ⟨rfl, rfl⟩ ⟨Nat.le_of_ble_eq_true rfl, Nat.le_of_ble_eq_true rfl⟩ [1] [0, 2, 3, 4] rfl rfl (by decide) rfl hl.1 rfl (lv_room (Nat.le_of_ble_eq_true rfl)) dX2_addFeature_21 ⟨Nat.le_of_ble_eq_true rfl, Nat.le_of_ble_eq_true rfl⟩ (fun u_7 H locs hw hP hD hS => ?_)
  obtain ⟨nw0_5, rfl⟩ : ∃ z, z = u_7 := ⟨_, rfl⟩
  have hP : va_P G vwCl [(h, .inr (2, [.int h_features, .ref h_featureNames, .ref h_steps, .ref h_turnedFeatures, .ref h_sixteenths, .int h_keys, .ref h_keySteps, .int h_lent, .int h_rings, .ref h_on, .ref h_onMany, .int h_doors, .ref h_wanted, .ref h_openers, .ref h_seconds, .int h_turned, .int h_roundMany, .ref h_roundDoors])), (h_turnedFeatures, .inl (cA.1 0, 3, .inl c_h_turnedFeatures)), (h_sixteenths, .inl (cA.1 0, 48, .inl c_h_sixteenths)), (h_featureNames, .inl (cA.1 1, 3, .inr (.inl nw0_1))), (h_steps, .inl (cA.1 0, 3, .inl nw0_5))] H := hP
  have hD : va_D A [(h, .inr (2, [.int h_features, .ref h_featureNames, .ref h_steps, .ref h_turnedFeatures, .ref h_sixteenths, .int h_keys, .ref h_keySteps, .int h_lent, .int h_rings, .ref h_on, .ref h_onMany, .int h_doors, .ref h_wanted, .ref h_openers, .ref h_seconds, .int h_turned, .int h_roundMany, .ref h_roundDoors])), (h_turnedFeatures, .inl (cA.1 0, 3, .inl c_h_turnedFeatures)), (h_sixteenths, .inl (cA.1 0, 48, .inl c_h_sixteenths)), (h_featureNames, .inl (cA.1 1, 3, .inr (.inl nw0_1))), (h_steps, .inl (cA.1 0, 3, .inl nw0_5))] := hD
  obtain ⟨he_nw0_5, hw⟩ := hw
  have hx_nw0_5 := hw
  refine lv_aload_n hx hb dX2_addFeature_24 rfl (lv_at hl 0 rfl) ?_
  refine va_get (D := G) (ci := 2) (v := .ref h_turnedFeatures) (C := RX2) (T := TX2) (N := 18) hx hb hts inT2 hown hK hP 0 rfl rfl 3 (by decide) (hts _ tw_272) (fun _ h9 => h9) rfl dX2_addFeature_25 ?_
  refine lv_aload_n hx hb dX2_addFeature_28 rfl (lv_at hl 0 rfl) ?_
  refine va_get (D := G) (ci := 2) (v := .int h_features) (C := RX2) (T := TX2) (N := 18) hx hb hts inT2 hown hK hP 0 rfl rfl 0 (by decide) (hts _ tw_265) (fun _ h9 => h9) rfl dX2_addFeature_29 ?_
  refine lv_iload hx hb dX2_addFeature_32 (lv_at hl 3 rfl) ?_
  refine lv_if_eq (tgt := 41) hx hb dX2_addFeature_34 (by decide) (fun c_9 => ?_) (fun c_9 => ?_)
  · skip
    refine lv_iconst (v := 0) hx hb dX2_addFeature_41 (by decide) ?_
    refine z_callSNv (As := [.ref h_turnedFeatures, .int h_features, .int 0]) (rest := []) (wr := [(h, .inr (2, [.int h_features, .ref h_featureNames, .ref h_steps, .ref h_turnedFeatures, .ref h_sixteenths, .int h_keys, .ref h_keySteps, .int h_lent, .int h_rings, .ref h_on, .ref h_onMany, .int h_doors, .ref h_wanted, .ref h_openers, .ref h_seconds, .int h_turned, .int h_roundMany, .ref h_roundDoors])), (h_sixteenths, .inl (cA.1 0, 48, .inl c_h_sixteenths)), (h_featureNames, .inl (cA.1 1, 3, .inr (.inl nw0_1))), (h_steps, .inl (cA.1 0, 3, .inl nw0_5))]) ⟨hx, hb, hml, hown, hts⟩ hK hE hT hP hD hS hA (d_keepAt_3 l G cA h_turnedFeatures c_h_turnedFeatures h_features 0) lk_RX2_126 ⟨rfl, rfl⟩ ⟨Nat.le_of_ble_eq_true rfl, Nat.le_of_ble_eq_true rfl⟩ [1] [0, 2, 3, 4] rfl rfl (by decide) rfl hl.1 rfl (lv_room (Nat.le_of_ble_eq_true rfl)) dX2_addFeature_42 ⟨Nat.le_of_ble_eq_true rfl, Nat.le_of_ble_eq_true rfl⟩ (fun u_13 H locs hw hP hD hS => ?_)
    obtain ⟨nw0_11, rfl⟩ : ∃ z, z = u_13 := ⟨_, rfl⟩
    have hP : va_P G vwCl [(h, .inr (2, [.int h_features, .ref h_featureNames, .ref h_steps, .ref h_turnedFeatures, .ref h_sixteenths, .int h_keys, .ref h_keySteps, .int h_lent, .int h_rings, .ref h_on, .ref h_onMany, .int h_doors, .ref h_wanted, .ref h_openers, .ref h_seconds, .int h_turned, .int h_roundMany, .ref h_roundDoors])), (h_sixteenths, .inl (cA.1 0, 48, .inl c_h_sixteenths)), (h_featureNames, .inl (cA.1 1, 3, .inr (.inl nw0_1))), (h_steps, .inl (cA.1 0, 3, .inl nw0_5)), (h_turnedFeatures, .inl (cA.1 0, 3, .inl nw0_11))] H := hP
    have hD : va_D A [(h, .inr (2, [.int h_features, .ref h_featureNames, .ref h_steps, .ref h_turnedFeatures, .ref h_sixteenths, .int h_keys, .ref h_keySteps, .int h_lent, .int h_rings, .ref h_on, .ref h_onMany, .int h_doors, .ref h_wanted, .ref h_openers, .ref h_seconds, .int h_turned, .int h_roundMany, .ref h_roundDoors])), (h_sixteenths, .inl (cA.1 0, 48, .inl c_h_sixteenths)), (h_featureNames, .inl (cA.1 1, 3, .inr (.inl nw0_1))), (h_steps, .inl (cA.1 0, 3, .inl nw0_5)), (h_turnedFeatures, .inl (cA.1 0, 3, .inl nw0_11))] := hD
    obtain ⟨he_nw0_11, hw⟩ := hw
    have hx_nw0_11 := hw
    refine lv_aload_n hx hb dX2_addFeature_45 rfl (lv_at hl 0 rfl) ?_
    refine lv_dup hx hb dX2_addFeature_46 rfl ?_
    refine va_get (D := G) (ci := 2) (v := .int h_features) (C := RX2) (T := TX2) (N := 18) hx hb hts inT2 hown hK hP 0 rfl rfl 0 (by decide) (hts _ tw_265) (fun _ h9 => h9) rfl dX2_addFeature_47 ?_
    refine lv_iconst (v := 1) hx hb dX2_addFeature_50 (by decide) ?_
    refine lv_iadd hx hb dX2_addFeature_51 ?_
    refine lv_topi (fun x_15 he_x_15 => ?_)
    have hq_x_15 : x_15.toInt = h_features.toInt + 1 := by rw [he_x_15]; exact z_addI (K := 1) (by decide +kernel) (by omega) (by omega)
    refine va_put (D := G) (ci := 2) (v := .int x_15) (ty := .int) (C := RX2) (T := TX2) (N := 18) hx hb hts inT2 tyX2 tyX2_ok nmX2 hown hK hP hD hS 0 rfl rfl 0 (by decide) (hts _ tw_265) (fun _ h9 => h9) rfl (tyX2_ok 0 (by decide)) rfl rfl (Nat.le_of_ble_eq_true rfl) dX2_addFeature_52 (fun H locs hP hD hS => ?_)
    have hP : va_P G vwCl [(h, .inr (2, [.int x_15, .ref h_featureNames, .ref h_steps, .ref h_turnedFeatures, .ref h_sixteenths, .int h_keys, .ref h_keySteps, .int h_lent, .int h_rings, .ref h_on, .ref h_onMany, .int h_doors, .ref h_wanted, .ref h_openers, .ref h_seconds, .int h_turned, .int h_roundMany, .ref h_roundDoors])), (h_sixteenths, .inl (cA.1 0, 48, .inl c_h_sixteenths)), (h_featureNames, .inl (cA.1 1, 3, .inr (.inl nw0_1))), (h_steps, .inl (cA.1 0, 3, .inl nw0_5)), (h_turnedFeatures, .inl (cA.1 0, 3, .inl nw0_11))] H := hP
    have hD : va_D A [(h, .inr (2, [.int x_15, .ref h_featureNames, .ref h_steps, .ref h_turnedFeatures, .ref h_sixteenths, .int h_keys, .ref h_keySteps, .int h_lent, .int h_rings, .ref h_on, .ref h_onMany, .int h_doors, .ref h_wanted, .ref h_openers, .ref h_seconds, .int h_turned, .int h_roundMany, .ref h_roundDoors])), (h_sixteenths, .inl (cA.1 0, 48, .inl c_h_sixteenths)), (h_featureNames, .inl (cA.1 1, 3, .inr (.inl nw0_1))), (h_steps, .inl (cA.1 0, 3, .inl nw0_5)), (h_turnedFeatures, .inl (cA.1 0, 3, .inl nw0_11))] := hD
    refine lv_iconst (v := 0) hx hb dX2_addFeature_55 (by decide) ?_
    refine lv_istore (lv' := [(5, .int 0), (0, .ref h), (1, .long x), (3, .int y), (4, .int k)]) hx hb dX2_addFeature_56 hl (by decide) rfl (fun ls hl => ?_)
    have hlp_168 : ∀ (n_L58a : Nat) (v_102 : Int32) (g_103 : Nat → Int32) (H : Heap) (locs : List Loc) (ls : Array Slot), (2147483647 - v_102.toInt).toNat < n_L58a → (0 ≤ v_102.toInt) → (F_H_addFeature h_features c_h_featureNames c_h_steps c_h_turnedFeatures c_h_sixteenths x y k = F_H_addFeature_L58a nw0_1 nw0_5 nw0_11 x_15 n_L58a v_102 g_103) → va_P G vwCl [(h, .inr (2, [.int x_15, .ref h_featureNames, .ref h_steps, .ref h_turnedFeatures, .ref h_sixteenths, .int h_keys, .ref h_keySteps, .int h_lent, .int h_rings, .ref h_on, .ref h_onMany, .int h_doors, .ref h_wanted, .ref h_openers, .ref h_seconds, .int h_turned, .int h_roundMany, .ref h_roundDoors])), (h_sixteenths, .inl (cA.1 0, 48, .inl g_103)), (h_featureNames, .inl (cA.1 1, 3, .inr (.inl nw0_1))), (h_steps, .inl (cA.1 0, 3, .inl nw0_5)), (h_turnedFeatures, .inl (cA.1 0, 3, .inl nw0_11))] H → va_D A [(h, .inr (2, [.int x_15, .ref h_featureNames, .ref h_steps, .ref h_turnedFeatures, .ref h_sixteenths, .int h_keys, .ref h_keySteps, .int h_lent, .int h_rings, .ref h_on, .ref h_onMany, .int h_doors, .ref h_wanted, .ref h_openers, .ref h_seconds, .int h_turned, .int h_roundMany, .ref h_roundDoors])), (h_sixteenths, .inl (cA.1 0, 48, .inl g_103)), (h_featureNames, .inl (cA.1 1, 3, .inr (.inl nw0_1))), (h_steps, .inl (cA.1 0, 3, .inl nw0_5)), (h_turnedFeatures, .inl (cA.1 0, 3, .inl nw0_11))] → va_S A s.heap H locs → lv_has ls 7 [(0, .ref h), (1, .long x), (3, .int y), (4, .int k), (5, .int v_102)] → W p l e ({ frames := 2, cells := 0, slots := 0, locals := 46 }) s m args below meth c H locs 0 0 Q (F0 m 58 ls []) := by
      intro n_L58a
      induction n_L58a with
      | zero =>
        intro v_102 g_103 H locs ls hmu_hlp_168 hi_169 hF_L58a hP hD hS hl
        exact absurd hmu_hlp_168 (Nat.not_lt_zero _)
      | succ n_L58a ih_170 =>
        intro v_102 g_103 H locs ls hmu_hlp_168 hi_169 hF_L58a hP hD hS hl
        refine lv_iload hx hb dX2_addFeature_58 (lv_at hl 4 rfl) ?_
        refine lv_iconst (v := 4) hx hb dX2_addFeature_60 (by decide) ?_
        refine lv_icmp_ge (tgt := 112) hx hb dX2_addFeature_61 (by decide) (fun c_171 => ?_) (fun c_171 => ?_)
        · have b_172 := z_b1 c_171 (K := 4) (by decide +kernel)
          have hX_173 : F_H_addFeature h_features c_h_featureNames c_h_steps c_h_turnedFeatures c_h_sixteenths x y k = ((x_15, nw0_1, nw0_5, nw0_11, g_103) : Int32 × (Nat → Int64) × (Nat → Int32) × (Nat → Int32) × (Nat → Int32)) := by
            refine hF_L58a.trans ?_
            refine (F_H_addFeature_L58a_s ..).trans ?_
            refine (if_pos c_171).trans ?_
            exact rfl
          exact hret _ _ _ _ _ (x_15, nw0_1, nw0_5, nw0_11, g_103) [0, 2, 3, 4, 1] hP hD hS rfl (by decide) dX2_addFeature_112 ⟨(congrArg (fun z9 => z9.1) hX_173).symm, (congrArg (fun z9 => z9.2.1) hX_173).symm, (congrArg (fun z9 => z9.2.2.1) hX_173).symm, (congrArg (fun z9 => z9.2.2.2.1) hX_173).symm, (congrArg (fun z9 => z9.2.2.2.2) hX_173).symm, (by show 0 ≤ x_15.toInt ∧ x_15.toInt ≤ 3; omega)⟩
        · have b_174 := z_b2 c_171 (K := 4) (by decide +kernel)
          refine lv_iconst (v := 0) hx hb dX2_addFeature_64 (by decide) ?_
          refine lv_istore (lv' := [(6, .int 0), (0, .ref h), (1, .long x), (3, .int y), (4, .int k), (5, .int v_102)]) hx hb dX2_addFeature_65 hl (by decide) rfl (fun ls hl => ?_)
          have hlp_218 : ∀ (n_L67a : Nat) (v_202 : Int32) (g_203 : Nat → Int32) (H : Heap) (locs : List Loc) (ls : Array Slot), (2147483647 - v_202.toInt).toNat < n_L67a → (0 ≤ v_202.toInt) → (F_H_addFeature h_features c_h_featureNames c_h_steps c_h_turnedFeatures c_h_sixteenths x y k = F_H_addFeature_L67a x_15 v_102 (F_H_addFeature_L58a nw0_1 nw0_5 nw0_11 x_15 n_L58a) n_L67a v_202 g_203) → va_P G vwCl [(h, .inr (2, [.int x_15, .ref h_featureNames, .ref h_steps, .ref h_turnedFeatures, .ref h_sixteenths, .int h_keys, .ref h_keySteps, .int h_lent, .int h_rings, .ref h_on, .ref h_onMany, .int h_doors, .ref h_wanted, .ref h_openers, .ref h_seconds, .int h_turned, .int h_roundMany, .ref h_roundDoors])), (h_sixteenths, .inl (cA.1 0, 48, .inl g_203)), (h_featureNames, .inl (cA.1 1, 3, .inr (.inl nw0_1))), (h_steps, .inl (cA.1 0, 3, .inl nw0_5)), (h_turnedFeatures, .inl (cA.1 0, 3, .inl nw0_11))] H → va_D A [(h, .inr (2, [.int x_15, .ref h_featureNames, .ref h_steps, .ref h_turnedFeatures, .ref h_sixteenths, .int h_keys, .ref h_keySteps, .int h_lent, .int h_rings, .ref h_on, .ref h_onMany, .int h_doors, .ref h_wanted, .ref h_openers, .ref h_seconds, .int h_turned, .int h_roundMany, .ref h_roundDoors])), (h_sixteenths, .inl (cA.1 0, 48, .inl g_203)), (h_featureNames, .inl (cA.1 1, 3, .inr (.inl nw0_1))), (h_steps, .inl (cA.1 0, 3, .inl nw0_5)), (h_turnedFeatures, .inl (cA.1 0, 3, .inl nw0_11))] → va_S A s.heap H locs → lv_has ls 7 [(0, .ref h), (1, .long x), (3, .int y), (4, .int k), (5, .int v_102), (6, .int v_202)] → W p l e ({ frames := 2, cells := 0, slots := 0, locals := 46 }) s m args below meth c H locs 0 0 Q (F0 m 67 ls []) := by
            intro n_L67a
            induction n_L67a with
            | zero =>
              intro v_202 g_203 H locs ls hmu_hlp_218 hi_219 hF_L67a hP hD hS hl
              exact absurd hmu_hlp_218 (Nat.not_lt_zero _)
            | succ n_L67a ih_220 =>
              intro v_202 g_203 H locs ls hmu_hlp_218 hi_219 hF_L67a hP hD hS hl
              refine lv_iload hx hb dX2_addFeature_67 (lv_at hl 5 rfl) ?_
              refine lv_iconst (v := 4) hx hb dX2_addFeature_69 (by decide) ?_
              refine lv_icmp_ge (tgt := 106) hx hb dX2_addFeature_70 (by decide) (fun c_221 => ?_) (fun c_221 => ?_)
              · have b_222 := z_b1 c_221 (K := 4) (by decide +kernel)
                refine lv_iinc (v := (v_102 + 1)) (lv' := [(5, .int (v_102 + 1)), (0, .ref h), (1, .long x), (3, .int y), (4, .int k), (6, .int v_202)]) hx hb dX2_addFeature_106 hl (k := 4) rfl (z_ofi (by decide +kernel)) (by decide) rfl (fun ls hl => ?_)
                refine lv_goto (tgt := 58) hx hb dX2_addFeature_109 (by decide) ?_
                have hX_223 : F_H_addFeature h_features c_h_featureNames c_h_steps c_h_turnedFeatures c_h_sixteenths x y k = F_H_addFeature_L58a nw0_1 nw0_5 nw0_11 x_15 n_L58a (v_102 + 1) g_203 := by
                  refine hF_L67a.trans ?_
                  refine (F_H_addFeature_L67a_s ..).trans ?_
                  refine (if_pos c_221).trans ?_
                  exact rfl
                exact ih_170 (v_102 + 1) g_203 H locs ls (z_up hmu_hlp_168 (by omega) trivial) (z_upc hi_169 (by omega) trivial) hX_223 hP hD hS (lv_sub hl [1, 2, 3, 4, 0] rfl)
              · have b_224 := z_b2 c_221 (K := 4) (by decide +kernel)
                refine lv_aload_n hx hb dX2_addFeature_73 rfl (lv_at hl 0 rfl) ?_
                refine lv_aload_n hx hb dX2_addFeature_74 rfl (lv_at hl 0 rfl) ?_
                refine va_get (D := G) (ci := 2) (v := .int x_15) (C := RX2) (T := TX2) (N := 18) hx hb hts inT2 hown hK hP 0 rfl rfl 0 (by decide) (hts _ tw_265) (fun _ h9 => h9) rfl dX2_addFeature_75 ?_
                refine lv_iconst (v := 1) hx hb dX2_addFeature_78 (by decide) ?_
                refine lv_isub hx hb dX2_addFeature_79 ?_
                refine lv_iload hx hb dX2_addFeature_80 (lv_at hl 4 rfl) ?_
                refine lv_iload hx hb dX2_addFeature_82 (lv_at hl 5 rfl) ?_
                refine lv_iload hx hb dX2_addFeature_84 (lv_at hl 4 rfl) ?_
                refine lv_iload hx hb dX2_addFeature_86 (lv_at hl 5 rfl) ?_
                refine lv_icmp_ne (tgt := 96) hx hb dX2_addFeature_88 (by decide) (fun c_225 => ?_) (fun c_225 => ?_)
                · skip
                  refine lv_iconst (v := 0) hx hb dX2_addFeature_96 (by decide) ?_
                  refine z_callVv (As := [.int (x_15 - 1), .int v_102, .int v_202, .int 0]) (rest := []) (wr := [(h_featureNames, .inl (cA.1 1, 3, .inr (.inl nw0_1))), (h_steps, .inl (cA.1 0, 3, .inl nw0_5)), (h_turnedFeatures, .inl (cA.1 0, 3, .inl nw0_11))]) ⟨hx, hb, hml, hown, hts⟩ hK hE hT hP hD hS hA (d_H_setFeltAs l G cA h x_15 h_featureNames h_steps h_turnedFeatures h_sixteenths h_keys h_keySteps h_lent h_rings h_on h_onMany h_doors h_wanted h_openers h_seconds h_turned h_roundMany h_roundDoors g_203 (x_15 - 1) v_102 v_202 0 (by omega)) lk_RX2_141 ⟨rfl, rfl⟩ ⟨Nat.le_of_ble_eq_true rfl, Nat.le_of_ble_eq_true rfl⟩ 2 rfl rfl rfl [0, 1] [2, 3, 4] rfl rfl (by decide) rfl hl.1 rfl (lv_room (Nat.le_of_ble_eq_true rfl)) dX2_addFeature_97 ⟨Nat.le_of_ble_eq_true rfl, Nat.le_of_ble_eq_true rfl⟩ (fun u_229 H locs hw hP hD hS => ?_)
                  obtain ⟨nw0_227, rfl⟩ : ∃ z, z = u_229 := ⟨_, rfl⟩
                  have hP : va_P G vwCl [(h_featureNames, .inl (cA.1 1, 3, .inr (.inl nw0_1))), (h_steps, .inl (cA.1 0, 3, .inl nw0_5)), (h_turnedFeatures, .inl (cA.1 0, 3, .inl nw0_11)), (h, .inr (2, [.int x_15, .ref h_featureNames, .ref h_steps, .ref h_turnedFeatures, .ref h_sixteenths, .int h_keys, .ref h_keySteps, .int h_lent, .int h_rings, .ref h_on, .ref h_onMany, .int h_doors, .ref h_wanted, .ref h_openers, .ref h_seconds, .int h_turned, .int h_roundMany, .ref h_roundDoors])), (h_sixteenths, .inl (cA.1 0, 48, .inl nw0_227))] H := hP
                  have hD : va_D A [(h_featureNames, .inl (cA.1 1, 3, .inr (.inl nw0_1))), (h_steps, .inl (cA.1 0, 3, .inl nw0_5)), (h_turnedFeatures, .inl (cA.1 0, 3, .inl nw0_11)), (h, .inr (2, [.int x_15, .ref h_featureNames, .ref h_steps, .ref h_turnedFeatures, .ref h_sixteenths, .int h_keys, .ref h_keySteps, .int h_lent, .int h_rings, .ref h_on, .ref h_onMany, .int h_doors, .ref h_wanted, .ref h_openers, .ref h_seconds, .int h_turned, .int h_roundMany, .ref h_roundDoors])), (h_sixteenths, .inl (cA.1 0, 48, .inl nw0_227))] := hD
                  obtain ⟨he_nw0_227, hw⟩ := hw
                  refine lv_iinc (v := (v_202 + 1)) (lv' := [(6, .int (v_202 + 1)), (0, .ref h), (1, .long x), (3, .int y), (4, .int k), (5, .int v_102)]) hx hb dX2_addFeature_100 hl (k := 5) rfl (z_ofi (by decide +kernel)) (by decide) rfl (fun ls hl => ?_)
                  refine lv_goto (tgt := 67) hx hb dX2_addFeature_103 (by decide) ?_
                  have hX_231 : F_H_addFeature h_features c_h_featureNames c_h_steps c_h_turnedFeatures c_h_sixteenths x y k = F_H_addFeature_L67a x_15 v_102 (F_H_addFeature_L58a nw0_1 nw0_5 nw0_11 x_15 n_L58a) n_L67a (v_202 + 1) nw0_227 := by
                    refine hF_L67a.trans ?_
                    refine (F_H_addFeature_L67a_s ..).trans ?_
                    refine (if_neg c_221).trans ?_
                    refine (if_neg c_225).trans ?_
                    extract_lets -merge -useContext +onlyGivenNames w9 y9; have e9 : nw0_227 = w9 := he_nw0_227; clear_value w9; subst e9
                    exact rfl
                  have hP := hP.sub (ws' := [(h, .inr (2, [.int x_15, .ref h_featureNames, .ref h_steps, .ref h_turnedFeatures, .ref h_sixteenths, .int h_keys, .ref h_keySteps, .int h_lent, .int h_rings, .ref h_on, .ref h_onMany, .int h_doors, .ref h_wanted, .ref h_openers, .ref h_seconds, .int h_turned, .int h_roundMany, .ref h_roundDoors])), (h_sixteenths, .inl (cA.1 0, 48, .inl nw0_227)), (h_featureNames, .inl (cA.1 1, 3, .inr (.inl nw0_1))), (h_steps, .inl (cA.1 0, 3, .inl nw0_5)), (h_turnedFeatures, .inl (cA.1 0, 3, .inl nw0_11))]) [3, 4, 0, 1, 2] rfl
                  have hD := hD.sub (ws' := [(h, .inr (2, [.int x_15, .ref h_featureNames, .ref h_steps, .ref h_turnedFeatures, .ref h_sixteenths, .int h_keys, .ref h_keySteps, .int h_lent, .int h_rings, .ref h_on, .ref h_onMany, .int h_doors, .ref h_wanted, .ref h_openers, .ref h_seconds, .int h_turned, .int h_roundMany, .ref h_roundDoors])), (h_sixteenths, .inl (cA.1 0, 48, .inl nw0_227)), (h_featureNames, .inl (cA.1 1, 3, .inr (.inl nw0_1))), (h_steps, .inl (cA.1 0, 3, .inl nw0_5)), (h_turnedFeatures, .inl (cA.1 0, 3, .inl nw0_11))]) [3, 4, 0, 1, 2] (by decide) rfl
                  exact ih_220 (v_202 + 1) nw0_227 H locs ls (z_up hmu_hlp_218 (by omega) trivial) (z_upc hi_219 (by omega) trivial) hX_231 hP hD hS (lv_sub hl [1, 2, 3, 4, 5, 0] rfl)
                · skip
                  refine lv_bipush (v := 16) hx hb dX2_addFeature_91 (by decide) ?_
                  refine lv_goto (tgt := 97) hx hb dX2_addFeature_93 (by decide) ?_
                  refine z_callVv (As := [.int (x_15 - 1), .int v_102, .int v_202, .int 16]) (rest := []) (wr := [(h_featureNames, .inl (cA.1 1, 3, .inr (.inl nw0_1))), (h_steps, .inl (cA.1 0, 3, .inl nw0_5)), (h_turnedFeatures, .inl (cA.1 0, 3, .inl nw0_11))]) ⟨hx, hb, hml, hown, hts⟩ hK hE hT hP hD hS hA (d_H_setFeltAs l G cA h x_15 h_featureNames h_steps h_turnedFeatures h_sixteenths h_keys h_keySteps h_lent h_rings h_on h_onMany h_doors h_wanted h_openers h_seconds h_turned h_roundMany h_roundDoors g_203 (x_15 - 1) v_102 v_202 16 (by omega)) lk_RX2_141 ⟨rfl, rfl⟩ ⟨Nat.le_of_ble_eq_true rfl, Nat.le_of_ble_eq_true rfl⟩ 2 rfl rfl rfl [0, 1] [2, 3, 4] rfl rfl (by decide) rfl hl.1 rfl (lv_room (Nat.le_of_ble_eq_true rfl)) dX2_addFeature_97 ⟨Nat.le_of_ble_eq_true rfl, Nat.le_of_ble_eq_true rfl⟩ (fun u_235 H locs hw hP hD hS => ?_)
                  obtain ⟨nw0_233, rfl⟩ : ∃ z, z = u_235 := ⟨_, rfl⟩
                  have hP : va_P G vwCl [(h_featureNames, .inl (cA.1 1, 3, .inr (.inl nw0_1))), (h_steps, .inl (cA.1 0, 3, .inl nw0_5)), (h_turnedFeatures, .inl (cA.1 0, 3, .inl nw0_11)), (h, .inr (2, [.int x_15, .ref h_featureNames, .ref h_steps, .ref h_turnedFeatures, .ref h_sixteenths, .int h_keys, .ref h_keySteps, .int h_lent, .int h_rings, .ref h_on, .ref h_onMany, .int h_doors, .ref h_wanted, .ref h_openers, .ref h_seconds, .int h_turned, .int h_roundMany, .ref h_roundDoors])), (h_sixteenths, .inl (cA.1 0, 48, .inl nw0_233))] H := hP
                  have hD : va_D A [(h_featureNames, .inl (cA.1 1, 3, .inr (.inl nw0_1))), (h_steps, .inl (cA.1 0, 3, .inl nw0_5)), (h_turnedFeatures, .inl (cA.1 0, 3, .inl nw0_11)), (h, .inr (2, [.int x_15, .ref h_featureNames, .ref h_steps, .ref h_turnedFeatures, .ref h_sixteenths, .int h_keys, .ref h_keySteps, .int h_lent, .int h_rings, .ref h_on, .ref h_onMany, .int h_doors, .ref h_wanted, .ref h_openers, .ref h_seconds, .int h_turned, .int h_roundMany, .ref h_roundDoors])), (h_sixteenths, .inl (cA.1 0, 48, .inl nw0_233))] := hD
                  obtain ⟨he_nw0_233, hw⟩ := hw
                  refine lv_iinc (v := (v_202 + 1)) (lv' := [(6, .int (v_202 + 1)), (0, .ref h), (1, .long x), (3, .int y), (4, .int k), (5, .int v_102)]) hx hb dX2_addFeature_100 hl (k := 5) rfl (z_ofi (by decide +kernel)) (by decide) rfl (fun ls hl => ?_)
                  refine lv_goto (tgt := 67) hx hb dX2_addFeature_103 (by decide) ?_
                  have hX_237 : F_H_addFeature h_features c_h_featureNames c_h_steps c_h_turnedFeatures c_h_sixteenths x y k = F_H_addFeature_L67a x_15 v_102 (F_H_addFeature_L58a nw0_1 nw0_5 nw0_11 x_15 n_L58a) n_L67a (v_202 + 1) nw0_233 := by
                    refine hF_L67a.trans ?_
                    refine (F_H_addFeature_L67a_s ..).trans ?_
                    refine (if_neg c_221).trans ?_
                    refine (if_pos c_225).trans ?_
                    extract_lets -merge -useContext +onlyGivenNames w9 y9; have e9 : nw0_233 = w9 := he_nw0_233; clear_value w9; subst e9
                    exact rfl
                  have hP := hP.sub (ws' := [(h, .inr (2, [.int x_15, .ref h_featureNames, .ref h_steps, .ref h_turnedFeatures, .ref h_sixteenths, .int h_keys, .ref h_keySteps, .int h_lent, .int h_rings, .ref h_on, .ref h_onMany, .int h_doors, .ref h_wanted, .ref h_openers, .ref h_seconds, .int h_turned, .int h_roundMany, .ref h_roundDoors])), (h_sixteenths, .inl (cA.1 0, 48, .inl nw0_233)), (h_featureNames, .inl (cA.1 1, 3, .inr (.inl nw0_1))), (h_steps, .inl (cA.1 0, 3, .inl nw0_5)), (h_turnedFeatures, .inl (cA.1 0, 3, .inl nw0_11))]) [3, 4, 0, 1, 2] rfl
                  have hD := hD.sub (ws' := [(h, .inr (2, [.int x_15, .ref h_featureNames, .ref h_steps, .ref h_turnedFeatures, .ref h_sixteenths, .int h_keys, .ref h_keySteps, .int h_lent, .int h_rings, .ref h_on, .ref h_onMany, .int h_doors, .ref h_wanted, .ref h_openers, .ref h_seconds, .int h_turned, .int h_roundMany, .ref h_roundDoors])), (h_sixteenths, .inl (cA.1 0, 48, .inl nw0_233)), (h_featureNames, .inl (cA.1 1, 3, .inr (.inl nw0_1))), (h_steps, .inl (cA.1 0, 3, .inl nw0_5)), (h_turnedFeatures, .inl (cA.1 0, 3, .inl nw0_11))]) [3, 4, 0, 1, 2] (by decide) rfl
                  exact ih_220 (v_202 + 1) nw0_233 H locs ls (z_up hmu_hlp_218 (by omega) trivial) (z_upc hi_219 (by omega) trivial) hX_237 hP hD hS (lv_sub hl [1, 2, 3, 4, 5, 0] rfl)
          have hX_238 : F_H_addFeature h_features c_h_featureNames c_h_steps c_h_turnedFeatures c_h_sixteenths x y k = F_H_addFeature_L67a x_15 v_102 (F_H_addFeature_L58a nw0_1 nw0_5 nw0_11 x_15 n_L58a) ((2147483647 - (0 : Int32).toInt).toNat + 1) (0 : Int32) g_103 := by
            refine hF_L58a.trans ?_
            refine (F_H_addFeature_L58a_s ..).trans ?_
            refine (if_neg c_171).trans ?_
            exact rfl
          exact hlp_218 ((2147483647 - (0 : Int32).toInt).toNat + 1) 0 g_103 _ _ _ (Nat.lt_succ_self _) (by first | decide +kernel | omega) hX_238 hP hD hS (lv_sub hl [1, 2, 3, 4, 5, 0] rfl)
    have hX_239 : F_H_addFeature h_features c_h_featureNames c_h_steps c_h_turnedFeatures c_h_sixteenths x y k = F_H_addFeature_L58a nw0_1 nw0_5 nw0_11 x_15 ((2147483647 - (0 : Int32).toInt).toNat + 1) (0 : Int32) c_h_sixteenths := by
      refine (F_H_addFeature_s ..).trans ?_
      extract_lets -merge -useContext +onlyGivenNames w9 y9; have e9 : nw0_1 = w9 := he_nw0_1; clear_value w9; subst e9
      extract_lets -merge -useContext +onlyGivenNames w9 y9; have e9 : nw0_5 = w9 := he_nw0_5; clear_value w9; subst e9
      refine (if_pos c_9).trans ?_
      extract_lets -merge -useContext +onlyGivenNames w9 y9; have e9 : nw0_11 = w9 := he_nw0_11; clear_value w9; subst e9
      try (extract_lets -merge -useContext +onlyGivenNames y9; have e9 : x_15 = y9 := (by first | exact he_x_15 | exact he_x_15.symm); clear_value y9; subst e9)
      exact rfl
    exact hlp_168 ((2147483647 - (0 : Int32).toInt).toNat + 1) 0 c_h_sixteenths _ _ _ (Nat.lt_succ_self _) (by first | decide +kernel | omega) hX_239 hP hD hS (lv_sub hl [1, 2, 3, 4, 0] rfl)
  · skip
    refine lv_iconst (v := 1) hx hb dX2_addFeature_37 (by decide) ?_
    refine lv_goto (tgt := 42) hx hb dX2_addFeature_38 (by decide) ?_
    refine z_callSNv (As := [.ref h_turnedFeatures, .int h_features, .int 1]) (rest := []) (wr := [(h, .inr (2, [.int h_features, .ref h_featureNames, .ref h_steps, .ref h_turnedFeatures, .ref h_sixteenths, .int h_keys, .ref h_keySteps, .int h_lent, .int h_rings, .ref h_on, .ref h_onMany, .int h_doors, .ref h_wanted, .ref h_openers, .ref h_seconds, .int h_turned, .int h_roundMany, .ref h_roundDoors])), (h_sixteenths, .inl (cA.1 0, 48, .inl c_h_sixteenths)), (h_featureNames, .inl (cA.1 1, 3, .inr (.inl nw0_1))), (h_steps, .inl (cA.1 0, 3, .inl nw0_5))]) ⟨hx, hb, hml, hown, hts⟩ hK hE hT hP hD hS hA (d_keepAt_3 l G cA h_turnedFeatures c_h_turnedFeatures h_features 1) lk_RX2_126 ⟨rfl, rfl⟩ ⟨Nat.le_of_ble_eq_true rfl, Nat.le_of_ble_eq_true rfl⟩ [1] [0, 2, 3, 4] rfl rfl (by decide) rfl hl.1 rfl (lv_room (Nat.le_of_ble_eq_true rfl)) dX2_addFeature_42 ⟨Nat.le_of_ble_eq_true rfl, Nat.le_of_ble_eq_true rfl⟩ (fun u_243 H locs hw hP hD hS => ?_)
    obtain ⟨nw0_241, rfl⟩ : ∃ z, z = u_243 := ⟨_, rfl⟩
    have hP : va_P G vwCl [(h, .inr (2, [.int h_features, .ref h_featureNames, .ref h_steps, .ref h_turnedFeatures, .ref h_sixteenths, .int h_keys, .ref h_keySteps, .int h_lent, .int h_rings, .ref h_on, .ref h_onMany, .int h_doors, .ref h_wanted, .ref h_openers, .ref h_seconds, .int h_turned, .int h_roundMany, .ref h_roundDoors])), (h_sixteenths, .inl (cA.1 0, 48, .inl c_h_sixteenths)), (h_featureNames, .inl (cA.1 1, 3, .inr (.inl nw0_1))), (h_steps, .inl (cA.1 0, 3, .inl nw0_5)), (h_turnedFeatures, .inl (cA.1 0, 3, .inl nw0_241))] H := hP
    have hD : va_D A [(h, .inr (2, [.int h_features, .ref h_featureNames, .ref h_steps, .ref h_turnedFeatures, .ref h_sixteenths, .int h_keys, .ref h_keySteps, .int h_lent, .int h_rings, .ref h_on, .ref h_onMany, .int h_doors, .ref h_wanted, .ref h_openers, .ref h_seconds, .int h_turned, .int h_roundMany, .ref h_roundDoors])), (h_sixteenths, .inl (cA.1 0, 48, .inl c_h_sixteenths)), (h_featureNames, .inl (cA.1 1, 3, .inr (.inl nw0_1))), (h_steps, .inl (cA.1 0, 3, .inl nw0_5)), (h_turnedFeatures, .inl (cA.1 0, 3, .inl nw0_241))] := hD
    obtain ⟨he_nw0_241, hw⟩ := hw
    have hx_nw0_241 := hw
    refine lv_aload_n hx hb dX2_addFeature_45 rfl (lv_at hl 0 rfl) ?_
    refine lv_dup hx hb dX2_addFeature_46 rfl ?_
    refine va_get (D := G) (ci := 2) (v := .int h_features) (C := RX2) (T := TX2) (N := 18) hx hb hts inT2 hown hK hP 0 rfl rfl 0 (by decide) (hts _ tw_265) (fun _ h9 => h9) rfl dX2_addFeature_47 ?_
    refine lv_iconst (v := 1) hx hb dX2_addFeature_50 (by decide) ?_
    refine lv_iadd hx hb dX2_addFeature_51 ?_
    refine lv_topi (fun x_245 he_x_245 => ?_)
    have hq_x_245 : x_245.toInt = h_features.toInt + 1 := by rw [he_x_245]; exact z_addI (K := 1) (by decide +kernel) (by omega) (by omega)
    refine va_put (D := G) (ci := 2) (v := .int x_245) (ty := .int) (C := RX2) (T := TX2) (N := 18) hx hb hts inT2 tyX2 tyX2_ok nmX2 hown hK hP hD hS 0 rfl rfl 0 (by decide) (hts _ tw_265) (fun _ h9 => h9) rfl (tyX2_ok 0 (by decide)) rfl rfl (Nat.le_of_ble_eq_true rfl) dX2_addFeature_52 (fun H locs hP hD hS => ?_)
    have hP : va_P G vwCl [(h, .inr (2, [.int x_245, .ref h_featureNames, .ref h_steps, .ref h_turnedFeatures, .ref h_sixteenths, .int h_keys, .ref h_keySteps, .int h_lent, .int h_rings, .ref h_on, .ref h_onMany, .int h_doors, .ref h_wanted, .ref h_openers, .ref h_seconds, .int h_turned, .int h_roundMany, .ref h_roundDoors])), (h_sixteenths, .inl (cA.1 0, 48, .inl c_h_sixteenths)), (h_featureNames, .inl (cA.1 1, 3, .inr (.inl nw0_1))), (h_steps, .inl (cA.1 0, 3, .inl nw0_5)), (h_turnedFeatures, .inl (cA.1 0, 3, .inl nw0_241))] H := hP
    have hD : va_D A [(h, .inr (2, [.int x_245, .ref h_featureNames, .ref h_steps, .ref h_turnedFeatures, .ref h_sixteenths, .int h_keys, .ref h_keySteps, .int h_lent, .int h_rings, .ref h_on, .ref h_onMany, .int h_doors, .ref h_wanted, .ref h_openers, .ref h_seconds, .int h_turned, .int h_roundMany, .ref h_roundDoors])), (h_sixteenths, .inl (cA.1 0, 48, .inl c_h_sixteenths)), (h_featureNames, .inl (cA.1 1, 3, .inr (.inl nw0_1))), (h_steps, .inl (cA.1 0, 3, .inl nw0_5)), (h_turnedFeatures, .inl (cA.1 0, 3, .inl nw0_241))] := hD
    refine lv_iconst (v := 0) hx hb dX2_addFeature_55 (by decide) ?_
    refine lv_istore (lv' := [(5, .int 0), (0, .ref h), (1, .long x), (3, .int y), (4, .int k)]) hx hb dX2_addFeature_56 hl (by decide) rfl (fun ls hl => ?_)
    have hlp_398 : ∀ (n_L58b : Nat) (v_332 : Int32) (g_333 : Nat → Int32) (H : Heap) (locs : List Loc) (ls : Array Slot), (2147483647 - v_332.toInt).toNat < n_L58b → (0 ≤ v_332.toInt) → (F_H_addFeature h_features c_h_featureNames c_h_steps c_h_turnedFeatures c_h_sixteenths x y k = F_H_addFeature_L58b nw0_1 nw0_5 nw0_241 x_245 n_L58b v_332 g_333) → va_P G vwCl [(h, .inr (2, [.int x_245, .ref h_featureNames, .ref h_steps, .ref h_turnedFeatures, .ref h_sixteenths, .int h_keys, .ref h_keySteps, .int h_lent, .int h_rings, .ref h_on, .ref h_onMany, .int h_doors, .ref h_wanted, .ref h_openers, .ref h_seconds, .int h_turned, .int h_roundMany, .ref h_roundDoors])), (h_sixteenths, .inl (cA.1 0, 48, .inl g_333)), (h_featureNames, .inl (cA.1 1, 3, .inr (.inl nw0_1))), (h_steps, .inl (cA.1 0, 3, .inl nw0_5)), (h_turnedFeatures, .inl (cA.1 0, 3, .inl nw0_241))] H → va_D A [(h, .inr (2, [.int x_245, .ref h_featureNames, .ref h_steps, .ref h_turnedFeatures, .ref h_sixteenths, .int h_keys, .ref h_keySteps, .int h_lent, .int h_rings, .ref h_on, .ref h_onMany, .int h_doors, .ref h_wanted, .ref h_openers, .ref h_seconds, .int h_turned, .int h_roundMany, .ref h_roundDoors])), (h_sixteenths, .inl (cA.1 0, 48, .inl g_333)), (h_featureNames, .inl (cA.1 1, 3, .inr (.inl nw0_1))), (h_steps, .inl (cA.1 0, 3, .inl nw0_5)), (h_turnedFeatures, .inl (cA.1 0, 3, .inl nw0_241))] → va_S A s.heap H locs → lv_has ls 7 [(0, .ref h), (1, .long x), (3, .int y), (4, .int k), (5, .int v_332)] → W p l e ({ frames := 2, cells := 0, slots := 0, locals := 46 }) s m args below meth c H locs 0 0 Q (F0 m 58 ls []) := by
      intro n_L58b
      induction n_L58b with
      | zero =>
        intro v_332 g_333 H locs ls hmu_hlp_398 hi_399 hF_L58b hP hD hS hl
        exact absurd hmu_hlp_398 (Nat.not_lt_zero _)
      | succ n_L58b ih_400 =>
        intro v_332 g_333 H locs ls hmu_hlp_398 hi_399 hF_L58b hP hD hS hl
        refine lv_iload hx hb dX2_addFeature_58 (lv_at hl 4 rfl) ?_
        refine lv_iconst (v := 4) hx hb dX2_addFeature_60 (by decide) ?_
        refine lv_icmp_ge (tgt := 112) hx hb dX2_addFeature_61 (by decide) (fun c_401 => ?_) (fun c_401 => ?_)
        · have b_402 := z_b1 c_401 (K := 4) (by decide +kernel)
          have hX_403 : F_H_addFeature h_features c_h_featureNames c_h_steps c_h_turnedFeatures c_h_sixteenths x y k = ((x_245, nw0_1, nw0_5, nw0_241, g_333) : Int32 × (Nat → Int64) × (Nat → Int32) × (Nat → Int32) × (Nat → Int32)) := by
            refine hF_L58b.trans ?_
            refine (F_H_addFeature_L58b_s ..).trans ?_
            refine (if_pos c_401).trans ?_
            exact rfl
          exact hret _ _ _ _ _ (x_245, nw0_1, nw0_5, nw0_241, g_333) [0, 2, 3, 4, 1] hP hD hS rfl (by decide) dX2_addFeature_112 ⟨(congrArg (fun z9 => z9.1) hX_403).symm, (congrArg (fun z9 => z9.2.1) hX_403).symm, (congrArg (fun z9 => z9.2.2.1) hX_403).symm, (congrArg (fun z9 => z9.2.2.2.1) hX_403).symm, (congrArg (fun z9 => z9.2.2.2.2) hX_403).symm, (by show 0 ≤ x_245.toInt ∧ x_245.toInt ≤ 3; omega)⟩
        · have b_404 := z_b2 c_401 (K := 4) (by decide +kernel)
          refine lv_iconst (v := 0) hx hb dX2_addFeature_64 (by decide) ?_
          refine lv_istore (lv' := [(6, .int 0), (0, .ref h), (1, .long x), (3, .int y), (4, .int k), (5, .int v_332)]) hx hb dX2_addFeature_65 hl (by decide) rfl (fun ls hl => ?_)
          have hlp_448 : ∀ (n_L67b : Nat) (v_432 : Int32) (g_433 : Nat → Int32) (H : Heap) (locs : List Loc) (ls : Array Slot), (2147483647 - v_432.toInt).toNat < n_L67b → (0 ≤ v_432.toInt) → (F_H_addFeature h_features c_h_featureNames c_h_steps c_h_turnedFeatures c_h_sixteenths x y k = F_H_addFeature_L67b x_245 v_332 (F_H_addFeature_L58b nw0_1 nw0_5 nw0_241 x_245 n_L58b) n_L67b v_432 g_433) → va_P G vwCl [(h, .inr (2, [.int x_245, .ref h_featureNames, .ref h_steps, .ref h_turnedFeatures, .ref h_sixteenths, .int h_keys, .ref h_keySteps, .int h_lent, .int h_rings, .ref h_on, .ref h_onMany, .int h_doors, .ref h_wanted, .ref h_openers, .ref h_seconds, .int h_turned, .int h_roundMany, .ref h_roundDoors])), (h_sixteenths, .inl (cA.1 0, 48, .inl g_433)), (h_featureNames, .inl (cA.1 1, 3, .inr (.inl nw0_1))), (h_steps, .inl (cA.1 0, 3, .inl nw0_5)), (h_turnedFeatures, .inl (cA.1 0, 3, .inl nw0_241))] H → va_D A [(h, .inr (2, [.int x_245, .ref h_featureNames, .ref h_steps, .ref h_turnedFeatures, .ref h_sixteenths, .int h_keys, .ref h_keySteps, .int h_lent, .int h_rings, .ref h_on, .ref h_onMany, .int h_doors, .ref h_wanted, .ref h_openers, .ref h_seconds, .int h_turned, .int h_roundMany, .ref h_roundDoors])), (h_sixteenths, .inl (cA.1 0, 48, .inl g_433)), (h_featureNames, .inl (cA.1 1, 3, .inr (.inl nw0_1))), (h_steps, .inl (cA.1 0, 3, .inl nw0_5)), (h_turnedFeatures, .inl (cA.1 0, 3, .inl nw0_241))] → va_S A s.heap H locs → lv_has ls 7 [(0, .ref h), (1, .long x), (3, .int y), (4, .int k), (5, .int v_332), (6, .int v_432)] → W p l e ({ frames := 2, cells := 0, slots := 0, locals := 46 }) s m args below meth c H locs 0 0 Q (F0 m 67 ls []) := by
            intro n_L67b
            induction n_L67b with
            | zero =>
              intro v_432 g_433 H locs ls hmu_hlp_448 hi_449 hF_L67b hP hD hS hl
              exact absurd hmu_hlp_448 (Nat.not_lt_zero _)
            | succ n_L67b ih_450 =>
              intro v_432 g_433 H locs ls hmu_hlp_448 hi_449 hF_L67b hP hD hS hl
              refine lv_iload hx hb dX2_addFeature_67 (lv_at hl 5 rfl) ?_
              refine lv_iconst (v := 4) hx hb dX2_addFeature_69 (by decide) ?_
              refine lv_icmp_ge (tgt := 106) hx hb dX2_addFeature_70 (by decide) (fun c_451 => ?_) (fun c_451 => ?_)
              · have b_452 := z_b1 c_451 (K := 4) (by decide +kernel)
                refine lv_iinc (v := (v_332 + 1)) (lv' := [(5, .int (v_332 + 1)), (0, .ref h), (1, .long x), (3, .int y), (4, .int k), (6, .int v_432)]) hx hb dX2_addFeature_106 hl (k := 4) rfl (z_ofi (by decide +kernel)) (by decide) rfl (fun ls hl => ?_)
                refine lv_goto (tgt := 58) hx hb dX2_addFeature_109 (by decide) ?_
                have hX_453 : F_H_addFeature h_features c_h_featureNames c_h_steps c_h_turnedFeatures c_h_sixteenths x y k = F_H_addFeature_L58b nw0_1 nw0_5 nw0_241 x_245 n_L58b (v_332 + 1) g_433 := by
                  refine hF_L67b.trans ?_
                  refine (F_H_addFeature_L67b_s ..).trans ?_
                  refine (if_pos c_451).trans ?_
                  exact rfl
                exact ih_400 (v_332 + 1) g_433 H locs ls (z_up hmu_hlp_398 (by omega) trivial) (z_upc hi_399 (by omega) trivial) hX_453 hP hD hS (lv_sub hl [1, 2, 3, 4, 0] rfl)
              · have b_454 := z_b2 c_451 (K := 4) (by decide +kernel)
                refine lv_aload_n hx hb dX2_addFeature_73 rfl (lv_at hl 0 rfl) ?_
                refine lv_aload_n hx hb dX2_addFeature_74 rfl (lv_at hl 0 rfl) ?_
                refine va_get (D := G) (ci := 2) (v := .int x_245) (C := RX2) (T := TX2) (N := 18) hx hb hts inT2 hown hK hP 0 rfl rfl 0 (by decide) (hts _ tw_265) (fun _ h9 => h9) rfl dX2_addFeature_75 ?_
                refine lv_iconst (v := 1) hx hb dX2_addFeature_78 (by decide) ?_
                refine lv_isub hx hb dX2_addFeature_79 ?_
                refine lv_iload hx hb dX2_addFeature_80 (lv_at hl 4 rfl) ?_
                refine lv_iload hx hb dX2_addFeature_82 (lv_at hl 5 rfl) ?_
                refine lv_iload hx hb dX2_addFeature_84 (lv_at hl 4 rfl) ?_
                refine lv_iload hx hb dX2_addFeature_86 (lv_at hl 5 rfl) ?_
                refine lv_icmp_ne (tgt := 96) hx hb dX2_addFeature_88 (by decide) (fun c_455 => ?_) (fun c_455 => ?_)
                · skip
                  refine lv_iconst (v := 0) hx hb dX2_addFeature_96 (by decide) ?_
                  refine z_callVv (As := [.int (x_245 - 1), .int v_332, .int v_432, .int 0]) (rest := []) (wr := [(h_featureNames, .inl (cA.1 1, 3, .inr (.inl nw0_1))), (h_steps, .inl (cA.1 0, 3, .inl nw0_5)), (h_turnedFeatures, .inl (cA.1 0, 3, .inl nw0_241))]) ⟨hx, hb, hml, hown, hts⟩ hK hE hT hP hD hS hA (d_H_setFeltAs l G cA h x_245 h_featureNames h_steps h_turnedFeatures h_sixteenths h_keys h_keySteps h_lent h_rings h_on h_onMany h_doors h_wanted h_openers h_seconds h_turned h_roundMany h_roundDoors g_433 (x_245 - 1) v_332 v_432 0 (by omega)) lk_RX2_141 ⟨rfl, rfl⟩ ⟨Nat.le_of_ble_eq_true rfl, Nat.le_of_ble_eq_true rfl⟩ 2 rfl rfl rfl [0, 1] [2, 3, 4] rfl rfl (by decide) rfl hl.1 rfl (lv_room (Nat.le_of_ble_eq_true rfl)) dX2_addFeature_97 ⟨Nat.le_of_ble_eq_true rfl, Nat.le_of_ble_eq_true rfl⟩ (fun u_459 H locs hw hP hD hS => ?_)
                  obtain ⟨nw0_457, rfl⟩ : ∃ z, z = u_459 := ⟨_, rfl⟩
                  have hP : va_P G vwCl [(h_featureNames, .inl (cA.1 1, 3, .inr (.inl nw0_1))), (h_steps, .inl (cA.1 0, 3, .inl nw0_5)), (h_turnedFeatures, .inl (cA.1 0, 3, .inl nw0_241)), (h, .inr (2, [.int x_245, .ref h_featureNames, .ref h_steps, .ref h_turnedFeatures, .ref h_sixteenths, .int h_keys, .ref h_keySteps, .int h_lent, .int h_rings, .ref h_on, .ref h_onMany, .int h_doors, .ref h_wanted, .ref h_openers, .ref h_seconds, .int h_turned, .int h_roundMany, .ref h_roundDoors])), (h_sixteenths, .inl (cA.1 0, 48, .inl nw0_457))] H := hP
                  have hD : va_D A [(h_featureNames, .inl (cA.1 1, 3, .inr (.inl nw0_1))), (h_steps, .inl (cA.1 0, 3, .inl nw0_5)), (h_turnedFeatures, .inl (cA.1 0, 3, .inl nw0_241)), (h, .inr (2, [.int x_245, .ref h_featureNames, .ref h_steps, .ref h_turnedFeatures, .ref h_sixteenths, .int h_keys, .ref h_keySteps, .int h_lent, .int h_rings, .ref h_on, .ref h_onMany, .int h_doors, .ref h_wanted, .ref h_openers, .ref h_seconds, .int h_turned, .int h_roundMany, .ref h_roundDoors])), (h_sixteenths, .inl (cA.1 0, 48, .inl nw0_457))] := hD
                  obtain ⟨he_nw0_457, hw⟩ := hw
                  refine lv_iinc (v := (v_432 + 1)) (lv' := [(6, .int (v_432 + 1)), (0, .ref h), (1, .long x), (3, .int y), (4, .int k), (5, .int v_332)]) hx hb dX2_addFeature_100 hl (k := 5) rfl (z_ofi (by decide +kernel)) (by decide) rfl (fun ls hl => ?_)
                  refine lv_goto (tgt := 67) hx hb dX2_addFeature_103 (by decide) ?_
                  have hX_461 : F_H_addFeature h_features c_h_featureNames c_h_steps c_h_turnedFeatures c_h_sixteenths x y k = F_H_addFeature_L67b x_245 v_332 (F_H_addFeature_L58b nw0_1 nw0_5 nw0_241 x_245 n_L58b) n_L67b (v_432 + 1) nw0_457 := by
                    refine hF_L67b.trans ?_
                    refine (F_H_addFeature_L67b_s ..).trans ?_
                    refine (if_neg c_451).trans ?_
                    refine (if_neg c_455).trans ?_
                    extract_lets -merge -useContext +onlyGivenNames w9 y9; have e9 : nw0_457 = w9 := he_nw0_457; clear_value w9; subst e9
                    exact rfl
                  have hP := hP.sub (ws' := [(h, .inr (2, [.int x_245, .ref h_featureNames, .ref h_steps, .ref h_turnedFeatures, .ref h_sixteenths, .int h_keys, .ref h_keySteps, .int h_lent, .int h_rings, .ref h_on, .ref h_onMany, .int h_doors, .ref h_wanted, .ref h_openers, .ref h_seconds, .int h_turned, .int h_roundMany, .ref h_roundDoors])), (h_sixteenths, .inl (cA.1 0, 48, .inl nw0_457)), (h_featureNames, .inl (cA.1 1, 3, .inr (.inl nw0_1))), (h_steps, .inl (cA.1 0, 3, .inl nw0_5)), (h_turnedFeatures, .inl (cA.1 0, 3, .inl nw0_241))]) [3, 4, 0, 1, 2] rfl
                  have hD := hD.sub (ws' := [(h, .inr (2, [.int x_245, .ref h_featureNames, .ref h_steps, .ref h_turnedFeatures, .ref h_sixteenths, .int h_keys, .ref h_keySteps, .int h_lent, .int h_rings, .ref h_on, .ref h_onMany, .int h_doors, .ref h_wanted, .ref h_openers, .ref h_seconds, .int h_turned, .int h_roundMany, .ref h_roundDoors])), (h_sixteenths, .inl (cA.1 0, 48, .inl nw0_457)), (h_featureNames, .inl (cA.1 1, 3, .inr (.inl nw0_1))), (h_steps, .inl (cA.1 0, 3, .inl nw0_5)), (h_turnedFeatures, .inl (cA.1 0, 3, .inl nw0_241))]) [3, 4, 0, 1, 2] (by decide) rfl
                  exact ih_450 (v_432 + 1) nw0_457 H locs ls (z_up hmu_hlp_448 (by omega) trivial) (z_upc hi_449 (by omega) trivial) hX_461 hP hD hS (lv_sub hl [1, 2, 3, 4, 5, 0] rfl)
                · skip
                  refine lv_bipush (v := 16) hx hb dX2_addFeature_91 (by decide) ?_
                  refine lv_goto (tgt := 97) hx hb dX2_addFeature_93 (by decide) ?_
                  refine z_callVv (As := [.int (x_245 - 1), .int v_332, .int v_432, .int 16]) (rest := []) (wr := [(h_featureNames, .inl (cA.1 1, 3, .inr (.inl nw0_1))), (h_steps, .inl (cA.1 0, 3, .inl nw0_5)), (h_turnedFeatures, .inl (cA.1 0, 3, .inl nw0_241))]) ⟨hx, hb, hml, hown, hts⟩ hK hE hT hP hD hS hA (d_H_setFeltAs l G cA h x_245 h_featureNames h_steps h_turnedFeatures h_sixteenths h_keys h_keySteps h_lent h_rings h_on h_onMany h_doors h_wanted h_openers h_seconds h_turned h_roundMany h_roundDoors g_433 (x_245 - 1) v_332 v_432 16 (by omega)) lk_RX2_141 ⟨rfl, rfl⟩ ⟨Nat.le_of_ble_eq_true rfl, Nat.le_of_ble_eq_true rfl⟩ 2 rfl rfl rfl [0, 1] [2, 3, 4] rfl rfl (by decide) rfl hl.1 rfl (lv_room (Nat.le_of_ble_eq_true rfl)) dX2_addFeature_97 ⟨Nat.le_of_ble_eq_true rfl, Nat.le_of_ble_eq_true rfl⟩ (fun u_465 H locs hw hP hD hS => ?_)
                  obtain ⟨nw0_463, rfl⟩ : ∃ z, z = u_465 := ⟨_, rfl⟩
                  have hP : va_P G vwCl [(h_featureNames, .inl (cA.1 1, 3, .inr (.inl nw0_1))), (h_steps, .inl (cA.1 0, 3, .inl nw0_5)), (h_turnedFeatures, .inl (cA.1 0, 3, .inl nw0_241)), (h, .inr (2, [.int x_245, .ref h_featureNames, .ref h_steps, .ref h_turnedFeatures, .ref h_sixteenths, .int h_keys, .ref h_keySteps, .int h_lent, .int h_rings, .ref h_on, .ref h_onMany, .int h_doors, .ref h_wanted, .ref h_openers, .ref h_seconds, .int h_turned, .int h_roundMany, .ref h_roundDoors])), (h_sixteenths, .inl (cA.1 0, 48, .inl nw0_463))] H := hP
                  have hD : va_D A [(h_featureNames, .inl (cA.1 1, 3, .inr (.inl nw0_1))), (h_steps, .inl (cA.1 0, 3, .inl nw0_5)), (h_turnedFeatures, .inl (cA.1 0, 3, .inl nw0_241)), (h, .inr (2, [.int x_245, .ref h_featureNames, .ref h_steps, .ref h_turnedFeatures, .ref h_sixteenths, .int h_keys, .ref h_keySteps, .int h_lent, .int h_rings, .ref h_on, .ref h_onMany, .int h_doors, .ref h_wanted, .ref h_openers, .ref h_seconds, .int h_turned, .int h_roundMany, .ref h_roundDoors])), (h_sixteenths, .inl (cA.1 0, 48, .inl nw0_463))] := hD
                  obtain ⟨he_nw0_463, hw⟩ := hw
                  refine lv_iinc (v := (v_432 + 1)) (lv' := [(6, .int (v_432 + 1)), (0, .ref h), (1, .long x), (3, .int y), (4, .int k), (5, .int v_332)]) hx hb dX2_addFeature_100 hl (k := 5) rfl (z_ofi (by decide +kernel)) (by decide) rfl (fun ls hl => ?_)
                  refine lv_goto (tgt := 67) hx hb dX2_addFeature_103 (by decide) ?_
                  have hX_467 : F_H_addFeature h_features c_h_featureNames c_h_steps c_h_turnedFeatures c_h_sixteenths x y k = F_H_addFeature_L67b x_245 v_332 (F_H_addFeature_L58b nw0_1 nw0_5 nw0_241 x_245 n_L58b) n_L67b (v_432 + 1) nw0_463 := by
                    refine hF_L67b.trans ?_
                    refine (F_H_addFeature_L67b_s ..).trans ?_
                    refine (if_neg c_451).trans ?_
                    refine (if_pos c_455).trans ?_
                    extract_lets -merge -useContext +onlyGivenNames w9 y9; have e9 : nw0_463 = w9 := he_nw0_463; clear_value w9; subst e9
                    exact rfl
                  have hP := hP.sub (ws' := [(h, .inr (2, [.int x_245, .ref h_featureNames, .ref h_steps, .ref h_turnedFeatures, .ref h_sixteenths, .int h_keys, .ref h_keySteps, .int h_lent, .int h_rings, .ref h_on, .ref h_onMany, .int h_doors, .ref h_wanted, .ref h_openers, .ref h_seconds, .int h_turned, .int h_roundMany, .ref h_roundDoors])), (h_sixteenths, .inl (cA.1 0, 48, .inl nw0_463)), (h_featureNames, .inl (cA.1 1, 3, .inr (.inl nw0_1))), (h_steps, .inl (cA.1 0, 3, .inl nw0_5)), (h_turnedFeatures, .inl (cA.1 0, 3, .inl nw0_241))]) [3, 4, 0, 1, 2] rfl
                  have hD := hD.sub (ws' := [(h, .inr (2, [.int x_245, .ref h_featureNames, .ref h_steps, .ref h_turnedFeatures, .ref h_sixteenths, .int h_keys, .ref h_keySteps, .int h_lent, .int h_rings, .ref h_on, .ref h_onMany, .int h_doors, .ref h_wanted, .ref h_openers, .ref h_seconds, .int h_turned, .int h_roundMany, .ref h_roundDoors])), (h_sixteenths, .inl (cA.1 0, 48, .inl nw0_463)), (h_featureNames, .inl (cA.1 1, 3, .inr (.inl nw0_1))), (h_steps, .inl (cA.1 0, 3, .inl nw0_5)), (h_turnedFeatures, .inl (cA.1 0, 3, .inl nw0_241))]) [3, 4, 0, 1, 2] (by decide) rfl
                  exact ih_450 (v_432 + 1) nw0_463 H locs ls (z_up hmu_hlp_448 (by omega) trivial) (z_upc hi_449 (by omega) trivial) hX_467 hP hD hS (lv_sub hl [1, 2, 3, 4, 5, 0] rfl)
          have hX_468 : F_H_addFeature h_features c_h_featureNames c_h_steps c_h_turnedFeatures c_h_sixteenths x y k = F_H_addFeature_L67b x_245 v_332 (F_H_addFeature_L58b nw0_1 nw0_5 nw0_241 x_245 n_L58b) ((2147483647 - (0 : Int32).toInt).toNat + 1) (0 : Int32) g_333 := by
            refine hF_L58b.trans ?_
            refine (F_H_addFeature_L58b_s ..).trans ?_
            refine (if_neg c_401).trans ?_
            exact rfl
          exact hlp_448 ((2147483647 - (0 : Int32).toInt).toNat + 1) 0 g_333 _ _ _ (Nat.lt_succ_self _) (by first | decide +kernel | omega) hX_468 hP hD hS (lv_sub hl [1, 2, 3, 4, 5, 0] rfl)
    have hX_469 : F_H_addFeature h_features c_h_featureNames c_h_steps c_h_turnedFeatures c_h_sixteenths x y k = F_H_addFeature_L58b nw0_1 nw0_5 nw0_241 x_245 ((2147483647 - (0 : Int32).toInt).toNat + 1) (0 : Int32) c_h_sixteenths := by
      refine (F_H_addFeature_s ..).trans ?_
      extract_lets -merge -useContext +onlyGivenNames w9 y9; have e9 : nw0_1 = w9 := he_nw0_1; clear_value w9; subst e9
      extract_lets -merge -useContext +onlyGivenNames w9 y9; have e9 : nw0_5 = w9 := he_nw0_5; clear_value w9; subst e9
      refine (if_neg c_9).trans ?_
      extract_lets -merge -useContext +onlyGivenNames w9 y9; have e9 : nw0_241 = w9 := he_nw0_241; clear_value w9; subst e9
      try (extract_lets -merge -useContext +onlyGivenNames y9; have e9 : x_245 = y9 := (by first | exact he_x_245 | exact he_x_245.symm); clear_value y9; subst e9)
      exact rfl
    exact hlp_398 ((2147483647 - (0 : Int32).toInt).toNat + 1) 0 c_h_sixteenths _ _ _ (Nat.lt_succ_self _) (by first | decide +kernel | omega) hX_469 hP hD hS (lv_sub hl [1, 2, 3, 4, 0] rfl)
set_option maxHeartbeats 40000000 in
set_option maxRecDepth 100000 in
theorem d_H_setLent (l : Launch) (G : va_G) (cA : zCA) (h : Nat) (h_features : Int32) (h_featureNames : Nat) (h_steps : Nat) (h_turnedFeatures : Nat) (h_sixteenths : Nat) (h_keys : Int32) (h_keySteps : Nat) (h_lent : Int32) (h_rings : Int32) (h_on : Nat) (h_onMany : Nat) (h_doors : Int32) (h_wanted : Nat) (h_openers : Nat) (h_seconds : Nat) (h_turned : Int32) (h_roundMany : Int32) (h_roundDoors : Nat) (x : Int32) (y : Int32) (hm_h_features : 0 ≤ h_features.toInt ∧ h_features.toInt ≤ 3) : zCv l yX2_setLent cX2_setLent 3 none ({ frames := 1, cells := 0, slots := 0, locals := 21 }) G cA [.ref h, .int x, .int y] [(h, .inr (2, [.int h_features, .ref h_featureNames, .ref h_steps, .ref h_turnedFeatures, .ref h_sixteenths, .int h_keys, .ref h_keySteps, .int h_lent, .int h_rings, .ref h_on, .ref h_onMany, .int h_doors, .ref h_wanted, .ref h_openers, .ref h_seconds, .int h_turned, .int h_roundMany, .ref h_roundDoors]))] (S := Int32) (fun (u : Int32) => (u = (F_H_setLent h_keys h_lent x y)) ∧ (True)) (fun (u : Int32) => [(h, .inr (2, [.int h_features, .ref h_featureNames, .ref h_steps, .ref h_turnedFeatures, .ref h_sixteenths, .int h_keys, .ref h_keySteps, .int u, .int h_rings, .ref h_on, .ref h_onMany, .int h_doors, .ref h_wanted, .ref h_openers, .ref h_seconds, .int h_turned, .int h_roundMany, .ref h_roundDoors]))]) 0 0 := by
  refine z_start2v (own := RX2) (by decide) (Nat.le_of_ble_eq_true rfl) rfl ?_
  intro p e s m args below meth c A ls Q hx hb hml hts hown hK hE hT hP hD hS hA hl hret
  have hl : lv_has ls 3 [(0, .ref h), (1, .int x), (2, .int y)] := hl
  refine lv_aload_n hx hb dX2_setLent_0 rfl (lv_at hl 0 rfl) ?_
  refine lv_iload_n hx hb dX2_setLent_1 rfl (lv_at hl 1 rfl) ?_
  refine z_callVi (As := [.int x]) (rest := []) (wr := []) ⟨hx, hb, hml, hown, hts⟩ hK hE hT hP hD hS hA (d_H_hasKey l G cA h h_features h_featureNames h_steps h_turnedFeatures h_sixteenths h_keys h_keySteps h_lent h_rings h_on h_onMany h_doors h_wanted h_openers h_seconds h_turned h_roundMany h_roundDoors x (by omega)) lk_RX2_97 ⟨rfl, rfl⟩ ⟨Nat.le_of_ble_eq_true rfl, Nat.le_of_ble_eq_true rfl⟩ 2 rfl rfl rfl [0] [] rfl rfl (by decide) rfl hl.1 rfl (lv_room (Nat.le_of_ble_eq_true rfl)) dX2_setLent_2 ⟨Nat.le_of_ble_eq_true rfl, Nat.le_of_ble_eq_true rfl⟩ (fun r_1 u_2 H locs hw hP hD hS => ?_)
  have hP : va_P G vwCl [(h, .inr (2, [.int h_features, .ref h_featureNames, .ref h_steps, .ref h_turnedFeatures, .ref h_sixteenths, .int h_keys, .ref h_keySteps, .int h_lent, .int h_rings, .ref h_on, .ref h_onMany, .int h_doors, .ref h_wanted, .ref h_openers, .ref h_seconds, .int h_turned, .int h_roundMany, .ref h_roundDoors]))] H := hP
  have hD : va_D A [(h, .inr (2, [.int h_features, .ref h_featureNames, .ref h_steps, .ref h_turnedFeatures, .ref h_sixteenths, .int h_keys, .ref h_keySteps, .int h_lent, .int h_rings, .ref h_on, .ref h_onMany, .int h_doors, .ref h_wanted, .ref h_openers, .ref h_seconds, .int h_turned, .int h_roundMany, .ref h_roundDoors]))] := hD
  obtain ⟨he_r_1, hw⟩ := hw
  have hz_r_1 := hw
  refine lv_if_ne (tgt := 9) hx hb dX2_setLent_5 (by decide) (fun c_4 => ?_) (fun c_4 => ?_)
  · skip
    refine lv_aload_n hx hb dX2_setLent_9 rfl (lv_at hl 0 rfl) ?_
    refine lv_iload_n hx hb dX2_setLent_10 rfl (lv_at hl 2 rfl) ?_
    refine lv_if_eq (tgt := 25) hx hb dX2_setLent_11 (by decide) (fun c_6 => ?_) (fun c_6 => ?_)
    · skip
      refine lv_aload_n hx hb dX2_setLent_25 rfl (lv_at hl 0 rfl) ?_
      refine va_get (D := G) (ci := 2) (v := .int h_lent) (C := RX2) (T := TX2) (N := 18) hx hb hts inT2 hown hK hP 0 rfl rfl 7 (by decide) (hts _ tw_278) (fun _ h9 => h9) rfl dX2_setLent_26 ?_
      refine lv_iconst (v := 1) hx hb dX2_setLent_29 (by decide) ?_
      refine lv_iload_n hx hb dX2_setLent_30 rfl (lv_at hl 1 rfl) ?_
      refine lv_ishl hx hb dX2_setLent_31 ?_
      refine lv_topi (fun x_8 he_x_8 => ?_)
      refine lv_iconst (v := (-1)) hx hb dX2_setLent_32 (by decide) ?_
      refine lv_ixor hx hb dX2_setLent_33 ?_
      refine lv_topi (fun x_9 he_x_9 => ?_)
      refine lv_iand hx hb dX2_setLent_34 ?_
      refine lv_topi (fun x_10 he_x_10 => ?_)
      refine va_put (D := G) (ci := 2) (v := .int x_10) (ty := .int) (C := RX2) (T := TX2) (N := 18) hx hb hts inT2 tyX2 tyX2_ok nmX2 hown hK hP hD hS 0 rfl rfl 7 (by decide) (hts _ tw_278) (fun _ h9 => h9) rfl (tyX2_ok 7 (by decide)) rfl rfl (Nat.le_of_ble_eq_true rfl) dX2_setLent_35 (fun H locs hP hD hS => ?_)
      have hP : va_P G vwCl [(h, .inr (2, [.int h_features, .ref h_featureNames, .ref h_steps, .ref h_turnedFeatures, .ref h_sixteenths, .int h_keys, .ref h_keySteps, .int x_10, .int h_rings, .ref h_on, .ref h_onMany, .int h_doors, .ref h_wanted, .ref h_openers, .ref h_seconds, .int h_turned, .int h_roundMany, .ref h_roundDoors]))] H := hP
      have hD : va_D A [(h, .inr (2, [.int h_features, .ref h_featureNames, .ref h_steps, .ref h_turnedFeatures, .ref h_sixteenths, .int h_keys, .ref h_keySteps, .int x_10, .int h_rings, .ref h_on, .ref h_onMany, .int h_doors, .ref h_wanted, .ref h_openers, .ref h_seconds, .int h_turned, .int h_roundMany, .ref h_roundDoors]))] := hD
      have hX_11 : F_H_setLent h_keys h_lent x y = (x_10 : Int32) := by
        refine (F_H_setLent_s ..).trans ?_
        extract_lets -merge -useContext +onlyGivenNames w9 y9; have e9 : r_1 = w9 := he_r_1; clear_value w9; subst e9
        refine (if_neg c_4).trans ?_
        refine (if_pos c_6).trans ?_
        try (extract_lets -merge -useContext +onlyGivenNames y9; have e9 : x_8 = y9 := (by first | exact he_x_8 | exact he_x_8.symm); clear_value y9; subst e9)
        try (extract_lets -merge -useContext +onlyGivenNames y9; have e9 : x_9 = y9 := (by first | exact he_x_9 | exact he_x_9.symm); clear_value y9; subst e9)
        try (extract_lets -merge -useContext +onlyGivenNames y9; have e9 : x_10 = y9 := (by first | exact he_x_10 | exact he_x_10.symm); clear_value y9; subst e9)
        exact rfl
      exact hret _ _ _ _ _ x_10 [0] hP hD hS rfl (by decide) dX2_setLent_38 ⟨(congrArg (fun z9 => z9) hX_11).symm, trivial⟩
    · skip
      refine lv_aload_n hx hb dX2_setLent_14 rfl (lv_at hl 0 rfl) ?_
      refine va_get (D := G) (ci := 2) (v := .int h_lent) (C := RX2) (T := TX2) (N := 18) hx hb hts inT2 hown hK hP 0 rfl rfl 7 (by decide) (hts _ tw_278) (fun _ h9 => h9) rfl dX2_setLent_15 ?_
      refine lv_iconst (v := 1) hx hb dX2_setLent_18 (by decide) ?_
      refine lv_iload_n hx hb dX2_setLent_19 rfl (lv_at hl 1 rfl) ?_
      refine lv_ishl hx hb dX2_setLent_20 ?_
      refine lv_topi (fun x_13 he_x_13 => ?_)
      refine lv_ior hx hb dX2_setLent_21 ?_
      refine lv_topi (fun x_14 he_x_14 => ?_)
      refine lv_goto (tgt := 35) hx hb dX2_setLent_22 (by decide) ?_
      refine va_put (D := G) (ci := 2) (v := .int x_14) (ty := .int) (C := RX2) (T := TX2) (N := 18) hx hb hts inT2 tyX2 tyX2_ok nmX2 hown hK hP hD hS 0 rfl rfl 7 (by decide) (hts _ tw_278) (fun _ h9 => h9) rfl (tyX2_ok 7 (by decide)) rfl rfl (Nat.le_of_ble_eq_true rfl) dX2_setLent_35 (fun H locs hP hD hS => ?_)
      have hP : va_P G vwCl [(h, .inr (2, [.int h_features, .ref h_featureNames, .ref h_steps, .ref h_turnedFeatures, .ref h_sixteenths, .int h_keys, .ref h_keySteps, .int x_14, .int h_rings, .ref h_on, .ref h_onMany, .int h_doors, .ref h_wanted, .ref h_openers, .ref h_seconds, .int h_turned, .int h_roundMany, .ref h_roundDoors]))] H := hP
      have hD : va_D A [(h, .inr (2, [.int h_features, .ref h_featureNames, .ref h_steps, .ref h_turnedFeatures, .ref h_sixteenths, .int h_keys, .ref h_keySteps, .int x_14, .int h_rings, .ref h_on, .ref h_onMany, .int h_doors, .ref h_wanted, .ref h_openers, .ref h_seconds, .int h_turned, .int h_roundMany, .ref h_roundDoors]))] := hD
      have hX_15 : F_H_setLent h_keys h_lent x y = (x_14 : Int32) := by
        refine (F_H_setLent_s ..).trans ?_
        extract_lets -merge -useContext +onlyGivenNames w9 y9; have e9 : r_1 = w9 := he_r_1; clear_value w9; subst e9
        refine (if_neg c_4).trans ?_
        refine (if_neg c_6).trans ?_
        try (extract_lets -merge -useContext +onlyGivenNames y9; have e9 : x_13 = y9 := (by first | exact he_x_13 | exact he_x_13.symm); clear_value y9; subst e9)
        try (extract_lets -merge -useContext +onlyGivenNames y9; have e9 : x_14 = y9 := (by first | exact he_x_14 | exact he_x_14.symm); clear_value y9; subst e9)
        exact rfl
      exact hret _ _ _ _ _ x_14 [0] hP hD hS rfl (by decide) dX2_setLent_38 ⟨(congrArg (fun z9 => z9) hX_15).symm, trivial⟩
  · skip
    have hX_17 : F_H_setLent h_keys h_lent x y = (h_lent : Int32) := by
      refine (F_H_setLent_s ..).trans ?_
      extract_lets -merge -useContext +onlyGivenNames w9 y9; have e9 : r_1 = w9 := he_r_1; clear_value w9; subst e9
      refine (if_pos c_4).trans ?_
      exact rfl
    exact hret _ _ _ _ _ h_lent [0] hP hD hS rfl (by decide) dX2_setLent_8 ⟨(congrArg (fun z9 => z9) hX_17).symm, trivial⟩
set_option maxHeartbeats 40000000 in
set_option maxRecDepth 100000 in
theorem d_H_addRing (l : Launch) (G : va_G) (cA : zCA) (h : Nat) (h_features : Int32) (h_featureNames : Nat) (h_steps : Nat) (h_turnedFeatures : Nat) (h_sixteenths : Nat) (h_keys : Int32) (h_keySteps : Nat) (h_lent : Int32) (h_rings : Int32) (h_on : Nat) (h_onMany : Nat) (h_doors : Int32) (h_wanted : Nat) (h_openers : Nat) (h_seconds : Nat) (h_turned : Int32) (h_roundMany : Int32) (h_roundDoors : Nat) (c_h_onMany : Nat → Int32) (hm_h_features : 0 ≤ h_features.toInt ∧ h_features.toInt ≤ 3) (hO_c_h_onMany : zOM c_h_onMany) : zCv l yX2_addRing cX2_addRing 1 none ({ frames := 1, cells := 0, slots := 0, locals := 22 }) G cA [.ref h] [(h, .inr (2, [.int h_features, .ref h_featureNames, .ref h_steps, .ref h_turnedFeatures, .ref h_sixteenths, .int h_keys, .ref h_keySteps, .int h_lent, .int h_rings, .ref h_on, .ref h_onMany, .int h_doors, .ref h_wanted, .ref h_openers, .ref h_seconds, .int h_turned, .int h_roundMany, .ref h_roundDoors])), (h_onMany, .inl (cA.1 0, 3, .inl c_h_onMany))] (S := Int32 × (Nat → Int32)) (fun (u : Int32 × (Nat → Int32)) => (u.1 = (F_H_addRing h_rings c_h_onMany).1) ∧ (u.2 = (F_H_addRing h_rings c_h_onMany).2) ∧ (zOM u.2)) (fun (u : Int32 × (Nat → Int32)) => [(h, .inr (2, [.int h_features, .ref h_featureNames, .ref h_steps, .ref h_turnedFeatures, .ref h_sixteenths, .int h_keys, .ref h_keySteps, .int h_lent, .int u.1, .ref h_on, .ref h_onMany, .int h_doors, .ref h_wanted, .ref h_openers, .ref h_seconds, .int h_turned, .int h_roundMany, .ref h_roundDoors])), (h_onMany, .inl (cA.1 0, 3, .inl u.2))]) 0 0 := by
  refine z_start2v (own := RX2) (by decide) (Nat.le_of_ble_eq_true rfl) rfl ?_
  intro p e s m args below meth c A ls Q hx hb hml hts hown hK hE hT hP hD hS hA hl hret
  have hl : lv_has ls 1 [(0, .ref h)] := hl
  refine lv_aload_n hx hb dX2_addRing_0 rfl (lv_at hl 0 rfl) ?_
  refine va_get (D := G) (ci := 2) (v := .ref h_onMany) (C := RX2) (T := TX2) (N := 18) hx hb hts inT2 hown hK hP 0 rfl rfl 10 (by decide) (hts _ tw_284) (fun _ h9 => h9) rfl dX2_addRing_1 ?_
  refine lv_aload_n hx hb dX2_addRing_4 rfl (lv_at hl 0 rfl) ?_
  refine va_get (D := G) (ci := 2) (v := .int h_rings) (C := RX2) (T := TX2) (N := 18) hx hb hts inT2 hown hK hP 0 rfl rfl 8 (by decide) (hts _ tw_279) (fun _ h9 => h9) rfl dX2_addRing_5 ?_
  refine lv_iconst (v := 0) hx hb dX2_addRing_8 (by decide) ?_
  refine z_callSNv (As := [.ref h_onMany, .int h_rings, .int 0]) (rest := []) (wr := [(h, .inr (2, [.int h_features, .ref h_featureNames, .ref h_steps, .ref h_turnedFeatures, .ref h_sixteenths, .int h_keys, .ref h_keySteps, .int h_lent, .int h_rings, .ref h_on, .ref h_onMany, .int h_doors, .ref h_wanted, .ref h_openers, .ref h_seconds, .int h_turned, .int h_roundMany, .ref h_roundDoors]))]) ⟨hx, hb, hml, hown, hts⟩ hK hE hT hP hD hS hA (d_keepAt_3 l G cA h_onMany c_h_onMany h_rings 0) lk_RX2_126 ⟨rfl, rfl⟩ ⟨Nat.le_of_ble_eq_true rfl, Nat.le_of_ble_eq_true rfl⟩ [1] [0] rfl rfl (by decide) rfl hl.1 rfl (lv_room (Nat.le_of_ble_eq_true rfl)) dX2_addRing_9 ⟨Nat.le_of_ble_eq_true rfl, Nat.le_of_ble_eq_true rfl⟩ (fun u_3 H locs hw hP hD hS => ?_)
  obtain ⟨nw0_1, rfl⟩ : ∃ z, z = u_3 := ⟨_, rfl⟩
  have hP : va_P G vwCl [(h, .inr (2, [.int h_features, .ref h_featureNames, .ref h_steps, .ref h_turnedFeatures, .ref h_sixteenths, .int h_keys, .ref h_keySteps, .int h_lent, .int h_rings, .ref h_on, .ref h_onMany, .int h_doors, .ref h_wanted, .ref h_openers, .ref h_seconds, .int h_turned, .int h_roundMany, .ref h_roundDoors])), (h_onMany, .inl (cA.1 0, 3, .inl nw0_1))] H := hP
  have hD : va_D A [(h, .inr (2, [.int h_features, .ref h_featureNames, .ref h_steps, .ref h_turnedFeatures, .ref h_sixteenths, .int h_keys, .ref h_keySteps, .int h_lent, .int h_rings, .ref h_on, .ref h_onMany, .int h_doors, .ref h_wanted, .ref h_openers, .ref h_seconds, .int h_turned, .int h_roundMany, .ref h_roundDoors])), (h_onMany, .inl (cA.1 0, 3, .inl nw0_1))] := hD
  obtain ⟨he_nw0_1, hw⟩ := hw
  have hx_nw0_1 := hw
  have hO_nw0_1 := zOM_keep hO_c_h_onMany hx_nw0_1 (by decide +kernel)
  refine lv_aload_n hx hb dX2_addRing_12 rfl (lv_at hl 0 rfl) ?_
  refine lv_dup hx hb dX2_addRing_13 rfl ?_
  refine va_get (D := G) (ci := 2) (v := .int h_rings) (C := RX2) (T := TX2) (N := 18) hx hb hts inT2 hown hK hP 0 rfl rfl 8 (by decide) (hts _ tw_279) (fun _ h9 => h9) rfl dX2_addRing_14 ?_
  refine lv_iconst (v := 1) hx hb dX2_addRing_17 (by decide) ?_
  refine lv_iadd hx hb dX2_addRing_18 ?_
  refine va_put (D := G) (ci := 2) (v := .int (h_rings + 1)) (ty := .int) (C := RX2) (T := TX2) (N := 18) hx hb hts inT2 tyX2 tyX2_ok nmX2 hown hK hP hD hS 0 rfl rfl 8 (by decide) (hts _ tw_279) (fun _ h9 => h9) rfl (tyX2_ok 8 (by decide)) rfl rfl (Nat.le_of_ble_eq_true rfl) dX2_addRing_19 (fun H locs hP hD hS => ?_)
  have hP : va_P G vwCl [(h, .inr (2, [.int h_features, .ref h_featureNames, .ref h_steps, .ref h_turnedFeatures, .ref h_sixteenths, .int h_keys, .ref h_keySteps, .int h_lent, .int (h_rings + 1), .ref h_on, .ref h_onMany, .int h_doors, .ref h_wanted, .ref h_openers, .ref h_seconds, .int h_turned, .int h_roundMany, .ref h_roundDoors])), (h_onMany, .inl (cA.1 0, 3, .inl nw0_1))] H := hP
  have hD : va_D A [(h, .inr (2, [.int h_features, .ref h_featureNames, .ref h_steps, .ref h_turnedFeatures, .ref h_sixteenths, .int h_keys, .ref h_keySteps, .int h_lent, .int (h_rings + 1), .ref h_on, .ref h_onMany, .int h_doors, .ref h_wanted, .ref h_openers, .ref h_seconds, .int h_turned, .int h_roundMany, .ref h_roundDoors])), (h_onMany, .inl (cA.1 0, 3, .inl nw0_1))] := hD
  have hX_5 : F_H_addRing h_rings c_h_onMany = (((h_rings + 1), nw0_1) : Int32 × (Nat → Int32)) := by
    refine (F_H_addRing_s ..).trans ?_
    extract_lets -merge -useContext +onlyGivenNames w9 y9; have e9 : nw0_1 = w9 := he_nw0_1; clear_value w9; subst e9
    exact rfl
  exact hret _ _ _ _ _ ((h_rings + 1), nw0_1) [0, 1] hP hD hS rfl (by decide) dX2_addRing_22 ⟨(congrArg (fun z9 => z9.1) hX_5).symm, (congrArg (fun z9 => z9.2) hX_5).symm, hO_nw0_1⟩
set_option maxHeartbeats 40000000 in
set_option maxRecDepth 100000 in
theorem d_H_addDoor (l : Launch) (G : va_G) (cA : zCA) (h : Nat) (h_features : Int32) (h_featureNames : Nat) (h_steps : Nat) (h_turnedFeatures : Nat) (h_sixteenths : Nat) (h_keys : Int32) (h_keySteps : Nat) (h_lent : Int32) (h_rings : Int32) (h_on : Nat) (h_onMany : Nat) (h_doors : Int32) (h_wanted : Nat) (h_openers : Nat) (h_seconds : Nat) (h_turned : Int32) (h_roundMany : Int32) (h_roundDoors : Nat) (c_h_wanted : Nat → Int32) (c_h_openers : Nat → Int32) (x : Int32) (hm_h_features : 0 ≤ h_features.toInt ∧ h_features.toInt ≤ 3) : zCv l yX2_addDoor cX2_addDoor 2 none ({ frames := 1, cells := 0, slots := 0, locals := 22 }) G cA [.ref h, .int x] [(h, .inr (2, [.int h_features, .ref h_featureNames, .ref h_steps, .ref h_turnedFeatures, .ref h_sixteenths, .int h_keys, .ref h_keySteps, .int h_lent, .int h_rings, .ref h_on, .ref h_onMany, .int h_doors, .ref h_wanted, .ref h_openers, .ref h_seconds, .int h_turned, .int h_roundMany, .ref h_roundDoors])), (h_wanted, .inl (cA.1 0, 5, .inl c_h_wanted)), (h_openers, .inl (cA.1 0, 5, .inl c_h_openers))] (S := Int32 × (Nat → Int32) × (Nat → Int32)) (fun (u : Int32 × (Nat → Int32) × (Nat → Int32)) => (u.1 = (F_H_addDoor h_doors c_h_wanted c_h_openers x).1) ∧ (u.2.1 = (F_H_addDoor h_doors c_h_wanted c_h_openers x).2.1) ∧ (u.2.2 = (F_H_addDoor h_doors c_h_wanted c_h_openers x).2.2) ∧ (True)) (fun (u : Int32 × (Nat → Int32) × (Nat → Int32)) => [(h, .inr (2, [.int h_features, .ref h_featureNames, .ref h_steps, .ref h_turnedFeatures, .ref h_sixteenths, .int h_keys, .ref h_keySteps, .int h_lent, .int h_rings, .ref h_on, .ref h_onMany, .int u.1, .ref h_wanted, .ref h_openers, .ref h_seconds, .int h_turned, .int h_roundMany, .ref h_roundDoors])), (h_wanted, .inl (cA.1 0, 5, .inl u.2.1)), (h_openers, .inl (cA.1 0, 5, .inl u.2.2))]) 0 0 := by
  refine z_start2v (own := RX2) (by decide) (Nat.le_of_ble_eq_true rfl) rfl ?_
  intro p e s m args below meth c A ls Q hx hb hml hts hown hK hE hT hP hD hS hA hl hret
  have hl : lv_has ls 2 [(0, .ref h), (1, .int x)] := hl
  refine lv_aload_n hx hb dX2_addDoor_0 rfl (lv_at hl 0 rfl) ?_
  refine va_get (D := G) (ci := 2) (v := .ref h_wanted) (C := RX2) (T := TX2) (N := 18) hx hb hts inT2 hown hK hP 0 rfl rfl 12 (by decide) (hts _ tw_289) (fun _ h9 => h9) rfl dX2_addDoor_1 ?_
  refine lv_aload_n hx hb dX2_addDoor_4 rfl (lv_at hl 0 rfl) ?_
  refine va_get (D := G) (ci := 2) (v := .int h_doors) (C := RX2) (T := TX2) (N := 18) hx hb hts inT2 hown hK hP 0 rfl rfl 11 (by decide) (hts _ tw_285) (fun _ h9 => h9) rfl dX2_addDoor_5 ?_
  refine lv_iload_n hx hb dX2_addDoor_8 rfl (lv_at hl 1 rfl) ?_
  refine z_callSNv (As := [.ref h_wanted, .int h_doors, .int x]) (rest := []) (wr := [(h, .inr (2, [.int h_features, .ref h_featureNames, .ref h_steps, .ref h_turnedFeatures, .ref h_sixteenths, .int h_keys, .ref h_keySteps, .int h_lent, .int h_rings, .ref h_on, .ref h_onMany, .int h_doors, .ref h_wanted, .ref h_openers, .ref h_seconds, .int h_turned, .int h_roundMany, .ref h_roundDoors])), (h_openers, .inl (cA.1 0, 5, .inl c_h_openers))]) ⟨hx, hb, hml, hown, hts⟩ hK hE hT hP hD hS hA (d_keepAt_5 l G cA h_wanted c_h_wanted h_doors x) lk_RX2_126 ⟨rfl, rfl⟩ ⟨Nat.le_of_ble_eq_true rfl, Nat.le_of_ble_eq_true rfl⟩ [1] [0, 2] rfl rfl (by decide) rfl hl.1 rfl (lv_room (Nat.le_of_ble_eq_true rfl)) dX2_addDoor_9 ⟨Nat.le_of_ble_eq_true rfl, Nat.le_of_ble_eq_true rfl⟩ (fun u_3 H locs hw hP hD hS => ?_)
  obtain ⟨nw0_1, rfl⟩ : ∃ z, z = u_3 := ⟨_, rfl⟩
  have hP : va_P G vwCl [(h, .inr (2, [.int h_features, .ref h_featureNames, .ref h_steps, .ref h_turnedFeatures, .ref h_sixteenths, .int h_keys, .ref h_keySteps, .int h_lent, .int h_rings, .ref h_on, .ref h_onMany, .int h_doors, .ref h_wanted, .ref h_openers, .ref h_seconds, .int h_turned, .int h_roundMany, .ref h_roundDoors])), (h_openers, .inl (cA.1 0, 5, .inl c_h_openers)), (h_wanted, .inl (cA.1 0, 5, .inl nw0_1))] H := hP
  have hD : va_D A [(h, .inr (2, [.int h_features, .ref h_featureNames, .ref h_steps, .ref h_turnedFeatures, .ref h_sixteenths, .int h_keys, .ref h_keySteps, .int h_lent, .int h_rings, .ref h_on, .ref h_onMany, .int h_doors, .ref h_wanted, .ref h_openers, .ref h_seconds, .int h_turned, .int h_roundMany, .ref h_roundDoors])), (h_openers, .inl (cA.1 0, 5, .inl c_h_openers)), (h_wanted, .inl (cA.1 0, 5, .inl nw0_1))] := hD
  obtain ⟨he_nw0_1, hw⟩ := hw
  refine lv_aload_n hx hb dX2_addDoor_12 rfl (lv_at hl 0 rfl) ?_
  refine va_get (D := G) (ci := 2) (v := .ref h_openers) (C := RX2) (T := TX2) (N := 18) hx hb hts inT2 hown hK hP 0 rfl rfl 13 (by decide) (hts _ tw_290) (fun _ h9 => h9) rfl dX2_addDoor_13 ?_
  refine lv_aload_n hx hb dX2_addDoor_16 rfl (lv_at hl 0 rfl) ?_
  refine va_get (D := G) (ci := 2) (v := .int h_doors) (C := RX2) (T := TX2) (N := 18) hx hb hts inT2 hown hK hP 0 rfl rfl 11 (by decide) (hts _ tw_285) (fun _ h9 => h9) rfl dX2_addDoor_17 ?_
  refine lv_iconst (v := 0) hx hb dX2_addDoor_20 (by decide) ?_
  refine z_callSNv (As := [.ref h_openers, .int h_doors, .int 0]) (rest := []) (wr := [(h, .inr (2, [.int h_features, .ref h_featureNames, .ref h_steps, .ref h_turnedFeatures, .ref h_sixteenths, .int h_keys, .ref h_keySteps, .int h_lent, .int h_rings, .ref h_on, .ref h_onMany, .int h_doors, .ref h_wanted, .ref h_openers, .ref h_seconds, .int h_turned, .int h_roundMany, .ref h_roundDoors])), (h_wanted, .inl (cA.1 0, 5, .inl nw0_1))]) ⟨hx, hb, hml, hown, hts⟩ hK hE hT hP hD hS hA (d_keepAt_5 l G cA h_openers c_h_openers h_doors 0) lk_RX2_126 ⟨rfl, rfl⟩ ⟨Nat.le_of_ble_eq_true rfl, Nat.le_of_ble_eq_true rfl⟩ [1] [0, 2] rfl rfl (by decide) rfl hl.1 rfl (lv_room (Nat.le_of_ble_eq_true rfl)) dX2_addDoor_21 ⟨Nat.le_of_ble_eq_true rfl, Nat.le_of_ble_eq_true rfl⟩ (fun u_7 H locs hw hP hD hS => ?_)
  obtain ⟨nw0_5, rfl⟩ : ∃ z, z = u_7 := ⟨_, rfl⟩
  have hP : va_P G vwCl [(h, .inr (2, [.int h_features, .ref h_featureNames, .ref h_steps, .ref h_turnedFeatures, .ref h_sixteenths, .int h_keys, .ref h_keySteps, .int h_lent, .int h_rings, .ref h_on, .ref h_onMany, .int h_doors, .ref h_wanted, .ref h_openers, .ref h_seconds, .int h_turned, .int h_roundMany, .ref h_roundDoors])), (h_wanted, .inl (cA.1 0, 5, .inl nw0_1)), (h_openers, .inl (cA.1 0, 5, .inl nw0_5))] H := hP
  have hD : va_D A [(h, .inr (2, [.int h_features, .ref h_featureNames, .ref h_steps, .ref h_turnedFeatures, .ref h_sixteenths, .int h_keys, .ref h_keySteps, .int h_lent, .int h_rings, .ref h_on, .ref h_onMany, .int h_doors, .ref h_wanted, .ref h_openers, .ref h_seconds, .int h_turned, .int h_roundMany, .ref h_roundDoors])), (h_wanted, .inl (cA.1 0, 5, .inl nw0_1)), (h_openers, .inl (cA.1 0, 5, .inl nw0_5))] := hD
  obtain ⟨he_nw0_5, hw⟩ := hw
  refine lv_aload_n hx hb dX2_addDoor_24 rfl (lv_at hl 0 rfl) ?_
  refine lv_dup hx hb dX2_addDoor_25 rfl ?_
  refine va_get (D := G) (ci := 2) (v := .int h_doors) (C := RX2) (T := TX2) (N := 18) hx hb hts inT2 hown hK hP 0 rfl rfl 11 (by decide) (hts _ tw_285) (fun _ h9 => h9) rfl dX2_addDoor_26 ?_
  refine lv_iconst (v := 1) hx hb dX2_addDoor_29 (by decide) ?_
  refine lv_iadd hx hb dX2_addDoor_30 ?_
  refine va_put (D := G) (ci := 2) (v := .int (h_doors + 1)) (ty := .int) (C := RX2) (T := TX2) (N := 18) hx hb hts inT2 tyX2 tyX2_ok nmX2 hown hK hP hD hS 0 rfl rfl 11 (by decide) (hts _ tw_285) (fun _ h9 => h9) rfl (tyX2_ok 11 (by decide)) rfl rfl (Nat.le_of_ble_eq_true rfl) dX2_addDoor_31 (fun H locs hP hD hS => ?_)
  have hP : va_P G vwCl [(h, .inr (2, [.int h_features, .ref h_featureNames, .ref h_steps, .ref h_turnedFeatures, .ref h_sixteenths, .int h_keys, .ref h_keySteps, .int h_lent, .int h_rings, .ref h_on, .ref h_onMany, .int (h_doors + 1), .ref h_wanted, .ref h_openers, .ref h_seconds, .int h_turned, .int h_roundMany, .ref h_roundDoors])), (h_wanted, .inl (cA.1 0, 5, .inl nw0_1)), (h_openers, .inl (cA.1 0, 5, .inl nw0_5))] H := hP
  have hD : va_D A [(h, .inr (2, [.int h_features, .ref h_featureNames, .ref h_steps, .ref h_turnedFeatures, .ref h_sixteenths, .int h_keys, .ref h_keySteps, .int h_lent, .int h_rings, .ref h_on, .ref h_onMany, .int (h_doors + 1), .ref h_wanted, .ref h_openers, .ref h_seconds, .int h_turned, .int h_roundMany, .ref h_roundDoors])), (h_wanted, .inl (cA.1 0, 5, .inl nw0_1)), (h_openers, .inl (cA.1 0, 5, .inl nw0_5))] := hD
  have hX_9 : F_H_addDoor h_doors c_h_wanted c_h_openers x = (((h_doors + 1), nw0_1, nw0_5) : Int32 × (Nat → Int32) × (Nat → Int32)) := by
    refine (F_H_addDoor_s ..).trans ?_
    extract_lets -merge -useContext +onlyGivenNames w9 y9; have e9 : nw0_1 = w9 := he_nw0_1; clear_value w9; subst e9
    extract_lets -merge -useContext +onlyGivenNames w9 y9; have e9 : nw0_5 = w9 := he_nw0_5; clear_value w9; subst e9
    exact rfl
  exact hret _ _ _ _ _ ((h_doors + 1), nw0_1, nw0_5) [0, 1, 2] hP hD hS rfl (by decide) dX2_addDoor_34 ⟨(congrArg (fun z9 => z9.1) hX_9).symm, (congrArg (fun z9 => z9.2.1) hX_9).symm, (congrArg (fun z9 => z9.2.2) hX_9).symm, trivial⟩
set_option maxHeartbeats 40000000 in
set_option maxRecDepth 100000 in
theorem d_H_addOpener (l : Launch) (G : va_G) (cA : zCA) (h : Nat) (h_features : Int32) (h_featureNames : Nat) (h_steps : Nat) (h_turnedFeatures : Nat) (h_sixteenths : Nat) (h_keys : Int32) (h_keySteps : Nat) (h_lent : Int32) (h_rings : Int32) (h_on : Nat) (h_onMany : Nat) (h_doors : Int32) (h_wanted : Nat) (h_openers : Nat) (h_seconds : Nat) (h_turned : Int32) (h_roundMany : Int32) (h_roundDoors : Nat) (c_h_openers : Nat → Int32) (x : Int32) (y : Int32) (hm_h_features : 0 ≤ h_features.toInt ∧ h_features.toInt ≤ 3) : zCv l yX2_addOpener cX2_addOpener 3 none ({ frames := 2, cells := 0, slots := 0, locals := 42 }) G cA [.ref h, .int x, .int y] [(h, .inr (2, [.int h_features, .ref h_featureNames, .ref h_steps, .ref h_turnedFeatures, .ref h_sixteenths, .int h_keys, .ref h_keySteps, .int h_lent, .int h_rings, .ref h_on, .ref h_onMany, .int h_doors, .ref h_wanted, .ref h_openers, .ref h_seconds, .int h_turned, .int h_roundMany, .ref h_roundDoors])), (h_openers, .inl (cA.1 0, 5, .inl c_h_openers))] (S := (Nat → Int32)) (fun (u : (Nat → Int32)) => (u = (F_H_addOpener h_doors c_h_openers x y)) ∧ (True)) (fun (u : (Nat → Int32)) => [(h, .inr (2, [.int h_features, .ref h_featureNames, .ref h_steps, .ref h_turnedFeatures, .ref h_sixteenths, .int h_keys, .ref h_keySteps, .int h_lent, .int h_rings, .ref h_on, .ref h_onMany, .int h_doors, .ref h_wanted, .ref h_openers, .ref h_seconds, .int h_turned, .int h_roundMany, .ref h_roundDoors])), (h_openers, .inl (cA.1 0, 5, .inl u))]) 0 0 := by
  refine z_start2v (own := RX2) (by decide) (Nat.le_of_ble_eq_true rfl) rfl ?_
  intro p e s m args below meth c A ls Q hx hb hml hts hown hK hE hT hP hD hS hA hl hret
  have hl : lv_has ls 3 [(0, .ref h), (1, .int x), (2, .int y)] := hl
  refine lv_aload_n hx hb dX2_addOpener_0 rfl (lv_at hl 0 rfl) ?_
  refine va_get (D := G) (ci := 2) (v := .ref h_openers) (C := RX2) (T := TX2) (N := 18) hx hb hts inT2 hown hK hP 0 rfl rfl 13 (by decide) (hts _ tw_290) (fun _ h9 => h9) rfl dX2_addOpener_1 ?_
  refine lv_iload_n hx hb dX2_addOpener_4 rfl (lv_at hl 1 rfl) ?_
  refine lv_aload_n hx hb dX2_addOpener_5 rfl (lv_at hl 0 rfl) ?_
  refine lv_iload_n hx hb dX2_addOpener_6 rfl (lv_at hl 1 rfl) ?_
  refine z_callVi (As := [.int x]) (rest := [.int x, .ref h_openers]) (wr := []) ⟨hx, hb, hml, hown, hts⟩ hK hE hT hP hD hS hA (d_H_openersOf l G cA h h_features h_featureNames h_steps h_turnedFeatures h_sixteenths h_keys h_keySteps h_lent h_rings h_on h_onMany h_doors h_wanted h_openers h_seconds h_turned h_roundMany h_roundDoors c_h_openers x (by omega)) lk_RX2_145 ⟨rfl, rfl⟩ ⟨Nat.le_of_ble_eq_true rfl, Nat.le_of_ble_eq_true rfl⟩ 2 rfl rfl rfl [0, 1] [] rfl rfl (by decide) rfl hl.1 rfl (lv_room (Nat.le_of_ble_eq_true rfl)) dX2_addOpener_7 ⟨Nat.le_of_ble_eq_true rfl, Nat.le_of_ble_eq_true rfl⟩ (fun r_1 u_2 H locs hw hP hD hS => ?_)
  have hP : va_P G vwCl [(h, .inr (2, [.int h_features, .ref h_featureNames, .ref h_steps, .ref h_turnedFeatures, .ref h_sixteenths, .int h_keys, .ref h_keySteps, .int h_lent, .int h_rings, .ref h_on, .ref h_onMany, .int h_doors, .ref h_wanted, .ref h_openers, .ref h_seconds, .int h_turned, .int h_roundMany, .ref h_roundDoors])), (h_openers, .inl (cA.1 0, 5, .inl c_h_openers))] H := hP
  have hD : va_D A [(h, .inr (2, [.int h_features, .ref h_featureNames, .ref h_steps, .ref h_turnedFeatures, .ref h_sixteenths, .int h_keys, .ref h_keySteps, .int h_lent, .int h_rings, .ref h_on, .ref h_onMany, .int h_doors, .ref h_wanted, .ref h_openers, .ref h_seconds, .int h_turned, .int h_roundMany, .ref h_roundDoors])), (h_openers, .inl (cA.1 0, 5, .inl c_h_openers))] := hD
  obtain ⟨he_r_1, hw⟩ := hw
  refine lv_iconst (v := 1) hx hb dX2_addOpener_10 (by decide) ?_
  refine lv_iload_n hx hb dX2_addOpener_11 rfl (lv_at hl 2 rfl) ?_
  refine lv_ishl hx hb dX2_addOpener_12 ?_
  refine lv_topi (fun x_4 he_x_4 => ?_)
  refine lv_ior hx hb dX2_addOpener_13 ?_
  refine lv_topi (fun x_5 he_x_5 => ?_)
  refine z_callSNv (As := [.ref h_openers, .int x, .int x_5]) (rest := []) (wr := [(h, .inr (2, [.int h_features, .ref h_featureNames, .ref h_steps, .ref h_turnedFeatures, .ref h_sixteenths, .int h_keys, .ref h_keySteps, .int h_lent, .int h_rings, .ref h_on, .ref h_onMany, .int h_doors, .ref h_wanted, .ref h_openers, .ref h_seconds, .int h_turned, .int h_roundMany, .ref h_roundDoors]))]) ⟨hx, hb, hml, hown, hts⟩ hK hE hT hP hD hS hA (d_keepAt_5 l G cA h_openers c_h_openers x x_5) lk_RX2_126 ⟨rfl, rfl⟩ ⟨Nat.le_of_ble_eq_true rfl, Nat.le_of_ble_eq_true rfl⟩ [1] [0] rfl rfl (by decide) rfl hl.1 rfl (lv_room (Nat.le_of_ble_eq_true rfl)) dX2_addOpener_14 ⟨Nat.le_of_ble_eq_true rfl, Nat.le_of_ble_eq_true rfl⟩ (fun u_8 H locs hw hP hD hS => ?_)
  obtain ⟨nw0_6, rfl⟩ : ∃ z, z = u_8 := ⟨_, rfl⟩
  have hP : va_P G vwCl [(h, .inr (2, [.int h_features, .ref h_featureNames, .ref h_steps, .ref h_turnedFeatures, .ref h_sixteenths, .int h_keys, .ref h_keySteps, .int h_lent, .int h_rings, .ref h_on, .ref h_onMany, .int h_doors, .ref h_wanted, .ref h_openers, .ref h_seconds, .int h_turned, .int h_roundMany, .ref h_roundDoors])), (h_openers, .inl (cA.1 0, 5, .inl nw0_6))] H := hP
  have hD : va_D A [(h, .inr (2, [.int h_features, .ref h_featureNames, .ref h_steps, .ref h_turnedFeatures, .ref h_sixteenths, .int h_keys, .ref h_keySteps, .int h_lent, .int h_rings, .ref h_on, .ref h_onMany, .int h_doors, .ref h_wanted, .ref h_openers, .ref h_seconds, .int h_turned, .int h_roundMany, .ref h_roundDoors])), (h_openers, .inl (cA.1 0, 5, .inl nw0_6))] := hD
  obtain ⟨he_nw0_6, hw⟩ := hw
  have hX_10 : F_H_addOpener h_doors c_h_openers x y = (nw0_6 : (Nat → Int32)) := by
    refine (F_H_addOpener_s ..).trans ?_
    extract_lets -merge -useContext +onlyGivenNames w9 y9; have e9 : r_1 = w9 := he_r_1; clear_value w9; subst e9
    try (extract_lets -merge -useContext +onlyGivenNames y9; have e9 : x_4 = y9 := (by first | exact he_x_4 | exact he_x_4.symm); clear_value y9; subst e9)
    try (extract_lets -merge -useContext +onlyGivenNames y9; have e9 : x_5 = y9 := (by first | exact he_x_5 | exact he_x_5.symm); clear_value y9; subst e9)
    extract_lets -merge -useContext +onlyGivenNames w9 y9; have e9 : nw0_6 = w9 := he_nw0_6; clear_value w9; subst e9
    exact rfl
  exact hret _ _ _ _ _ nw0_6 [0, 1] hP hD hS rfl (by decide) dX2_addOpener_17 ⟨(congrArg (fun z9 => z9) hX_10).symm, trivial⟩
set_option maxHeartbeats 40000000 in
set_option maxRecDepth 100000 in
theorem d_H_addToRound (l : Launch) (G : va_G) (cA : zCA) (h : Nat) (h_features : Int32) (h_featureNames : Nat) (h_steps : Nat) (h_turnedFeatures : Nat) (h_sixteenths : Nat) (h_keys : Int32) (h_keySteps : Nat) (h_lent : Int32) (h_rings : Int32) (h_on : Nat) (h_onMany : Nat) (h_doors : Int32) (h_wanted : Nat) (h_openers : Nat) (h_seconds : Nat) (h_turned : Int32) (h_roundMany : Int32) (h_roundDoors : Nat) (c_h_roundDoors : Nat → Int32) (x : Int32) (hm_h_features : 0 ≤ h_features.toInt ∧ h_features.toInt ≤ 3) : zCv l yX2_addToRound cX2_addToRound 2 none ({ frames := 1, cells := 0, slots := 0, locals := 22 }) G cA [.ref h, .int x] [(h, .inr (2, [.int h_features, .ref h_featureNames, .ref h_steps, .ref h_turnedFeatures, .ref h_sixteenths, .int h_keys, .ref h_keySteps, .int h_lent, .int h_rings, .ref h_on, .ref h_onMany, .int h_doors, .ref h_wanted, .ref h_openers, .ref h_seconds, .int h_turned, .int h_roundMany, .ref h_roundDoors])), (h_roundDoors, .inl (cA.1 0, 12, .inl c_h_roundDoors))] (S := Int32 × (Nat → Int32)) (fun (u : Int32 × (Nat → Int32)) => (u.1 = (F_H_addToRound h_roundMany c_h_roundDoors x).1) ∧ (u.2 = (F_H_addToRound h_roundMany c_h_roundDoors x).2) ∧ (True)) (fun (u : Int32 × (Nat → Int32)) => [(h, .inr (2, [.int h_features, .ref h_featureNames, .ref h_steps, .ref h_turnedFeatures, .ref h_sixteenths, .int h_keys, .ref h_keySteps, .int h_lent, .int h_rings, .ref h_on, .ref h_onMany, .int h_doors, .ref h_wanted, .ref h_openers, .ref h_seconds, .int h_turned, .int u.1, .ref h_roundDoors])), (h_roundDoors, .inl (cA.1 0, 12, .inl u.2))]) 0 0 := by
  refine z_start2v (own := RX2) (by decide) (Nat.le_of_ble_eq_true rfl) rfl ?_
  intro p e s m args below meth c A ls Q hx hb hml hts hown hK hE hT hP hD hS hA hl hret
  have hl : lv_has ls 2 [(0, .ref h), (1, .int x)] := hl
  refine lv_aload_n hx hb dX2_addToRound_0 rfl (lv_at hl 0 rfl) ?_
  refine va_get (D := G) (ci := 2) (v := .ref h_roundDoors) (C := RX2) (T := TX2) (N := 18) hx hb hts inT2 hown hK hP 0 rfl rfl 17 (by decide) (hts _ tw_301) (fun _ h9 => h9) rfl dX2_addToRound_1 ?_
  refine lv_aload_n hx hb dX2_addToRound_4 rfl (lv_at hl 0 rfl) ?_
  refine va_get (D := G) (ci := 2) (v := .int h_roundMany) (C := RX2) (T := TX2) (N := 18) hx hb hts inT2 hown hK hP 0 rfl rfl 16 (by decide) (hts _ tw_297) (fun _ h9 => h9) rfl dX2_addToRound_5 ?_
  refine lv_iload_n hx hb dX2_addToRound_8 rfl (lv_at hl 1 rfl) ?_
  refine z_callSNv (As := [.ref h_roundDoors, .int h_roundMany, .int x]) (rest := []) (wr := [(h, .inr (2, [.int h_features, .ref h_featureNames, .ref h_steps, .ref h_turnedFeatures, .ref h_sixteenths, .int h_keys, .ref h_keySteps, .int h_lent, .int h_rings, .ref h_on, .ref h_onMany, .int h_doors, .ref h_wanted, .ref h_openers, .ref h_seconds, .int h_turned, .int h_roundMany, .ref h_roundDoors]))]) ⟨hx, hb, hml, hown, hts⟩ hK hE hT hP hD hS hA (d_keepAt_12 l G cA h_roundDoors c_h_roundDoors h_roundMany x) lk_RX2_126 ⟨rfl, rfl⟩ ⟨Nat.le_of_ble_eq_true rfl, Nat.le_of_ble_eq_true rfl⟩ [1] [0] rfl rfl (by decide) rfl hl.1 rfl (lv_room (Nat.le_of_ble_eq_true rfl)) dX2_addToRound_9 ⟨Nat.le_of_ble_eq_true rfl, Nat.le_of_ble_eq_true rfl⟩ (fun u_3 H locs hw hP hD hS => ?_)
  obtain ⟨nw0_1, rfl⟩ : ∃ z, z = u_3 := ⟨_, rfl⟩
  have hP : va_P G vwCl [(h, .inr (2, [.int h_features, .ref h_featureNames, .ref h_steps, .ref h_turnedFeatures, .ref h_sixteenths, .int h_keys, .ref h_keySteps, .int h_lent, .int h_rings, .ref h_on, .ref h_onMany, .int h_doors, .ref h_wanted, .ref h_openers, .ref h_seconds, .int h_turned, .int h_roundMany, .ref h_roundDoors])), (h_roundDoors, .inl (cA.1 0, 12, .inl nw0_1))] H := hP
  have hD : va_D A [(h, .inr (2, [.int h_features, .ref h_featureNames, .ref h_steps, .ref h_turnedFeatures, .ref h_sixteenths, .int h_keys, .ref h_keySteps, .int h_lent, .int h_rings, .ref h_on, .ref h_onMany, .int h_doors, .ref h_wanted, .ref h_openers, .ref h_seconds, .int h_turned, .int h_roundMany, .ref h_roundDoors])), (h_roundDoors, .inl (cA.1 0, 12, .inl nw0_1))] := hD
  obtain ⟨he_nw0_1, hw⟩ := hw
  refine lv_aload_n hx hb dX2_addToRound_12 rfl (lv_at hl 0 rfl) ?_
  refine lv_dup hx hb dX2_addToRound_13 rfl ?_
  refine va_get (D := G) (ci := 2) (v := .int h_roundMany) (C := RX2) (T := TX2) (N := 18) hx hb hts inT2 hown hK hP 0 rfl rfl 16 (by decide) (hts _ tw_297) (fun _ h9 => h9) rfl dX2_addToRound_14 ?_
  refine lv_iconst (v := 1) hx hb dX2_addToRound_17 (by decide) ?_
  refine lv_iadd hx hb dX2_addToRound_18 ?_
  refine va_put (D := G) (ci := 2) (v := .int (h_roundMany + 1)) (ty := .int) (C := RX2) (T := TX2) (N := 18) hx hb hts inT2 tyX2 tyX2_ok nmX2 hown hK hP hD hS 0 rfl rfl 16 (by decide) (hts _ tw_297) (fun _ h9 => h9) rfl (tyX2_ok 16 (by decide)) rfl rfl (Nat.le_of_ble_eq_true rfl) dX2_addToRound_19 (fun H locs hP hD hS => ?_)
  have hP : va_P G vwCl [(h, .inr (2, [.int h_features, .ref h_featureNames, .ref h_steps, .ref h_turnedFeatures, .ref h_sixteenths, .int h_keys, .ref h_keySteps, .int h_lent, .int h_rings, .ref h_on, .ref h_onMany, .int h_doors, .ref h_wanted, .ref h_openers, .ref h_seconds, .int h_turned, .int (h_roundMany + 1), .ref h_roundDoors])), (h_roundDoors, .inl (cA.1 0, 12, .inl nw0_1))] H := hP
  have hD : va_D A [(h, .inr (2, [.int h_features, .ref h_featureNames, .ref h_steps, .ref h_turnedFeatures, .ref h_sixteenths, .int h_keys, .ref h_keySteps, .int h_lent, .int h_rings, .ref h_on, .ref h_onMany, .int h_doors, .ref h_wanted, .ref h_openers, .ref h_seconds, .int h_turned, .int (h_roundMany + 1), .ref h_roundDoors])), (h_roundDoors, .inl (cA.1 0, 12, .inl nw0_1))] := hD
  have hX_5 : F_H_addToRound h_roundMany c_h_roundDoors x = (((h_roundMany + 1), nw0_1) : Int32 × (Nat → Int32)) := by
    refine (F_H_addToRound_s ..).trans ?_
    extract_lets -merge -useContext +onlyGivenNames w9 y9; have e9 : nw0_1 = w9 := he_nw0_1; clear_value w9; subst e9
    exact rfl
  exact hret _ _ _ _ _ ((h_roundMany + 1), nw0_1) [0, 1] hP hD hS rfl (by decide) dX2_addToRound_22 ⟨(congrArg (fun z9 => z9.1) hX_5).symm, (congrArg (fun z9 => z9.2) hX_5).symm, trivial⟩
set_option maxHeartbeats 40000000 in
set_option maxRecDepth 100000 in
theorem d_H_layAt (l : Launch) (G : va_G) (cA : zCA) (h : Nat) (h_features : Int32) (h_featureNames : Nat) (h_steps : Nat) (h_turnedFeatures : Nat) (h_sixteenths : Nat) (h_keys : Int32) (h_keySteps : Nat) (h_lent : Int32) (h_rings : Int32) (h_on : Nat) (h_onMany : Nat) (h_doors : Int32) (h_wanted : Nat) (h_openers : Nat) (h_seconds : Nat) (h_turned : Int32) (h_roundMany : Int32) (h_roundDoors : Nat) (c_h_on : Nat → Int32) (c_h_onMany : Nat → Int32) (x : Int32) (y : Int32) (k : Int32) (hm_h_features : 0 ≤ h_features.toInt ∧ h_features.toInt ≤ 3) (hO_c_h_onMany : zOM c_h_onMany) : zCv l yX2_layAt cX2_layAt 4 none ({ frames := 2, cells := 0, slots := 0, locals := 42 }) G cA [.ref h, .int x, .int y, .int k] [(h, .inr (2, [.int h_features, .ref h_featureNames, .ref h_steps, .ref h_turnedFeatures, .ref h_sixteenths, .int h_keys, .ref h_keySteps, .int h_lent, .int h_rings, .ref h_on, .ref h_onMany, .int h_doors, .ref h_wanted, .ref h_openers, .ref h_seconds, .int h_turned, .int h_roundMany, .ref h_roundDoors])), (h_on, .inl (cA.1 0, 30, .inl c_h_on)), (h_onMany, .inl (cA.1 0, 3, .inl c_h_onMany))] (S := (Nat → Int32)) (fun (u : (Nat → Int32)) => (u = (F_H_layAt h_rings c_h_on c_h_onMany x y k)) ∧ (True)) (fun (u : (Nat → Int32)) => [(h, .inr (2, [.int h_features, .ref h_featureNames, .ref h_steps, .ref h_turnedFeatures, .ref h_sixteenths, .int h_keys, .ref h_keySteps, .int h_lent, .int h_rings, .ref h_on, .ref h_onMany, .int h_doors, .ref h_wanted, .ref h_openers, .ref h_seconds, .int h_turned, .int h_roundMany, .ref h_roundDoors])), (h_on, .inl (cA.1 0, 30, .inl u)), (h_onMany, .inl (cA.1 0, 3, .inl c_h_onMany))]) 0 0 := by
  refine z_start2v (own := RX2) (by decide) (Nat.le_of_ble_eq_true rfl) rfl ?_
  intro p e s m args below meth c A ls Q hx hb hml hts hown hK hE hT hP hD hS hA hl hret
  have hl : lv_has ls 4 [(0, .ref h), (1, .int x), (2, .int y), (3, .int k)] := hl
  refine lv_iload_n hx hb dX2_layAt_0 rfl (lv_at hl 2 rfl) ?_
  refine lv_if_lt (tgt := 27) hx hb dX2_layAt_1 (by decide) (fun c_1 => ?_) (fun c_1 => ?_)
  · have b_2 := z_b3 c_1 (K := 0) (by decide +kernel)
    have hX_3 : F_H_layAt h_rings c_h_on c_h_onMany x y k = (c_h_on : (Nat → Int32)) := by
      refine (F_H_layAt_s ..).trans ?_
      refine (if_pos c_1).trans ?_
      exact rfl
    exact hret _ _ _ _ _ c_h_on [0, 1, 2] hP hD hS rfl (by decide) dX2_layAt_27 ⟨(congrArg (fun z9 => z9) hX_3).symm, trivial⟩
  · have b_4 := z_b4 c_1 (K := 0) (by decide +kernel)
    refine lv_iload_n hx hb dX2_layAt_4 rfl (lv_at hl 2 rfl) ?_
    refine lv_aload_n hx hb dX2_layAt_5 rfl (lv_at hl 0 rfl) ?_
    refine lv_iload_n hx hb dX2_layAt_6 rfl (lv_at hl 1 rfl) ?_
    refine z_callVi (As := [.int x]) (rest := [.int y]) (wr := [(h_on, .inl (cA.1 0, 30, .inl c_h_on))]) ⟨hx, hb, hml, hown, hts⟩ hK hE hT hP hD hS hA (d_H_manyOn l G cA h h_features h_featureNames h_steps h_turnedFeatures h_sixteenths h_keys h_keySteps h_lent h_rings h_on h_onMany h_doors h_wanted h_openers h_seconds h_turned h_roundMany h_roundDoors c_h_onMany x (by omega) hO_c_h_onMany) lk_RX2_113 ⟨rfl, rfl⟩ ⟨Nat.le_of_ble_eq_true rfl, Nat.le_of_ble_eq_true rfl⟩ 2 rfl rfl rfl [0, 2] [1] rfl rfl (by decide) rfl hl.1 rfl (lv_room (Nat.le_of_ble_eq_true rfl)) dX2_layAt_7 ⟨Nat.le_of_ble_eq_true rfl, Nat.le_of_ble_eq_true rfl⟩ (fun r_5 u_6 H locs hw hP hD hS => ?_)
    have hP : va_P G vwCl [(h_on, .inl (cA.1 0, 30, .inl c_h_on)), (h, .inr (2, [.int h_features, .ref h_featureNames, .ref h_steps, .ref h_turnedFeatures, .ref h_sixteenths, .int h_keys, .ref h_keySteps, .int h_lent, .int h_rings, .ref h_on, .ref h_onMany, .int h_doors, .ref h_wanted, .ref h_openers, .ref h_seconds, .int h_turned, .int h_roundMany, .ref h_roundDoors])), (h_onMany, .inl (cA.1 0, 3, .inl c_h_onMany))] H := hP
    have hD : va_D A [(h_on, .inl (cA.1 0, 30, .inl c_h_on)), (h, .inr (2, [.int h_features, .ref h_featureNames, .ref h_steps, .ref h_turnedFeatures, .ref h_sixteenths, .int h_keys, .ref h_keySteps, .int h_lent, .int h_rings, .ref h_on, .ref h_onMany, .int h_doors, .ref h_wanted, .ref h_openers, .ref h_seconds, .int h_turned, .int h_roundMany, .ref h_roundDoors])), (h_onMany, .inl (cA.1 0, 3, .inl c_h_onMany))] := hD
    obtain ⟨he_r_5, hw⟩ := hw
    have hx_r_5 := hw
    refine lv_icmp_ge (tgt := 27) hx hb dX2_layAt_10 (by decide) (fun c_8 => ?_) (fun c_8 => ?_)
    · have b_9 := z_s1 c_8
      have hX_10 : F_H_layAt h_rings c_h_on c_h_onMany x y k = (c_h_on : (Nat → Int32)) := by
        refine (F_H_layAt_s ..).trans ?_
        refine (if_neg c_1).trans ?_
        extract_lets -merge -useContext +onlyGivenNames w9 y9; have e9 : r_5 = w9 := he_r_5; clear_value w9; subst e9
        refine (if_pos c_8).trans ?_
        exact rfl
      exact hret _ _ _ _ _ c_h_on [1, 0, 2] hP hD hS rfl (by decide) dX2_layAt_27 ⟨(congrArg (fun z9 => z9) hX_10).symm, trivial⟩
    · have b_11 := z_t2 c_8
      refine lv_aload_n hx hb dX2_layAt_13 rfl (lv_at hl 0 rfl) ?_
      refine va_get (D := G) (ci := 2) (v := .ref h_on) (C := RX2) (T := TX2) (N := 18) hx hb hts inT2 hown hK hP 1 rfl rfl 9 (by decide) (hts _ tw_283) (fun _ h9 => h9) rfl dX2_layAt_14 ?_
      refine lv_iload_n hx hb dX2_layAt_17 rfl (lv_at hl 1 rfl) ?_
      refine lv_bipush (v := 10) hx hb dX2_layAt_18 (by decide) ?_
      refine lv_imul hx hb dX2_layAt_20 ?_
      refine lv_topi (fun x_12 he_x_12 => ?_)
      refine lv_iload_n hx hb dX2_layAt_21 rfl (lv_at hl 2 rfl) ?_
      refine lv_iadd hx hb dX2_layAt_22 ?_
      refine lv_topi (fun x_13 he_x_13 => ?_)
      refine lv_iload_n hx hb dX2_layAt_23 rfl (lv_at hl 3 rfl) ?_
      refine z_callSNv (As := [.ref h_on, .int x_13, .int k]) (rest := []) (wr := [(h, .inr (2, [.int h_features, .ref h_featureNames, .ref h_steps, .ref h_turnedFeatures, .ref h_sixteenths, .int h_keys, .ref h_keySteps, .int h_lent, .int h_rings, .ref h_on, .ref h_onMany, .int h_doors, .ref h_wanted, .ref h_openers, .ref h_seconds, .int h_turned, .int h_roundMany, .ref h_roundDoors])), (h_onMany, .inl (cA.1 0, 3, .inl c_h_onMany))]) ⟨hx, hb, hml, hown, hts⟩ hK hE hT hP hD hS hA (d_keepAt_30 l G cA h_on c_h_on x_13 k) lk_RX2_126 ⟨rfl, rfl⟩ ⟨Nat.le_of_ble_eq_true rfl, Nat.le_of_ble_eq_true rfl⟩ [0] [1, 2] rfl rfl (by decide) rfl hl.1 rfl (lv_room (Nat.le_of_ble_eq_true rfl)) dX2_layAt_24 ⟨Nat.le_of_ble_eq_true rfl, Nat.le_of_ble_eq_true rfl⟩ (fun u_16 H locs hw hP hD hS => ?_)
      obtain ⟨nw0_14, rfl⟩ : ∃ z, z = u_16 := ⟨_, rfl⟩
      have hP : va_P G vwCl [(h, .inr (2, [.int h_features, .ref h_featureNames, .ref h_steps, .ref h_turnedFeatures, .ref h_sixteenths, .int h_keys, .ref h_keySteps, .int h_lent, .int h_rings, .ref h_on, .ref h_onMany, .int h_doors, .ref h_wanted, .ref h_openers, .ref h_seconds, .int h_turned, .int h_roundMany, .ref h_roundDoors])), (h_onMany, .inl (cA.1 0, 3, .inl c_h_onMany)), (h_on, .inl (cA.1 0, 30, .inl nw0_14))] H := hP
      have hD : va_D A [(h, .inr (2, [.int h_features, .ref h_featureNames, .ref h_steps, .ref h_turnedFeatures, .ref h_sixteenths, .int h_keys, .ref h_keySteps, .int h_lent, .int h_rings, .ref h_on, .ref h_onMany, .int h_doors, .ref h_wanted, .ref h_openers, .ref h_seconds, .int h_turned, .int h_roundMany, .ref h_roundDoors])), (h_onMany, .inl (cA.1 0, 3, .inl c_h_onMany)), (h_on, .inl (cA.1 0, 30, .inl nw0_14))] := hD
      obtain ⟨he_nw0_14, hw⟩ := hw
      have hX_18 : F_H_layAt h_rings c_h_on c_h_onMany x y k = (nw0_14 : (Nat → Int32)) := by
        refine (F_H_layAt_s ..).trans ?_
        refine (if_neg c_1).trans ?_
        extract_lets -merge -useContext +onlyGivenNames w9 y9; have e9 : r_5 = w9 := he_r_5; clear_value w9; subst e9
        refine (if_neg c_8).trans ?_
        try (extract_lets -merge -useContext +onlyGivenNames y9; have e9 : x_12 = y9 := (by first | exact he_x_12 | exact he_x_12.symm); clear_value y9; subst e9)
        try (extract_lets -merge -useContext +onlyGivenNames y9; have e9 : x_13 = y9 := (by first | exact he_x_13 | exact he_x_13.symm); clear_value y9; subst e9)
        extract_lets -merge -useContext +onlyGivenNames w9 y9; have e9 : nw0_14 = w9 := he_nw0_14; clear_value w9; subst e9
        exact rfl
      exact hret _ _ _ _ _ nw0_14 [0, 2, 1] hP hD hS rfl (by decide) dX2_layAt_27 ⟨(congrArg (fun z9 => z9) hX_18).symm, trivial⟩
set_option maxHeartbeats 40000000 in
set_option maxRecDepth 100000 in
theorem d_H_putOn (l : Launch) (G : va_G) (cA : zCA) (h : Nat) (h_features : Int32) (h_featureNames : Nat) (h_steps : Nat) (h_turnedFeatures : Nat) (h_sixteenths : Nat) (h_keys : Int32) (h_keySteps : Nat) (h_lent : Int32) (h_rings : Int32) (h_on : Nat) (h_onMany : Nat) (h_doors : Int32) (h_wanted : Nat) (h_openers : Nat) (h_seconds : Nat) (h_turned : Int32) (h_roundMany : Int32) (h_roundDoors : Nat) (c_h_on : Nat → Int32) (c_h_onMany : Nat → Int32) (x : Int32) (y : Int32) (k : Int32) (hm_h_features : 0 ≤ h_features.toInt ∧ h_features.toInt ≤ 3) (hO_c_h_onMany : zOM c_h_onMany) : zCv l yX2_putOn cX2_putOn 6 none ({ frames := 3, cells := 0, slots := 0, locals := 65 }) G cA [.ref h, .int x, .int y, .int k] [(h, .inr (2, [.int h_features, .ref h_featureNames, .ref h_steps, .ref h_turnedFeatures, .ref h_sixteenths, .int h_keys, .ref h_keySteps, .int h_lent, .int h_rings, .ref h_on, .ref h_onMany, .int h_doors, .ref h_wanted, .ref h_openers, .ref h_seconds, .int h_turned, .int h_roundMany, .ref h_roundDoors])), (h_on, .inl (cA.1 0, 30, .inl c_h_on)), (h_onMany, .inl (cA.1 0, 3, .inl c_h_onMany))] (S := (Nat → Int32) × (Nat → Int32)) (fun (u : (Nat → Int32) × (Nat → Int32)) => (u.1 = (F_H_putOn h_rings c_h_on c_h_onMany x y k).1) ∧ (u.2 = (F_H_putOn h_rings c_h_on c_h_onMany x y k).2) ∧ (zOM u.2)) (fun (u : (Nat → Int32) × (Nat → Int32)) => [(h, .inr (2, [.int h_features, .ref h_featureNames, .ref h_steps, .ref h_turnedFeatures, .ref h_sixteenths, .int h_keys, .ref h_keySteps, .int h_lent, .int h_rings, .ref h_on, .ref h_onMany, .int h_doors, .ref h_wanted, .ref h_openers, .ref h_seconds, .int h_turned, .int h_roundMany, .ref h_roundDoors])), (h_on, .inl (cA.1 0, 30, .inl u.1)), (h_onMany, .inl (cA.1 0, 3, .inl u.2))]) 0 0 := by
  refine z_start2v (own := RX2) (by decide) (Nat.le_of_ble_eq_true rfl) rfl ?_
  intro p e s m args below meth c A ls Q hx hb hml hts hown hK hE hT hP hD hS hA hl hret
  have hl : lv_has ls 6 [(0, .ref h), (1, .int x), (2, .int y), (3, .int k)] := hl
  refine lv_aload_n hx hb dX2_putOn_0 rfl (lv_at hl 0 rfl) ?_
  refine lv_iload_n hx hb dX2_putOn_1 rfl (lv_at hl 2 rfl) ?_
  refine z_callVi (As := [.int y]) (rest := []) (wr := [(h_on, .inl (cA.1 0, 30, .inl c_h_on))]) ⟨hx, hb, hml, hown, hts⟩ hK hE hT hP hD hS hA (d_H_manyOn l G cA h h_features h_featureNames h_steps h_turnedFeatures h_sixteenths h_keys h_keySteps h_lent h_rings h_on h_onMany h_doors h_wanted h_openers h_seconds h_turned h_roundMany h_roundDoors c_h_onMany y (by omega) hO_c_h_onMany) lk_RX2_113 ⟨rfl, rfl⟩ ⟨Nat.le_of_ble_eq_true rfl, Nat.le_of_ble_eq_true rfl⟩ 2 rfl rfl rfl [0, 2] [1] rfl rfl (by decide) rfl hl.1 rfl (lv_room (Nat.le_of_ble_eq_true rfl)) dX2_putOn_2 ⟨Nat.le_of_ble_eq_true rfl, Nat.le_of_ble_eq_true rfl⟩ (fun r_1 u_2 H locs hw hP hD hS => ?_)
  have hP : va_P G vwCl [(h_on, .inl (cA.1 0, 30, .inl c_h_on)), (h, .inr (2, [.int h_features, .ref h_featureNames, .ref h_steps, .ref h_turnedFeatures, .ref h_sixteenths, .int h_keys, .ref h_keySteps, .int h_lent, .int h_rings, .ref h_on, .ref h_onMany, .int h_doors, .ref h_wanted, .ref h_openers, .ref h_seconds, .int h_turned, .int h_roundMany, .ref h_roundDoors])), (h_onMany, .inl (cA.1 0, 3, .inl c_h_onMany))] H := hP
  have hD : va_D A [(h_on, .inl (cA.1 0, 30, .inl c_h_on)), (h, .inr (2, [.int h_features, .ref h_featureNames, .ref h_steps, .ref h_turnedFeatures, .ref h_sixteenths, .int h_keys, .ref h_keySteps, .int h_lent, .int h_rings, .ref h_on, .ref h_onMany, .int h_doors, .ref h_wanted, .ref h_openers, .ref h_seconds, .int h_turned, .int h_roundMany, .ref h_roundDoors])), (h_onMany, .inl (cA.1 0, 3, .inl c_h_onMany))] := hD
  obtain ⟨he_r_1, hw⟩ := hw
  have hx_r_1 := hw
  refine lv_istore (lv' := [(4, .int r_1), (0, .ref h), (1, .int x), (2, .int y), (3, .int k)]) hx hb dX2_putOn_5 hl (by decide) rfl (fun ls hl => ?_)
  refine lv_aload_n hx hb dX2_putOn_7 rfl (lv_at hl 1 rfl) ?_
  refine lv_iload_n hx hb dX2_putOn_8 rfl (lv_at hl 3 rfl) ?_
  refine z_callVi (As := [.int y]) (rest := []) (wr := [(h_on, .inl (cA.1 0, 30, .inl c_h_on)), (h_onMany, .inl (cA.1 0, 3, .inl c_h_onMany))]) ⟨hx, hb, hml, hown, hts⟩ hK hE hT hP hD hS hA (d_H_hasRing l G cA h h_features h_featureNames h_steps h_turnedFeatures h_sixteenths h_keys h_keySteps h_lent h_rings h_on h_onMany h_doors h_wanted h_openers h_seconds h_turned h_roundMany h_roundDoors y (by omega)) lk_RX2_110 ⟨rfl, rfl⟩ ⟨Nat.le_of_ble_eq_true rfl, Nat.le_of_ble_eq_true rfl⟩ 2 rfl rfl rfl [1] [0, 2] rfl rfl (by decide) rfl hl.1 rfl (lv_room (Nat.le_of_ble_eq_true rfl)) dX2_putOn_9 ⟨Nat.le_of_ble_eq_true rfl, Nat.le_of_ble_eq_true rfl⟩ (fun r_4 u_5 H locs hw hP hD hS => ?_)
  have hP : va_P G vwCl [(h_on, .inl (cA.1 0, 30, .inl c_h_on)), (h_onMany, .inl (cA.1 0, 3, .inl c_h_onMany)), (h, .inr (2, [.int h_features, .ref h_featureNames, .ref h_steps, .ref h_turnedFeatures, .ref h_sixteenths, .int h_keys, .ref h_keySteps, .int h_lent, .int h_rings, .ref h_on, .ref h_onMany, .int h_doors, .ref h_wanted, .ref h_openers, .ref h_seconds, .int h_turned, .int h_roundMany, .ref h_roundDoors]))] H := hP
  have hD : va_D A [(h_on, .inl (cA.1 0, 30, .inl c_h_on)), (h_onMany, .inl (cA.1 0, 3, .inl c_h_onMany)), (h, .inr (2, [.int h_features, .ref h_featureNames, .ref h_steps, .ref h_turnedFeatures, .ref h_sixteenths, .int h_keys, .ref h_keySteps, .int h_lent, .int h_rings, .ref h_on, .ref h_onMany, .int h_doors, .ref h_wanted, .ref h_openers, .ref h_seconds, .int h_turned, .int h_roundMany, .ref h_roundDoors]))] := hD
  obtain ⟨he_r_4, hw⟩ := hw
  obtain ⟨hx_r_4, hz_r_4⟩ := hw
  refine lv_if_eq (tgt := 22) hx hb dX2_putOn_12 (by decide) (fun c_7 => ?_) (fun c_7 => ?_)
  · skip
    have hX_9 : F_H_putOn h_rings c_h_on c_h_onMany x y k = ((c_h_on, c_h_onMany) : (Nat → Int32) × (Nat → Int32)) := by
      refine (F_H_putOn_s ..).trans ?_
      extract_lets -merge -useContext +onlyGivenNames w9 y9; have e9 : r_1 = w9 := he_r_1; clear_value w9; subst e9
      extract_lets -merge -useContext +onlyGivenNames w9 y9; have e9 : r_4 = w9 := he_r_4; clear_value w9; subst e9
      refine (if_pos c_7).trans ?_
      exact rfl
    exact hret _ _ _ _ _ (c_h_on, c_h_onMany) [2, 0, 1] hP hD hS rfl (by decide) dX2_putOn_22 ⟨(congrArg (fun z9 => z9.1) hX_9).symm, (congrArg (fun z9 => z9.2) hX_9).symm, hO_c_h_onMany⟩
  · skip
    refine lv_iload hx hb dX2_putOn_15 (lv_at hl 0 rfl) ?_
    refine lv_bipush (v := 10) hx hb dX2_putOn_17 (by decide) ?_
    refine lv_icmp_lt (tgt := 23) hx hb dX2_putOn_19 (by decide) (fun c_11 => ?_) (fun c_11 => ?_)
    · have b_12 := z_b3 c_11 (K := 10) (by decide +kernel)
      refine lv_aload_n hx hb dX2_putOn_23 rfl (lv_at hl 1 rfl) ?_
      refine va_get (D := G) (ci := 2) (v := .ref h_onMany) (C := RX2) (T := TX2) (N := 18) hx hb hts inT2 hown hK hP 2 rfl rfl 10 (by decide) (hts _ tw_284) (fun _ h9 => h9) rfl dX2_putOn_24 ?_
      refine lv_iload_n hx hb dX2_putOn_27 rfl (lv_at hl 3 rfl) ?_
      refine lv_iload hx hb dX2_putOn_28 (lv_at hl 0 rfl) ?_
      refine lv_iconst (v := 1) hx hb dX2_putOn_30 (by decide) ?_
      refine lv_iadd hx hb dX2_putOn_31 ?_
      refine z_callSNv (As := [.ref h_onMany, .int y, .int (r_1 + 1)]) (rest := []) (wr := [(h_on, .inl (cA.1 0, 30, .inl c_h_on)), (h, .inr (2, [.int h_features, .ref h_featureNames, .ref h_steps, .ref h_turnedFeatures, .ref h_sixteenths, .int h_keys, .ref h_keySteps, .int h_lent, .int h_rings, .ref h_on, .ref h_onMany, .int h_doors, .ref h_wanted, .ref h_openers, .ref h_seconds, .int h_turned, .int h_roundMany, .ref h_roundDoors]))]) ⟨hx, hb, hml, hown, hts⟩ hK hE hT hP hD hS hA (d_keepAt_3 l G cA h_onMany c_h_onMany y (r_1 + 1)) lk_RX2_126 ⟨rfl, rfl⟩ ⟨Nat.le_of_ble_eq_true rfl, Nat.le_of_ble_eq_true rfl⟩ [1] [0, 2] rfl rfl (by decide) rfl hl.1 rfl (lv_room (Nat.le_of_ble_eq_true rfl)) dX2_putOn_32 ⟨Nat.le_of_ble_eq_true rfl, Nat.le_of_ble_eq_true rfl⟩ (fun u_15 H locs hw hP hD hS => ?_)
      obtain ⟨nw0_13, rfl⟩ : ∃ z, z = u_15 := ⟨_, rfl⟩
      have hP : va_P G vwCl [(h_on, .inl (cA.1 0, 30, .inl c_h_on)), (h, .inr (2, [.int h_features, .ref h_featureNames, .ref h_steps, .ref h_turnedFeatures, .ref h_sixteenths, .int h_keys, .ref h_keySteps, .int h_lent, .int h_rings, .ref h_on, .ref h_onMany, .int h_doors, .ref h_wanted, .ref h_openers, .ref h_seconds, .int h_turned, .int h_roundMany, .ref h_roundDoors])), (h_onMany, .inl (cA.1 0, 3, .inl nw0_13))] H := hP
      have hD : va_D A [(h_on, .inl (cA.1 0, 30, .inl c_h_on)), (h, .inr (2, [.int h_features, .ref h_featureNames, .ref h_steps, .ref h_turnedFeatures, .ref h_sixteenths, .int h_keys, .ref h_keySteps, .int h_lent, .int h_rings, .ref h_on, .ref h_onMany, .int h_doors, .ref h_wanted, .ref h_openers, .ref h_seconds, .int h_turned, .int h_roundMany, .ref h_roundDoors])), (h_onMany, .inl (cA.1 0, 3, .inl nw0_13))] := hD
      obtain ⟨he_nw0_13, hw⟩ := hw
      have hx_nw0_13 := hw
      have hv_nw0_13 : (r_1 + 1).toInt = r_1.toInt + 1 := z_addI (K := 1) (by decide +kernel) (by omega) (by omega)
      have hO_nw0_13 := zOM_keep hO_c_h_onMany hx_nw0_13 (by omega)
      refine lv_iload hx hb dX2_putOn_35 (lv_at hl 0 rfl) ?_
      refine lv_istore (lv' := [(5, .int r_1), (4, .int r_1), (0, .ref h), (1, .int x), (2, .int y), (3, .int k)]) hx hb dX2_putOn_37 hl (by decide) rfl (fun ls hl => ?_)
      have hlp_55 : ∀ (n_L39a : Nat) (v_39 : Int32) (g_40 : Nat → Int32) (H : Heap) (locs : List Loc) (ls : Array Slot), (v_39.toInt + 2147483648).toNat < n_L39a → (F_H_putOn h_rings c_h_on c_h_onMany x y k = F_H_putOn_L39a h_rings x y k nw0_13 n_L39a v_39 g_40) → va_P G vwCl [(h_on, .inl (cA.1 0, 30, .inl g_40)), (h, .inr (2, [.int h_features, .ref h_featureNames, .ref h_steps, .ref h_turnedFeatures, .ref h_sixteenths, .int h_keys, .ref h_keySteps, .int h_lent, .int h_rings, .ref h_on, .ref h_onMany, .int h_doors, .ref h_wanted, .ref h_openers, .ref h_seconds, .int h_turned, .int h_roundMany, .ref h_roundDoors])), (h_onMany, .inl (cA.1 0, 3, .inl nw0_13))] H → va_D A [(h_on, .inl (cA.1 0, 30, .inl g_40)), (h, .inr (2, [.int h_features, .ref h_featureNames, .ref h_steps, .ref h_turnedFeatures, .ref h_sixteenths, .int h_keys, .ref h_keySteps, .int h_lent, .int h_rings, .ref h_on, .ref h_onMany, .int h_doors, .ref h_wanted, .ref h_openers, .ref h_seconds, .int h_turned, .int h_roundMany, .ref h_roundDoors])), (h_onMany, .inl (cA.1 0, 3, .inl nw0_13))] → va_S A s.heap H locs → lv_has ls 6 [(0, .ref h), (1, .int x), (2, .int y), (3, .int k), (4, .int r_1), (5, .int v_39)] → W p l e ({ frames := 3, cells := 0, slots := 0, locals := 65 }) s m args below meth c H locs 0 0 Q (F0 m 39 ls []) := by
        intro n_L39a
        induction n_L39a with
        | zero =>
          intro v_39 g_40 H locs ls hmu_hlp_55 hF_L39a hP hD hS hl
          exact absurd hmu_hlp_55 (Nat.not_lt_zero _)
        | succ n_L39a ih_56 =>
          intro v_39 g_40 H locs ls hmu_hlp_55 hF_L39a hP hD hS hl
          refine lv_iload hx hb dX2_putOn_39 (lv_at hl 5 rfl) ?_
          refine lv_iload_n hx hb dX2_putOn_41 rfl (lv_at hl 3 rfl) ?_
          refine lv_icmp_le (tgt := 67) hx hb dX2_putOn_42 (by decide) (fun c_57 => ?_) (fun c_57 => ?_)
          · have b_58 := z_s5 c_57
            refine lv_aload_n hx hb dX2_putOn_67 rfl (lv_at hl 0 rfl) ?_
            refine lv_iload_n hx hb dX2_putOn_68 rfl (lv_at hl 2 rfl) ?_
            refine lv_iload_n hx hb dX2_putOn_69 rfl (lv_at hl 3 rfl) ?_
            refine lv_iload_n hx hb dX2_putOn_70 rfl (lv_at hl 1 rfl) ?_
            refine z_callVv (As := [.int y, .int k, .int x]) (rest := []) (wr := []) ⟨hx, hb, hml, hown, hts⟩ hK hE hT hP hD hS hA (d_H_layAt l G cA h h_features h_featureNames h_steps h_turnedFeatures h_sixteenths h_keys h_keySteps h_lent h_rings h_on h_onMany h_doors h_wanted h_openers h_seconds h_turned h_roundMany h_roundDoors g_40 nw0_13 y k x (by omega) hO_nw0_13) lk_RX2_148 ⟨rfl, rfl⟩ ⟨Nat.le_of_ble_eq_true rfl, Nat.le_of_ble_eq_true rfl⟩ 2 rfl rfl rfl [1, 0, 2] [] rfl rfl (by decide) rfl hl.1 rfl (lv_room (Nat.le_of_ble_eq_true rfl)) dX2_putOn_71 ⟨Nat.le_of_ble_eq_true rfl, Nat.le_of_ble_eq_true rfl⟩ (fun u_61 H locs hw hP hD hS => ?_)
            obtain ⟨nw0_59, rfl⟩ : ∃ z, z = u_61 := ⟨_, rfl⟩
            have hP : va_P G vwCl [(h, .inr (2, [.int h_features, .ref h_featureNames, .ref h_steps, .ref h_turnedFeatures, .ref h_sixteenths, .int h_keys, .ref h_keySteps, .int h_lent, .int h_rings, .ref h_on, .ref h_onMany, .int h_doors, .ref h_wanted, .ref h_openers, .ref h_seconds, .int h_turned, .int h_roundMany, .ref h_roundDoors])), (h_on, .inl (cA.1 0, 30, .inl nw0_59)), (h_onMany, .inl (cA.1 0, 3, .inl nw0_13))] H := hP
            have hD : va_D A [(h, .inr (2, [.int h_features, .ref h_featureNames, .ref h_steps, .ref h_turnedFeatures, .ref h_sixteenths, .int h_keys, .ref h_keySteps, .int h_lent, .int h_rings, .ref h_on, .ref h_onMany, .int h_doors, .ref h_wanted, .ref h_openers, .ref h_seconds, .int h_turned, .int h_roundMany, .ref h_roundDoors])), (h_on, .inl (cA.1 0, 30, .inl nw0_59)), (h_onMany, .inl (cA.1 0, 3, .inl nw0_13))] := hD
            obtain ⟨he_nw0_59, hw⟩ := hw
            have hX_63 : F_H_putOn h_rings c_h_on c_h_onMany x y k = ((nw0_59, nw0_13) : (Nat → Int32) × (Nat → Int32)) := by
              refine hF_L39a.trans ?_
              refine (F_H_putOn_L39a_s ..).trans ?_
              refine (if_pos c_57).trans ?_
              extract_lets -merge -useContext +onlyGivenNames w9 y9; have e9 : nw0_59 = w9 := he_nw0_59; clear_value w9; subst e9
              exact rfl
            exact hret _ _ _ _ _ (nw0_59, nw0_13) [0, 1, 2] hP hD hS rfl (by decide) dX2_putOn_74 ⟨(congrArg (fun z9 => z9.1) hX_63).symm, (congrArg (fun z9 => z9.2) hX_63).symm, hO_nw0_13⟩
          · have b_64 := z_t6 c_57
            refine lv_aload_n hx hb dX2_putOn_45 rfl (lv_at hl 0 rfl) ?_
            refine lv_iload_n hx hb dX2_putOn_46 rfl (lv_at hl 2 rfl) ?_
            refine lv_iload hx hb dX2_putOn_47 (lv_at hl 5 rfl) ?_
            refine lv_aload_n hx hb dX2_putOn_49 rfl (lv_at hl 0 rfl) ?_
            refine lv_iload_n hx hb dX2_putOn_50 rfl (lv_at hl 2 rfl) ?_
            refine lv_iload hx hb dX2_putOn_51 (lv_at hl 5 rfl) ?_
            refine lv_iconst (v := 1) hx hb dX2_putOn_53 (by decide) ?_
            refine lv_isub hx hb dX2_putOn_54 ?_
            refine z_callVi (As := [.int y, .int (v_39 - 1)]) (rest := [.int v_39, .int y, .ref h]) (wr := []) ⟨hx, hb, hml, hown, hts⟩ hK hE hT hP hD hS hA (d_H_keyOn l G cA h h_features h_featureNames h_steps h_turnedFeatures h_sixteenths h_keys h_keySteps h_lent h_rings h_on h_onMany h_doors h_wanted h_openers h_seconds h_turned h_roundMany h_roundDoors g_40 nw0_13 y (v_39 - 1) (by omega) hO_nw0_13) lk_RX2_116 ⟨rfl, rfl⟩ ⟨Nat.le_of_ble_eq_true rfl, Nat.le_of_ble_eq_true rfl⟩ 2 rfl rfl rfl [1, 0, 2] [] rfl rfl (by decide) rfl hl.1 rfl (lv_room (Nat.le_of_ble_eq_true rfl)) dX2_putOn_55 ⟨Nat.le_of_ble_eq_true rfl, Nat.le_of_ble_eq_true rfl⟩ (fun r_65 u_66 H locs hw hP hD hS => ?_)
            have hP : va_P G vwCl [(h, .inr (2, [.int h_features, .ref h_featureNames, .ref h_steps, .ref h_turnedFeatures, .ref h_sixteenths, .int h_keys, .ref h_keySteps, .int h_lent, .int h_rings, .ref h_on, .ref h_onMany, .int h_doors, .ref h_wanted, .ref h_openers, .ref h_seconds, .int h_turned, .int h_roundMany, .ref h_roundDoors])), (h_on, .inl (cA.1 0, 30, .inl g_40)), (h_onMany, .inl (cA.1 0, 3, .inl nw0_13))] H := hP
            have hD : va_D A [(h, .inr (2, [.int h_features, .ref h_featureNames, .ref h_steps, .ref h_turnedFeatures, .ref h_sixteenths, .int h_keys, .ref h_keySteps, .int h_lent, .int h_rings, .ref h_on, .ref h_onMany, .int h_doors, .ref h_wanted, .ref h_openers, .ref h_seconds, .int h_turned, .int h_roundMany, .ref h_roundDoors])), (h_on, .inl (cA.1 0, 30, .inl g_40)), (h_onMany, .inl (cA.1 0, 3, .inl nw0_13))] := hD
            obtain ⟨he_r_65, hw⟩ := hw
            refine z_callVv (As := [.int y, .int v_39, .int r_65]) (rest := []) (wr := []) ⟨hx, hb, hml, hown, hts⟩ hK hE hT hP hD hS hA (d_H_layAt l G cA h h_features h_featureNames h_steps h_turnedFeatures h_sixteenths h_keys h_keySteps h_lent h_rings h_on h_onMany h_doors h_wanted h_openers h_seconds h_turned h_roundMany h_roundDoors g_40 nw0_13 y v_39 r_65 (by omega) hO_nw0_13) lk_RX2_148 ⟨rfl, rfl⟩ ⟨Nat.le_of_ble_eq_true rfl, Nat.le_of_ble_eq_true rfl⟩ 2 rfl rfl rfl [0, 1, 2] [] rfl rfl (by decide) rfl hl.1 rfl (lv_room (Nat.le_of_ble_eq_true rfl)) dX2_putOn_58 ⟨Nat.le_of_ble_eq_true rfl, Nat.le_of_ble_eq_true rfl⟩ (fun u_70 H locs hw hP hD hS => ?_)
            obtain ⟨nw0_68, rfl⟩ : ∃ z, z = u_70 := ⟨_, rfl⟩
            have hP : va_P G vwCl [(h, .inr (2, [.int h_features, .ref h_featureNames, .ref h_steps, .ref h_turnedFeatures, .ref h_sixteenths, .int h_keys, .ref h_keySteps, .int h_lent, .int h_rings, .ref h_on, .ref h_onMany, .int h_doors, .ref h_wanted, .ref h_openers, .ref h_seconds, .int h_turned, .int h_roundMany, .ref h_roundDoors])), (h_on, .inl (cA.1 0, 30, .inl nw0_68)), (h_onMany, .inl (cA.1 0, 3, .inl nw0_13))] H := hP
            have hD : va_D A [(h, .inr (2, [.int h_features, .ref h_featureNames, .ref h_steps, .ref h_turnedFeatures, .ref h_sixteenths, .int h_keys, .ref h_keySteps, .int h_lent, .int h_rings, .ref h_on, .ref h_onMany, .int h_doors, .ref h_wanted, .ref h_openers, .ref h_seconds, .int h_turned, .int h_roundMany, .ref h_roundDoors])), (h_on, .inl (cA.1 0, 30, .inl nw0_68)), (h_onMany, .inl (cA.1 0, 3, .inl nw0_13))] := hD
            obtain ⟨he_nw0_68, hw⟩ := hw
            refine lv_iinc (v := (v_39 + (-1))) (lv' := [(5, .int (v_39 + (-1))), (0, .ref h), (1, .int x), (2, .int y), (3, .int k), (4, .int r_1)]) hx hb dX2_putOn_61 hl (k := 5) rfl (z_ofi (by decide +kernel)) (by decide) rfl (fun ls hl => ?_)
            refine lv_goto (tgt := 39) hx hb dX2_putOn_64 (by decide) ?_
            have hX_72 : F_H_putOn h_rings c_h_on c_h_onMany x y k = F_H_putOn_L39a h_rings x y k nw0_13 n_L39a (v_39 + (-1)) nw0_68 := by
              refine hF_L39a.trans ?_
              refine (F_H_putOn_L39a_s ..).trans ?_
              refine (if_neg c_57).trans ?_
              extract_lets -merge -useContext +onlyGivenNames w9 y9; have e9 : r_65 = w9 := he_r_65; clear_value w9; subst e9
              extract_lets -merge -useContext +onlyGivenNames w9 y9; have e9 : nw0_68 = w9 := he_nw0_68; clear_value w9; subst e9
              exact rfl
            have hP := hP.sub (ws' := [(h_on, .inl (cA.1 0, 30, .inl nw0_68)), (h, .inr (2, [.int h_features, .ref h_featureNames, .ref h_steps, .ref h_turnedFeatures, .ref h_sixteenths, .int h_keys, .ref h_keySteps, .int h_lent, .int h_rings, .ref h_on, .ref h_onMany, .int h_doors, .ref h_wanted, .ref h_openers, .ref h_seconds, .int h_turned, .int h_roundMany, .ref h_roundDoors])), (h_onMany, .inl (cA.1 0, 3, .inl nw0_13))]) [1, 0, 2] rfl
            have hD := hD.sub (ws' := [(h_on, .inl (cA.1 0, 30, .inl nw0_68)), (h, .inr (2, [.int h_features, .ref h_featureNames, .ref h_steps, .ref h_turnedFeatures, .ref h_sixteenths, .int h_keys, .ref h_keySteps, .int h_lent, .int h_rings, .ref h_on, .ref h_onMany, .int h_doors, .ref h_wanted, .ref h_openers, .ref h_seconds, .int h_turned, .int h_roundMany, .ref h_roundDoors])), (h_onMany, .inl (cA.1 0, 3, .inl nw0_13))]) [1, 0, 2] (by decide) rfl
            exact ih_56 (v_39 + (-1)) nw0_68 H locs ls (z_dn hmu_hlp_55 (by omega) trivial) hX_72 hP hD hS (lv_sub hl [1, 2, 3, 4, 5, 0] rfl)
      have hX_73 : F_H_putOn h_rings c_h_on c_h_onMany x y k = F_H_putOn_L39a h_rings x y k nw0_13 ((r_1.toInt + 2147483648).toNat + 1) r_1 c_h_on := by
        refine (F_H_putOn_s ..).trans ?_
        extract_lets -merge -useContext +onlyGivenNames w9 y9; have e9 : r_1 = w9 := he_r_1; clear_value w9; subst e9
        extract_lets -merge -useContext +onlyGivenNames w9 y9; have e9 : r_4 = w9 := he_r_4; clear_value w9; subst e9
        refine (if_neg c_7).trans ?_
        refine (if_pos c_11).trans ?_
        extract_lets -merge -useContext +onlyGivenNames w9 y9; have e9 : nw0_13 = w9 := he_nw0_13; clear_value w9; subst e9
        exact rfl
      exact hlp_55 ((r_1.toInt + 2147483648).toNat + 1) r_1 c_h_on _ _ _ (Nat.lt_succ_self _) hX_73 hP hD hS (lv_sub hl [2, 3, 4, 5, 1, 0] rfl)
    · have b_74 := z_b4 c_11 (K := 10) (by decide +kernel)
      have hX_75 : F_H_putOn h_rings c_h_on c_h_onMany x y k = ((c_h_on, c_h_onMany) : (Nat → Int32) × (Nat → Int32)) := by
        refine (F_H_putOn_s ..).trans ?_
        extract_lets -merge -useContext +onlyGivenNames w9 y9; have e9 : r_1 = w9 := he_r_1; clear_value w9; subst e9
        extract_lets -merge -useContext +onlyGivenNames w9 y9; have e9 : r_4 = w9 := he_r_4; clear_value w9; subst e9
        refine (if_neg c_7).trans ?_
        refine (if_neg c_11).trans ?_
        exact rfl
      exact hret _ _ _ _ _ (c_h_on, c_h_onMany) [2, 0, 1] hP hD hS rfl (by decide) dX2_putOn_22 ⟨(congrArg (fun z9 => z9.1) hX_75).symm, (congrArg (fun z9 => z9.2) hX_75).symm, hO_c_h_onMany⟩
set_option maxHeartbeats 40000000 in
set_option maxRecDepth 100000 in
theorem d_H_takeOff (l : Launch) (G : va_G) (cA : zCA) (h : Nat) (h_features : Int32) (h_featureNames : Nat) (h_steps : Nat) (h_turnedFeatures : Nat) (h_sixteenths : Nat) (h_keys : Int32) (h_keySteps : Nat) (h_lent : Int32) (h_rings : Int32) (h_on : Nat) (h_onMany : Nat) (h_doors : Int32) (h_wanted : Nat) (h_openers : Nat) (h_seconds : Nat) (h_turned : Int32) (h_roundMany : Int32) (h_roundDoors : Nat) (c_h_on : Nat → Int32) (c_h_onMany : Nat → Int32) (x : Int32) (y : Int32) (hm_h_features : 0 ≤ h_features.toInt ∧ h_features.toInt ≤ 3) (hO_c_h_onMany : zOM c_h_onMany) : zCv l yX2_takeOff cX2_takeOff 6 none ({ frames := 4, cells := 0, slots := 0, locals := 87 }) G cA [.ref h, .int x, .int y] [(h, .inr (2, [.int h_features, .ref h_featureNames, .ref h_steps, .ref h_turnedFeatures, .ref h_sixteenths, .int h_keys, .ref h_keySteps, .int h_lent, .int h_rings, .ref h_on, .ref h_onMany, .int h_doors, .ref h_wanted, .ref h_openers, .ref h_seconds, .int h_turned, .int h_roundMany, .ref h_roundDoors])), (h_on, .inl (cA.1 0, 30, .inl c_h_on)), (h_onMany, .inl (cA.1 0, 3, .inl c_h_onMany))] (S := (Nat → Int32) × (Nat → Int32)) (fun (u : (Nat → Int32) × (Nat → Int32)) => (u.1 = (F_H_takeOff h_rings c_h_on c_h_onMany x y).1) ∧ (u.2 = (F_H_takeOff h_rings c_h_on c_h_onMany x y).2) ∧ (zOM u.2)) (fun (u : (Nat → Int32) × (Nat → Int32)) => [(h, .inr (2, [.int h_features, .ref h_featureNames, .ref h_steps, .ref h_turnedFeatures, .ref h_sixteenths, .int h_keys, .ref h_keySteps, .int h_lent, .int h_rings, .ref h_on, .ref h_onMany, .int h_doors, .ref h_wanted, .ref h_openers, .ref h_seconds, .int h_turned, .int h_roundMany, .ref h_roundDoors])), (h_on, .inl (cA.1 0, 30, .inl u.1)), (h_onMany, .inl (cA.1 0, 3, .inl u.2))]) 0 0 := by
  refine z_start2v (own := RX2) (by decide) (Nat.le_of_ble_eq_true rfl) rfl ?_
  intro p e s m args below meth c A ls Q hx hb hml hts hown hK hE hT hP hD hS hA hl hret
  have hl : lv_has ls 6 [(0, .ref h), (1, .int x), (2, .int y)] := hl
  refine lv_aload_n hx hb dX2_takeOff_0 rfl (lv_at hl 0 rfl) ?_
  refine lv_iload_n hx hb dX2_takeOff_1 rfl (lv_at hl 2 rfl) ?_
  refine lv_iload_n hx hb dX2_takeOff_2 rfl (lv_at hl 1 rfl) ?_
  refine z_callVi (As := [.int y, .int x]) (rest := []) (wr := []) ⟨hx, hb, hml, hown, hts⟩ hK hE hT hP hD hS hA (d_H_placeOn l G cA h h_features h_featureNames h_steps h_turnedFeatures h_sixteenths h_keys h_keySteps h_lent h_rings h_on h_onMany h_doors h_wanted h_openers h_seconds h_turned h_roundMany h_roundDoors c_h_on c_h_onMany y x (by omega) hO_c_h_onMany) lk_RX2_120 ⟨rfl, rfl⟩ ⟨Nat.le_of_ble_eq_true rfl, Nat.le_of_ble_eq_true rfl⟩ 2 rfl rfl rfl [0, 1, 2] [] rfl rfl (by decide) rfl hl.1 rfl (lv_room (Nat.le_of_ble_eq_true rfl)) dX2_takeOff_3 ⟨Nat.le_of_ble_eq_true rfl, Nat.le_of_ble_eq_true rfl⟩ (fun r_1 u_2 H locs hw hP hD hS => ?_)
  have hP : va_P G vwCl [(h, .inr (2, [.int h_features, .ref h_featureNames, .ref h_steps, .ref h_turnedFeatures, .ref h_sixteenths, .int h_keys, .ref h_keySteps, .int h_lent, .int h_rings, .ref h_on, .ref h_onMany, .int h_doors, .ref h_wanted, .ref h_openers, .ref h_seconds, .int h_turned, .int h_roundMany, .ref h_roundDoors])), (h_on, .inl (cA.1 0, 30, .inl c_h_on)), (h_onMany, .inl (cA.1 0, 3, .inl c_h_onMany))] H := hP
  have hD : va_D A [(h, .inr (2, [.int h_features, .ref h_featureNames, .ref h_steps, .ref h_turnedFeatures, .ref h_sixteenths, .int h_keys, .ref h_keySteps, .int h_lent, .int h_rings, .ref h_on, .ref h_onMany, .int h_doors, .ref h_wanted, .ref h_openers, .ref h_seconds, .int h_turned, .int h_roundMany, .ref h_roundDoors])), (h_on, .inl (cA.1 0, 30, .inl c_h_on)), (h_onMany, .inl (cA.1 0, 3, .inl c_h_onMany))] := hD
  obtain ⟨he_r_1, hw⟩ := hw
  have hx_r_1 := hw
  refine lv_istore_n (lv' := [(3, .int r_1), (0, .ref h), (1, .int x), (2, .int y)]) hx hb dX2_takeOff_6 rfl hl (by decide) rfl (fun ls hl => ?_)
  refine lv_iload_n hx hb dX2_takeOff_7 rfl (lv_at hl 0 rfl) ?_
  refine lv_iconst (v := (-1)) hx hb dX2_takeOff_8 (by decide) ?_
  refine lv_icmp_ne (tgt := 13) hx hb dX2_takeOff_9 (by decide) (fun c_4 => ?_) (fun c_4 => ?_)
  · have b_5 : r_1.toInt ≠ (-1) := fun h9 => c_4 (Int32.toInt_inj.mp (h9.trans (by decide +kernel)))
    refine lv_aload_n hx hb dX2_takeOff_13 rfl (lv_at hl 1 rfl) ?_
    refine lv_iload_n hx hb dX2_takeOff_14 rfl (lv_at hl 3 rfl) ?_
    refine z_callVi (As := [.int y]) (rest := []) (wr := [(h_on, .inl (cA.1 0, 30, .inl c_h_on))]) ⟨hx, hb, hml, hown, hts⟩ hK hE hT hP hD hS hA (d_H_manyOn l G cA h h_features h_featureNames h_steps h_turnedFeatures h_sixteenths h_keys h_keySteps h_lent h_rings h_on h_onMany h_doors h_wanted h_openers h_seconds h_turned h_roundMany h_roundDoors c_h_onMany y (by omega) hO_c_h_onMany) lk_RX2_113 ⟨rfl, rfl⟩ ⟨Nat.le_of_ble_eq_true rfl, Nat.le_of_ble_eq_true rfl⟩ 2 rfl rfl rfl [0, 2] [1] rfl rfl (by decide) rfl hl.1 rfl (lv_room (Nat.le_of_ble_eq_true rfl)) dX2_takeOff_15 ⟨Nat.le_of_ble_eq_true rfl, Nat.le_of_ble_eq_true rfl⟩ (fun r_6 u_7 H locs hw hP hD hS => ?_)
    have hP : va_P G vwCl [(h_on, .inl (cA.1 0, 30, .inl c_h_on)), (h, .inr (2, [.int h_features, .ref h_featureNames, .ref h_steps, .ref h_turnedFeatures, .ref h_sixteenths, .int h_keys, .ref h_keySteps, .int h_lent, .int h_rings, .ref h_on, .ref h_onMany, .int h_doors, .ref h_wanted, .ref h_openers, .ref h_seconds, .int h_turned, .int h_roundMany, .ref h_roundDoors])), (h_onMany, .inl (cA.1 0, 3, .inl c_h_onMany))] H := hP
    have hD : va_D A [(h_on, .inl (cA.1 0, 30, .inl c_h_on)), (h, .inr (2, [.int h_features, .ref h_featureNames, .ref h_steps, .ref h_turnedFeatures, .ref h_sixteenths, .int h_keys, .ref h_keySteps, .int h_lent, .int h_rings, .ref h_on, .ref h_onMany, .int h_doors, .ref h_wanted, .ref h_openers, .ref h_seconds, .int h_turned, .int h_roundMany, .ref h_roundDoors])), (h_onMany, .inl (cA.1 0, 3, .inl c_h_onMany))] := hD
    obtain ⟨he_r_6, hw⟩ := hw
    have hx_r_6 := hw
    refine lv_iconst (v := 1) hx hb dX2_takeOff_18 (by decide) ?_
    refine lv_isub hx hb dX2_takeOff_19 ?_
    refine lv_istore (lv' := [(4, .int (r_6 - 1)), (3, .int r_1), (0, .ref h), (1, .int x), (2, .int y)]) hx hb dX2_takeOff_20 hl (by decide) rfl (fun ls hl => ?_)
    refine lv_iload_n hx hb dX2_takeOff_22 rfl (lv_at hl 1 rfl) ?_
    refine lv_istore (lv' := [(5, .int r_1), (4, .int (r_6 - 1)), (3, .int r_1), (0, .ref h), (1, .int x), (2, .int y)]) hx hb dX2_takeOff_23 hl (by decide) rfl (fun ls hl => ?_)
    have hlp_47 : ∀ (n_L25a : Nat) (v_31 : Int32) (g_32 : Nat → Int32) (H : Heap) (locs : List Loc) (ls : Array Slot), (2147483647 - v_31.toInt).toNat < n_L25a → (F_H_takeOff h_rings c_h_on c_h_onMany x y = F_H_takeOff_L25a h_rings c_h_onMany y r_6 n_L25a v_31 g_32) → va_P G vwCl [(h_on, .inl (cA.1 0, 30, .inl g_32)), (h, .inr (2, [.int h_features, .ref h_featureNames, .ref h_steps, .ref h_turnedFeatures, .ref h_sixteenths, .int h_keys, .ref h_keySteps, .int h_lent, .int h_rings, .ref h_on, .ref h_onMany, .int h_doors, .ref h_wanted, .ref h_openers, .ref h_seconds, .int h_turned, .int h_roundMany, .ref h_roundDoors])), (h_onMany, .inl (cA.1 0, 3, .inl c_h_onMany))] H → va_D A [(h_on, .inl (cA.1 0, 30, .inl g_32)), (h, .inr (2, [.int h_features, .ref h_featureNames, .ref h_steps, .ref h_turnedFeatures, .ref h_sixteenths, .int h_keys, .ref h_keySteps, .int h_lent, .int h_rings, .ref h_on, .ref h_onMany, .int h_doors, .ref h_wanted, .ref h_openers, .ref h_seconds, .int h_turned, .int h_roundMany, .ref h_roundDoors])), (h_onMany, .inl (cA.1 0, 3, .inl c_h_onMany))] → va_S A s.heap H locs → lv_has ls 6 [(0, .ref h), (1, .int x), (2, .int y), (3, .int r_1), (4, .int (r_6 - 1)), (5, .int v_31)] → W p l e ({ frames := 4, cells := 0, slots := 0, locals := 87 }) s m args below meth c H locs 0 0 Q (F0 m 25 ls []) := by
      intro n_L25a
      induction n_L25a with
      | zero =>
        intro v_31 g_32 H locs ls hmu_hlp_47 hF_L25a hP hD hS hl
        exact absurd hmu_hlp_47 (Nat.not_lt_zero _)
      | succ n_L25a ih_48 =>
        intro v_31 g_32 H locs ls hmu_hlp_47 hF_L25a hP hD hS hl
        refine lv_iload hx hb dX2_takeOff_25 (lv_at hl 5 rfl) ?_
        refine lv_iload hx hb dX2_takeOff_27 (lv_at hl 4 rfl) ?_
        refine lv_icmp_ge (tgt := 54) hx hb dX2_takeOff_29 (by decide) (fun c_49 => ?_) (fun c_49 => ?_)
        · have b_50 := z_s1 c_49
          refine lv_aload_n hx hb dX2_takeOff_54 rfl (lv_at hl 0 rfl) ?_
          refine va_get (D := G) (ci := 2) (v := .ref h_onMany) (C := RX2) (T := TX2) (N := 18) hx hb hts inT2 hown hK hP 1 rfl rfl 10 (by decide) (hts _ tw_284) (fun _ h9 => h9) rfl dX2_takeOff_55 ?_
          refine lv_iload_n hx hb dX2_takeOff_58 rfl (lv_at hl 2 rfl) ?_
          refine lv_iload hx hb dX2_takeOff_59 (lv_at hl 4 rfl) ?_
          refine z_callSNv (As := [.ref h_onMany, .int y, .int (r_6 - 1)]) (rest := []) (wr := [(h_on, .inl (cA.1 0, 30, .inl g_32)), (h, .inr (2, [.int h_features, .ref h_featureNames, .ref h_steps, .ref h_turnedFeatures, .ref h_sixteenths, .int h_keys, .ref h_keySteps, .int h_lent, .int h_rings, .ref h_on, .ref h_onMany, .int h_doors, .ref h_wanted, .ref h_openers, .ref h_seconds, .int h_turned, .int h_roundMany, .ref h_roundDoors]))]) ⟨hx, hb, hml, hown, hts⟩ hK hE hT hP hD hS hA (d_keepAt_3 l G cA h_onMany c_h_onMany y (r_6 - 1)) lk_RX2_126 ⟨rfl, rfl⟩ ⟨Nat.le_of_ble_eq_true rfl, Nat.le_of_ble_eq_true rfl⟩ [2] [0, 1] rfl rfl (by decide) rfl hl.1 rfl (lv_room (Nat.le_of_ble_eq_true rfl)) dX2_takeOff_61 ⟨Nat.le_of_ble_eq_true rfl, Nat.le_of_ble_eq_true rfl⟩ (fun u_53 H locs hw hP hD hS => ?_)
          obtain ⟨nw0_51, rfl⟩ : ∃ z, z = u_53 := ⟨_, rfl⟩
          have hP : va_P G vwCl [(h_on, .inl (cA.1 0, 30, .inl g_32)), (h, .inr (2, [.int h_features, .ref h_featureNames, .ref h_steps, .ref h_turnedFeatures, .ref h_sixteenths, .int h_keys, .ref h_keySteps, .int h_lent, .int h_rings, .ref h_on, .ref h_onMany, .int h_doors, .ref h_wanted, .ref h_openers, .ref h_seconds, .int h_turned, .int h_roundMany, .ref h_roundDoors])), (h_onMany, .inl (cA.1 0, 3, .inl nw0_51))] H := hP
          have hD : va_D A [(h_on, .inl (cA.1 0, 30, .inl g_32)), (h, .inr (2, [.int h_features, .ref h_featureNames, .ref h_steps, .ref h_turnedFeatures, .ref h_sixteenths, .int h_keys, .ref h_keySteps, .int h_lent, .int h_rings, .ref h_on, .ref h_onMany, .int h_doors, .ref h_wanted, .ref h_openers, .ref h_seconds, .int h_turned, .int h_roundMany, .ref h_roundDoors])), (h_onMany, .inl (cA.1 0, 3, .inl nw0_51))] := hD
          obtain ⟨he_nw0_51, hw⟩ := hw
          have hx_nw0_51 := hw
          have hv_nw0_51 : (r_6 - 1).toInt = r_6.toInt - 1 := z_subI (K := 1) (by decide +kernel) (by omega) (by omega)
          have hO_nw0_51 := zOM_keep hO_c_h_onMany hx_nw0_51 (by omega)
          have hX_55 : F_H_takeOff h_rings c_h_on c_h_onMany x y = ((g_32, nw0_51) : (Nat → Int32) × (Nat → Int32)) := by
            refine hF_L25a.trans ?_
            refine (F_H_takeOff_L25a_s ..).trans ?_
            refine (if_pos c_49).trans ?_
            extract_lets -merge -useContext +onlyGivenNames w9 y9; have e9 : nw0_51 = w9 := he_nw0_51; clear_value w9; subst e9
            exact rfl
          exact hret _ _ _ _ _ (g_32, nw0_51) [1, 0, 2] hP hD hS rfl (by decide) dX2_takeOff_64 ⟨(congrArg (fun z9 => z9.1) hX_55).symm, (congrArg (fun z9 => z9.2) hX_55).symm, hO_nw0_51⟩
        · have b_56 := z_t2 c_49
          refine lv_aload_n hx hb dX2_takeOff_32 rfl (lv_at hl 0 rfl) ?_
          refine lv_iload_n hx hb dX2_takeOff_33 rfl (lv_at hl 2 rfl) ?_
          refine lv_iload hx hb dX2_takeOff_34 (lv_at hl 5 rfl) ?_
          refine lv_aload_n hx hb dX2_takeOff_36 rfl (lv_at hl 0 rfl) ?_
          refine lv_iload_n hx hb dX2_takeOff_37 rfl (lv_at hl 2 rfl) ?_
          refine lv_iload hx hb dX2_takeOff_38 (lv_at hl 5 rfl) ?_
          refine lv_iconst (v := 1) hx hb dX2_takeOff_40 (by decide) ?_
          refine lv_iadd hx hb dX2_takeOff_41 ?_
          refine z_callVi (As := [.int y, .int (v_31 + 1)]) (rest := [.int v_31, .int y, .ref h]) (wr := []) ⟨hx, hb, hml, hown, hts⟩ hK hE hT hP hD hS hA (d_H_keyOn l G cA h h_features h_featureNames h_steps h_turnedFeatures h_sixteenths h_keys h_keySteps h_lent h_rings h_on h_onMany h_doors h_wanted h_openers h_seconds h_turned h_roundMany h_roundDoors g_32 c_h_onMany y (v_31 + 1) (by omega) hO_c_h_onMany) lk_RX2_116 ⟨rfl, rfl⟩ ⟨Nat.le_of_ble_eq_true rfl, Nat.le_of_ble_eq_true rfl⟩ 2 rfl rfl rfl [1, 0, 2] [] rfl rfl (by decide) rfl hl.1 rfl (lv_room (Nat.le_of_ble_eq_true rfl)) dX2_takeOff_42 ⟨Nat.le_of_ble_eq_true rfl, Nat.le_of_ble_eq_true rfl⟩ (fun r_57 u_58 H locs hw hP hD hS => ?_)
          have hP : va_P G vwCl [(h, .inr (2, [.int h_features, .ref h_featureNames, .ref h_steps, .ref h_turnedFeatures, .ref h_sixteenths, .int h_keys, .ref h_keySteps, .int h_lent, .int h_rings, .ref h_on, .ref h_onMany, .int h_doors, .ref h_wanted, .ref h_openers, .ref h_seconds, .int h_turned, .int h_roundMany, .ref h_roundDoors])), (h_on, .inl (cA.1 0, 30, .inl g_32)), (h_onMany, .inl (cA.1 0, 3, .inl c_h_onMany))] H := hP
          have hD : va_D A [(h, .inr (2, [.int h_features, .ref h_featureNames, .ref h_steps, .ref h_turnedFeatures, .ref h_sixteenths, .int h_keys, .ref h_keySteps, .int h_lent, .int h_rings, .ref h_on, .ref h_onMany, .int h_doors, .ref h_wanted, .ref h_openers, .ref h_seconds, .int h_turned, .int h_roundMany, .ref h_roundDoors])), (h_on, .inl (cA.1 0, 30, .inl g_32)), (h_onMany, .inl (cA.1 0, 3, .inl c_h_onMany))] := hD
          obtain ⟨he_r_57, hw⟩ := hw
          refine z_callVv (As := [.int y, .int v_31, .int r_57]) (rest := []) (wr := []) ⟨hx, hb, hml, hown, hts⟩ hK hE hT hP hD hS hA (d_H_layAt l G cA h h_features h_featureNames h_steps h_turnedFeatures h_sixteenths h_keys h_keySteps h_lent h_rings h_on h_onMany h_doors h_wanted h_openers h_seconds h_turned h_roundMany h_roundDoors g_32 c_h_onMany y v_31 r_57 (by omega) hO_c_h_onMany) lk_RX2_148 ⟨rfl, rfl⟩ ⟨Nat.le_of_ble_eq_true rfl, Nat.le_of_ble_eq_true rfl⟩ 2 rfl rfl rfl [0, 1, 2] [] rfl rfl (by decide) rfl hl.1 rfl (lv_room (Nat.le_of_ble_eq_true rfl)) dX2_takeOff_45 ⟨Nat.le_of_ble_eq_true rfl, Nat.le_of_ble_eq_true rfl⟩ (fun u_62 H locs hw hP hD hS => ?_)
          obtain ⟨nw0_60, rfl⟩ : ∃ z, z = u_62 := ⟨_, rfl⟩
          have hP : va_P G vwCl [(h, .inr (2, [.int h_features, .ref h_featureNames, .ref h_steps, .ref h_turnedFeatures, .ref h_sixteenths, .int h_keys, .ref h_keySteps, .int h_lent, .int h_rings, .ref h_on, .ref h_onMany, .int h_doors, .ref h_wanted, .ref h_openers, .ref h_seconds, .int h_turned, .int h_roundMany, .ref h_roundDoors])), (h_on, .inl (cA.1 0, 30, .inl nw0_60)), (h_onMany, .inl (cA.1 0, 3, .inl c_h_onMany))] H := hP
          have hD : va_D A [(h, .inr (2, [.int h_features, .ref h_featureNames, .ref h_steps, .ref h_turnedFeatures, .ref h_sixteenths, .int h_keys, .ref h_keySteps, .int h_lent, .int h_rings, .ref h_on, .ref h_onMany, .int h_doors, .ref h_wanted, .ref h_openers, .ref h_seconds, .int h_turned, .int h_roundMany, .ref h_roundDoors])), (h_on, .inl (cA.1 0, 30, .inl nw0_60)), (h_onMany, .inl (cA.1 0, 3, .inl c_h_onMany))] := hD
          obtain ⟨he_nw0_60, hw⟩ := hw
          refine lv_iinc (v := (v_31 + 1)) (lv' := [(5, .int (v_31 + 1)), (0, .ref h), (1, .int x), (2, .int y), (3, .int r_1), (4, .int (r_6 - 1))]) hx hb dX2_takeOff_48 hl (k := 5) rfl (z_ofi (by decide +kernel)) (by decide) rfl (fun ls hl => ?_)
          refine lv_goto (tgt := 25) hx hb dX2_takeOff_51 (by decide) ?_
          have hX_64 : F_H_takeOff h_rings c_h_on c_h_onMany x y = F_H_takeOff_L25a h_rings c_h_onMany y r_6 n_L25a (v_31 + 1) nw0_60 := by
            refine hF_L25a.trans ?_
            refine (F_H_takeOff_L25a_s ..).trans ?_
            refine (if_neg c_49).trans ?_
            extract_lets -merge -useContext +onlyGivenNames w9 y9; have e9 : r_57 = w9 := he_r_57; clear_value w9; subst e9
            extract_lets -merge -useContext +onlyGivenNames w9 y9; have e9 : nw0_60 = w9 := he_nw0_60; clear_value w9; subst e9
            exact rfl
          have hP := hP.sub (ws' := [(h_on, .inl (cA.1 0, 30, .inl nw0_60)), (h, .inr (2, [.int h_features, .ref h_featureNames, .ref h_steps, .ref h_turnedFeatures, .ref h_sixteenths, .int h_keys, .ref h_keySteps, .int h_lent, .int h_rings, .ref h_on, .ref h_onMany, .int h_doors, .ref h_wanted, .ref h_openers, .ref h_seconds, .int h_turned, .int h_roundMany, .ref h_roundDoors])), (h_onMany, .inl (cA.1 0, 3, .inl c_h_onMany))]) [1, 0, 2] rfl
          have hD := hD.sub (ws' := [(h_on, .inl (cA.1 0, 30, .inl nw0_60)), (h, .inr (2, [.int h_features, .ref h_featureNames, .ref h_steps, .ref h_turnedFeatures, .ref h_sixteenths, .int h_keys, .ref h_keySteps, .int h_lent, .int h_rings, .ref h_on, .ref h_onMany, .int h_doors, .ref h_wanted, .ref h_openers, .ref h_seconds, .int h_turned, .int h_roundMany, .ref h_roundDoors])), (h_onMany, .inl (cA.1 0, 3, .inl c_h_onMany))]) [1, 0, 2] (by decide) rfl
          exact ih_48 (v_31 + 1) nw0_60 H locs ls (z_up hmu_hlp_47 (by omega) trivial) hX_64 hP hD hS (lv_sub hl [1, 2, 3, 4, 5, 0] rfl)
    have hX_65 : F_H_takeOff h_rings c_h_on c_h_onMany x y = F_H_takeOff_L25a h_rings c_h_onMany y r_6 ((2147483647 - r_1.toInt).toNat + 1) r_1 c_h_on := by
      refine (F_H_takeOff_s ..).trans ?_
      extract_lets -merge -useContext +onlyGivenNames w9 y9; have e9 : r_1 = w9 := he_r_1; clear_value w9; subst e9
      refine (if_neg c_4).trans ?_
      extract_lets -merge -useContext +onlyGivenNames w9 y9; have e9 : r_6 = w9 := he_r_6; clear_value w9; subst e9
      exact rfl
    exact hlp_47 ((2147483647 - r_1.toInt).toNat + 1) r_1 c_h_on _ _ _ (Nat.lt_succ_self _) hX_65 hP hD hS (lv_sub hl [3, 4, 5, 2, 1, 0] rfl)
  · skip
    have hX_67 : F_H_takeOff h_rings c_h_on c_h_onMany x y = ((c_h_on, c_h_onMany) : (Nat → Int32) × (Nat → Int32)) := by
      refine (F_H_takeOff_s ..).trans ?_
      extract_lets -merge -useContext +onlyGivenNames w9 y9; have e9 : r_1 = w9 := he_r_1; clear_value w9; subst e9
      refine (if_pos c_4).trans ?_
      exact rfl
    exact hret _ _ _ _ _ (c_h_on, c_h_onMany) [0, 1, 2] hP hD hS rfl (by decide) dX2_takeOff_12 ⟨(congrArg (fun z9 => z9.1) hX_67).symm, (congrArg (fun z9 => z9.2) hX_67).symm, hO_c_h_onMany⟩
set_option maxHeartbeats 4000000 in
set_option maxRecDepth 100000 in
theorem d_Pre_checkIndex_n (l : Launch) (G : va_G) (cA : zCA) (j : Int32) (n : Int32) (hj0 : 0 ≤ j.toInt) (hj1 : j.toInt < n.toInt) : zCi l yJ3_checkIndex_8e157 cJ3_checkIndex_8e157 3 (some .int) ({ frames := 0, cells := 0, slots := 0, locals := 0 }) G cA [.int j, .int n, .null] [] (S := Unit) (fun (r : Int32) (u : Unit) => True) (fun (u : Unit) => []) 0 0 := by
  refine z_start2i (own := RJ3) (by decide) (Nat.le_of_ble_eq_true rfl) rfl ?_
  intro p e s m args below meth c A ls Q hx hb hml hts hown hK hE hT hP hD hS hA hl hret
  have hl : lv_has ls 3 [(0, .int j), (1, .int n), (2, .null)] := hl
  refine lv_iload_n hx hb dJ3_checkIndex_8e157_0 rfl (lv_at hl 0 rfl) ?_
  refine lv_if_lt (tgt := 9) hx hb dJ3_checkIndex_8e157_1 (by decide) (fun h9 => absurd h9 (fun h8 => absurd (z_b3 h8 (K := 0) (by decide +kernel)) (by omega))) (fun _ => ?_)
  refine lv_iload_n hx hb dJ3_checkIndex_8e157_4 rfl (lv_at hl 0 rfl) ?_
  refine lv_iload_n hx hb dJ3_checkIndex_8e157_5 rfl (lv_at hl 1 rfl) ?_
  refine lv_icmp_lt (tgt := 16) hx hb dJ3_checkIndex_8e157_6 (by decide) (fun _ => ?_) (fun h9 => absurd (Int32.lt_iff_toInt_lt.mpr (by omega)) h9)
  refine lv_iload_n hx hb dJ3_checkIndex_8e157_16 rfl (lv_at hl 0 rfl) ?_
  exact hret _ _ _ _ _ _ () [] hP hD hS rfl (by decide) dJ3_checkIndex_8e157_17 trivial
set_option maxHeartbeats 4000000 in
set_option maxRecDepth 100000 in
theorem d_Pre_checkIndex_r (l : Launch) (G : va_G) (cA : zCA) (j : Int32) (n : Int32) (t9 : Nat) (hj0 : 0 ≤ j.toInt) (hj1 : j.toInt < n.toInt) : zCi l yJ3_checkIndex_8e157 cJ3_checkIndex_8e157 3 (some .int) ({ frames := 0, cells := 0, slots := 0, locals := 0 }) G cA [.int j, .int n, .ref t9] [] (S := Unit) (fun (r : Int32) (u : Unit) => True) (fun (u : Unit) => []) 0 0 := by
  refine z_start2i (own := RJ3) (by decide) (Nat.le_of_ble_eq_true rfl) rfl ?_
  intro p e s m args below meth c A ls Q hx hb hml hts hown hK hE hT hP hD hS hA hl hret
  have hl : lv_has ls 3 [(0, .int j), (1, .int n), (2, .ref t9)] := hl
  refine lv_iload_n hx hb dJ3_checkIndex_8e157_0 rfl (lv_at hl 0 rfl) ?_
  refine lv_if_lt (tgt := 9) hx hb dJ3_checkIndex_8e157_1 (by decide) (fun h9 => absurd h9 (fun h8 => absurd (z_b3 h8 (K := 0) (by decide +kernel)) (by omega))) (fun _ => ?_)
  refine lv_iload_n hx hb dJ3_checkIndex_8e157_4 rfl (lv_at hl 0 rfl) ?_
  refine lv_iload_n hx hb dJ3_checkIndex_8e157_5 rfl (lv_at hl 1 rfl) ?_
  refine lv_icmp_lt (tgt := 16) hx hb dJ3_checkIndex_8e157_6 (by decide) (fun _ => ?_) (fun h9 => absurd (Int32.lt_iff_toInt_lt.mpr (by omega)) h9)
  refine lv_iload_n hx hb dJ3_checkIndex_8e157_16 rfl (lv_at hl 0 rfl) ?_
  exact hret _ _ _ _ _ _ () [] hP hD hS rfl (by decide) dJ3_checkIndex_8e157_17 trivial
set_option maxHeartbeats 4000000 in
set_option maxRecDepth 100000 in
theorem d_St_checkIndex (l : Launch) (G : va_G) (cA : zCA) (j : Int32) (n : Int32) (hj0 : 0 ≤ j.toInt) (hj1 : j.toInt < n.toInt) : zCv l yJ0_checkIndex_df160 cJ0_checkIndex_df160 2 none ({ frames := 1, cells := 0, slots := 0, locals := 22 }) G cA [.int j, .int n] [] (S := Unit) (fun (u : Unit) => True) (fun (u : Unit) => []) 0 0 := by
  refine z_start2v (own := RJ0) (by decide) (Nat.le_of_ble_eq_true rfl) rfl ?_
  intro p e s m args below meth c A ls Q hx hb hml hts hown hK hE hT hP hD hS hA hl hret
  have hl : lv_has ls 2 [(0, .int j), (1, .int n)] := hl
  refine lv_iload_n hx hb dJ0_checkIndex_df160_0 rfl (lv_at hl 0 rfl) ?_
  refine lv_iload_n hx hb dJ0_checkIndex_df160_1 rfl (lv_at hl 1 rfl) ?_
  rcases hT.2.2 with hZ | ⟨t9, hZ⟩
  · refine va_gets hx hb hZ hS hown (hts _ tw_892) (fun _ h9 => h9) dJ0_checkIndex_df160_2 ?_
    refine z_callSi (As := [.int j, .int n, .null]) (rest := []) (wr := []) ⟨hx, hb, hml, hown, hts⟩ hK hE hT hP hD hS hA (d_Pre_checkIndex_n l G cA j n hj0 hj1) lk_RJ0_1059 ⟨rfl, rfl⟩ ⟨Nat.le_of_ble_eq_true rfl, Nat.le_of_ble_eq_true rfl⟩ [] [] rfl rfl (by decide) rfl hl.1 rfl (lv_room (Nat.le_of_ble_eq_true rfl)) dJ0_checkIndex_df160_5 ⟨Nat.le_of_ble_eq_true rfl, Nat.le_of_ble_eq_true rfl⟩ (fun r_1 u_2 H locs hw hP hD hS => ?_)
    have hP : va_P G vwCl [] H := hP
    have hD : va_D A [] := hD
    refine lv_pop hx hb dJ0_checkIndex_df160_8 rfl ?_
    exact hret _ _ _ _ _ () [] hP hD hS rfl (by decide) dJ0_checkIndex_df160_9 trivial
  · refine va_gets hx hb hZ hS hown (hts _ tw_892) (fun _ h9 => h9) dJ0_checkIndex_df160_2 ?_
    refine z_callSi (As := [.int j, .int n, .ref t9]) (rest := []) (wr := []) ⟨hx, hb, hml, hown, hts⟩ hK hE hT hP hD hS hA (d_Pre_checkIndex_r l G cA j n t9 hj0 hj1) lk_RJ0_1059 ⟨rfl, rfl⟩ ⟨Nat.le_of_ble_eq_true rfl, Nat.le_of_ble_eq_true rfl⟩ [] [] rfl rfl (by decide) rfl hl.1 rfl (lv_room (Nat.le_of_ble_eq_true rfl)) dJ0_checkIndex_df160_5 ⟨Nat.le_of_ble_eq_true rfl, Nat.le_of_ble_eq_true rfl⟩ (fun r_3 u_4 H locs hw hP hD hS => ?_)
    have hP : va_P G vwCl [] H := hP
    have hD : va_D A [] := hD
    refine lv_pop hx hb dJ0_checkIndex_df160_8 rfl ?_
    exact hret _ _ _ _ _ () [] hP hD hS rfl (by decide) dJ0_checkIndex_df160_9 trivial
set_option maxHeartbeats 4000000 in
set_option maxRecDepth 100000 in
theorem d_St_coder (l : Launch) (G : va_G) (cA : zCA) (i : Nat) (hi_i : i < 42) : zCi l yJ0_coder_7d493 cJ0_coder_7d493 1 (some .byte) ({ frames := 0, cells := 0, slots := 0, locals := 0 }) G cA [.ref (cA.2.1 i)] [] (S := Unit) (fun (r : Int32) (u : Unit) => r = 0) (fun (u : Unit) => []) 0 0 := by
  refine z_start2b (own := RJ0) (by decide) (Nat.le_of_ble_eq_true rfl) rfl ?_
  intro p e s m args below meth c A ls Q hx hb hml hts hown hK hE hT hP hD hS hA hl hret
  have hl : lv_has ls 1 [(0, .ref (cA.2.1 i))] := hl
  refine va_gets hx hb hT.2.1 hS hown (hts _ tw_876) (fun _ h9 => h9) dJ0_coder_7d493_0 ?_
  refine lv_if_eq (tgt := 13) hx hb dJ0_coder_7d493_3 (by decide) (fun h9 => absurd h9 (by decide +kernel)) (fun _ => ?_)
  refine lv_aload_n hx hb dJ0_coder_7d493_6 rfl (lv_at hl 0 rfl) ?_
  refine vk_getf hx hb (hT.1 i hi_i).2.2.1 hS hown (hts _ tw_2743) (fun _ h9 => h9) dJ0_coder_7d493_7 ?_
  refine lv_goto (tgt := 14) hx hb dJ0_coder_7d493_10 (by decide) ?_
  exact hret _ _ _ _ _ _ () [] hP hD hS rfl (by decide) dJ0_coder_7d493_14 (by decide +kernel) rfl
set_option maxHeartbeats 4000000 in
set_option maxRecDepth 100000 in
theorem d_St_isLatin1 (l : Launch) (G : va_G) (cA : zCA) (i : Nat) (hi_i : i < 42) : zCi l yJ0_isLatin1_aae02 cJ0_isLatin1_aae02 1 (some .boolean) ({ frames := 0, cells := 0, slots := 0, locals := 0 }) G cA [.ref (cA.2.1 i)] [] (S := Unit) (fun (r : Int32) (u : Unit) => (r = 1) ∧ (r = 0 ∨ r = 1)) (fun (u : Unit) => []) 0 0 := by
  refine z_start2z (own := RJ0) (by decide) (Nat.le_of_ble_eq_true rfl) rfl ?_
  intro p e s m args below meth c A ls Q hx hb hml hts hown hK hE hT hP hD hS hA hl hret
  have hl : lv_has ls 1 [(0, .ref (cA.2.1 i))] := hl
  refine va_gets hx hb hT.2.1 hS hown (hts _ tw_876) (fun _ h9 => h9) dJ0_isLatin1_aae02_0 ?_
  refine lv_if_eq (tgt := 17) hx hb dJ0_isLatin1_aae02_3 (by decide) (fun h9 => absurd h9 (by decide +kernel)) (fun _ => ?_)
  refine lv_aload_n hx hb dJ0_isLatin1_aae02_6 rfl (lv_at hl 0 rfl) ?_
  refine vk_getf hx hb (hT.1 i hi_i).2.2.1 hS hown (hts _ tw_2743) (fun _ h9 => h9) dJ0_isLatin1_aae02_7 ?_
  refine lv_if_ne (tgt := 17) hx hb dJ0_isLatin1_aae02_10 (by decide) (fun h9 => absurd (by decide +kernel) h9) (fun _ => ?_)
  refine lv_iconst (v := 1) hx hb dJ0_isLatin1_aae02_13 (by decide) ?_
  refine lv_goto (tgt := 18) hx hb dJ0_isLatin1_aae02_14 (by decide) ?_
  exact hret _ _ _ _ _ _ () [] hP hD hS rfl (by decide) dJ0_isLatin1_aae02_18 (Or.inr rfl) ⟨rfl, (Or.inr rfl)⟩
set_option maxHeartbeats 4000000 in
set_option maxRecDepth 100000 in
theorem d_St_length (l : Launch) (G : va_G) (cA : zCA) (i : Nat) (hi_i : i < 42) : zCi l yJ0_length_8abf5 cJ0_length_8abf5 1 (some .int) ({ frames := 1, cells := 0, slots := 0, locals := 20 }) G cA [.ref (cA.2.1 i)] [] (S := Unit) (fun (r : Int32) (u : Unit) => r = nI (zlb i).length) (fun (u : Unit) => []) 0 0 := by
  refine z_start2i (own := RJ0) (by decide) (Nat.le_of_ble_eq_true rfl) rfl ?_
  intro p e s m args below meth c A ls Q hx hb hml hts hown hK hE hT hP hD hS hA hl hret
  have hl : lv_has ls 1 [(0, .ref (cA.2.1 i))] := hl
  refine lv_aload_n hx hb dJ0_length_8abf5_0 rfl (lv_at hl 0 rfl) ?_
  refine vk_getf hx hb (hT.1 i hi_i).2.2.2.1 hS hown (hts _ tw_2742) (fun _ h9 => h9) dJ0_length_8abf5_1 ?_
  refine va_tlen (v := nI (zlb i).length) hx hb (hT.1 i hi_i).2.2.2.2 hS rfl dJ0_length_8abf5_4 ?_
  have hln_k_1 := zlb_nI hi_i
  refine lv_aload_n hx hb dJ0_length_8abf5_5 rfl (lv_at hl 0 rfl) ?_
  refine z_callWi (As := []) (rest := [.int (nI (zlb i).length)]) (wr := []) ⟨hx, hb, hml, hown, hts⟩ hK hE hT hP hD hS hA (d_St_coder l G cA i hi_i) lk_RJ0_335 ⟨rfl, rfl⟩ ⟨Nat.le_of_ble_eq_true rfl, Nat.le_of_ble_eq_true rfl⟩ (z_rc hT hi_i hS) [] [] rfl rfl (by decide) rfl hl.1 rfl (lv_room (Nat.le_of_ble_eq_true rfl)) dJ0_length_8abf5_6 ⟨Nat.le_of_ble_eq_true rfl, Nat.le_of_ble_eq_true rfl⟩ (fun r_2 u_3 H locs hw hP hD hS => ?_)
  have hP : va_P G vwCl [] H := hP
  have hD : va_D A [] := hD
  obtain rfl : r_2 = 0 := hw
  refine lv_ishr hx hb dJ0_length_8abf5_9 ?_
  refine z_topi (y := (nI (zlb i).length)) (z_shr0 _) ?_
  exact hret _ _ _ _ _ _ () [] hP hD hS rfl (by decide) dJ0_length_8abf5_10 rfl
set_option maxHeartbeats 40000000 in
set_option maxRecDepth 100000 in
theorem d_SL_charAt (l : Launch) (G : va_G) (cA : zCA) (i : Nat) (j : Int32) (hi_i : i < 42) (hj0 : 0 ≤ j.toInt) (hj1 : j.toInt < ((zlb i).length : Int)) : zCi l yJ1_charAt_3b067 cJ1_charAt_3b067 2 (some .char) ({ frames := 2, cells := 0, slots := 0, locals := 43 }) G cA [.ref (cA.2.2 i), .int j] [] (S := Unit) (fun (r : Int32) (u : Unit) => (r = (F_SL_charAt i j)) ∧ (narrow .char (.int r) = .int r)) (fun (u : Unit) => []) 0 0 := by
  refine z_start2c (own := RJ1) (by decide) (Nat.le_of_ble_eq_true rfl) rfl ?_
  intro p e s m args below meth c A ls Q hx hb hml hts hown hK hE hT hP hD hS hA hl hret
  have hl : lv_has ls 2 [(0, .ref (cA.2.2 i)), (1, .int j)] := hl
  refine lv_iload_n hx hb dJ1_charAt_3b067_0 rfl (lv_at hl 1 rfl) ?_
  refine lv_aload_n hx hb dJ1_charAt_3b067_1 rfl (lv_at hl 0 rfl) ?_
  refine va_tlen (v := nI (zlb i).length) hx hb (hT.1 i hi_i).2.2.2.2 hS rfl dJ1_charAt_3b067_2 ?_
  have hln_k_1 := zlb_nI hi_i
  refine z_callSv (As := [.int j, .int (nI (zlb i).length)]) (rest := []) (wr := []) ⟨hx, hb, hml, hown, hts⟩ hK hE hT hP hD hS hA (d_St_checkIndex l G cA j (nI (zlb i).length) (by omega) (by omega)) lk_RJ1_9 ⟨rfl, rfl⟩ ⟨Nat.le_of_ble_eq_true rfl, Nat.le_of_ble_eq_true rfl⟩ [] [] rfl rfl (by decide) rfl hl.1 rfl (lv_room (Nat.le_of_ble_eq_true rfl)) dJ1_charAt_3b067_3 ⟨Nat.le_of_ble_eq_true rfl, Nat.le_of_ble_eq_true rfl⟩ (fun u_3 H locs hw hP hD hS => ?_)
  have hP : va_P G vwCl [] H := hP
  have hD : va_D A [] := hD
  refine lv_aload_n hx hb dJ1_charAt_3b067_6 rfl (lv_at hl 0 rfl) ?_
  refine lv_iload_n hx hb dJ1_charAt_3b067_7 rfl (lv_at hl 1 rfl) ?_
  refine va_tb hx hb (hT.1 i hi_i).2.2.2.2 hS (z_inN (by omega) (by omega)) rfl dJ1_charAt_3b067_8 ?_
  refine lv_topi (fun x_4 he_x_4 => ?_)
  refine lv_sipush (v := 255) hx hb dJ1_charAt_3b067_9 (by decide) ?_
  refine lv_iand hx hb dJ1_charAt_3b067_12 ?_
  refine lv_topi (fun x_5 he_x_5 => ?_)
  refine lv_i2c (v := ((x_5 : Int32).toUInt32 % 65536).toInt32) hx hb dJ1_charAt_3b067_13 rfl ?_
  obtain ⟨x_6, hc_x_6, he_x_6⟩ : ∃ z : Int32, narrow .char (.int z) = .int z ∧ ((x_5 : Int32).toUInt32 % 65536).toInt32 = z := ⟨_, pk_nc _, rfl⟩
  refine z_topi he_x_6 ?_
  have hX_7 : F_SL_charAt i j = (x_6 : Int32) := by
    refine (F_SL_charAt_s ..).trans ?_
    try (extract_lets -merge -useContext +onlyGivenNames y9; have e9 : x_4 = y9 := (by first | exact he_x_4 | exact he_x_4.symm); clear_value y9; subst e9)
    try (extract_lets -merge -useContext +onlyGivenNames y9; have e9 : x_5 = y9 := (by first | exact he_x_5 | exact he_x_5.symm); clear_value y9; subst e9)
    try (extract_lets -merge -useContext +onlyGivenNames y9; have e9 : x_6 = y9 := (by first | exact he_x_6 | exact he_x_6.symm); clear_value y9; subst e9)
    exact rfl
  exact hret _ _ _ _ _ _ () [] hP hD hS rfl (by decide) dJ1_charAt_3b067_14 hc_x_6 ⟨(congrArg (fun z9 => z9) hX_7).symm, hc_x_6⟩
set_option maxHeartbeats 40000000 in
set_option maxRecDepth 100000 in
theorem d_St_charAt (l : Launch) (G : va_G) (cA : zCA) (i : Nat) (j : Int32) (hi_i : i < 42) (hj0 : 0 ≤ j.toInt) (hj1 : j.toInt < ((zlb i).length : Int)) : zCi l yJ0_charAt_5068e cJ0_charAt_5068e 2 (some .char) ({ frames := 3, cells := 0, slots := 0, locals := 64 }) G cA [.ref (cA.2.1 i), .int j] [] (S := Unit) (fun (r : Int32) (u : Unit) => (r = (F_St_charAt i j)) ∧ (narrow .char (.int r) = .int r)) (fun (u : Unit) => []) 0 0 := by
  refine z_start2c (own := RJ0) (by decide) (Nat.le_of_ble_eq_true rfl) rfl ?_
  intro p e s m args below meth c A ls Q hx hb hml hts hown hK hE hT hP hD hS hA hl hret
  have hl : lv_has ls 2 [(0, .ref (cA.2.1 i)), (1, .int j)] := hl
  refine lv_aload_n hx hb dJ0_charAt_5068e_0 rfl (lv_at hl 0 rfl) ?_
  refine z_callWi (As := []) (rest := []) (wr := []) ⟨hx, hb, hml, hown, hts⟩ hK hE hT hP hD hS hA (d_St_isLatin1 l G cA i hi_i) lk_RJ0_492 ⟨rfl, rfl⟩ ⟨Nat.le_of_ble_eq_true rfl, Nat.le_of_ble_eq_true rfl⟩ (z_rc hT hi_i hS) [] [] rfl rfl (by decide) rfl hl.1 rfl (lv_room (Nat.le_of_ble_eq_true rfl)) dJ0_charAt_5068e_1 ⟨Nat.le_of_ble_eq_true rfl, Nat.le_of_ble_eq_true rfl⟩ (fun r_1 u_2 H locs hw hP hD hS => ?_)
  have hP : va_P G vwCl [] H := hP
  have hD : va_D A [] := hD
  obtain rfl : r_1 = 1 := hw.1
  refine lv_if_eq (tgt := 16) hx hb dJ0_charAt_5068e_4 (by decide) (fun h9 => absurd h9 (by decide +kernel)) (fun _ => ?_)
  refine lv_aload_n hx hb dJ0_charAt_5068e_7 rfl (lv_at hl 0 rfl) ?_
  refine vk_getf hx hb (hT.1 i hi_i).2.2.2.1 hS hown (hts _ tw_2742) (fun _ h9 => h9) dJ0_charAt_5068e_8 ?_
  refine lv_iload_n hx hb dJ0_charAt_5068e_11 rfl (lv_at hl 1 rfl) ?_
  refine z_callSi (As := [.ref (cA.2.2 i), .int j]) (rest := []) (wr := []) ⟨hx, hb, hml, hown, hts⟩ hK hE hT hP hD hS hA (d_SL_charAt l G cA i j hi_i (by omega) (by omega)) lk_RJ0_495 ⟨rfl, rfl⟩ ⟨Nat.le_of_ble_eq_true rfl, Nat.le_of_ble_eq_true rfl⟩ [] [] rfl rfl (by decide) rfl hl.1 rfl (lv_room (Nat.le_of_ble_eq_true rfl)) dJ0_charAt_5068e_12 ⟨Nat.le_of_ble_eq_true rfl, Nat.le_of_ble_eq_true rfl⟩ (fun r_3 u_4 H locs hw hP hD hS => ?_)
  have hP : va_P G vwCl [] H := hP
  have hD : va_D A [] := hD
  obtain ⟨he_r_3, hw⟩ := hw
  have hc_r_3 := hw
  have hX_6 : F_St_charAt i j = (r_3 : Int32) := by
    refine (F_St_charAt_s ..).trans ?_
    extract_lets -merge -useContext +onlyGivenNames w9 y9; have e9 : r_3 = w9 := he_r_3; clear_value w9; subst e9
    exact rfl
  exact hret _ _ _ _ _ _ () [] hP hD hS rfl (by decide) dJ0_charAt_5068e_15 hc_r_3 ⟨(congrArg (fun z9 => z9) hX_6).symm, hc_r_3⟩
set_option maxHeartbeats 4000000 in
set_option maxRecDepth 100000 in
theorem d_fill_i (l : Launch) (G : va_G) (cA : zCA) (a : Nat) (c_a : Nat → Int32) (i1 : Int32) : zCv l yJ7_fill_53178 cJ7_fill_53178 4 none ({ frames := 0, cells := 0, slots := 0, locals := 0 }) G cA [.ref a, .int i1] [(a, .inl (cA.1 0, 3, .inl c_a))] (S := (Nat → Int32)) (fun (u : (Nat → Int32)) => True) (fun (u : (Nat → Int32)) => [(a, .inl (cA.1 0, 3, .inl u))]) 0 0 := by
  refine z_start2v (own := RJ7) (by decide) (Nat.le_of_ble_eq_true rfl) rfl ?_
  intro p e s m args below meth c A ls Q hx hb hml hts hown hK hE hT hP hD hS hA hl hret
  have hl : lv_has ls 4 [(0, .ref a), (1, .int i1)] := hl
  refine lv_iconst (v := 0) hx hb dJ7_fill_53178_0 (by decide) ?_
  refine lv_istore_n (lv' := [(2, .int 0), (0, .ref a), (1, .int i1)]) hx hb dJ7_fill_53178_1 rfl hl (by decide) rfl (fun ls hl => ?_)
  refine lv_aload_n hx hb dJ7_fill_53178_2 rfl (lv_at hl 1 rfl) ?_
  refine va_alen (v := 3) hx hb hK hP 0 0 rfl rfl (show Int32.ofNat 3 = 3 by decide +kernel) dJ7_fill_53178_3 ?_
  refine lv_istore_n (lv' := [(3, .int 3), (2, .int 0), (0, .ref a), (1, .int i1)]) hx hb dJ7_fill_53178_4 rfl hl (by decide) rfl (fun ls hl => ?_)
  have hlp_10 : ∀ (n : Nat) (v_8 : Int32) (g_9 : Nat → Int32) (H : Heap) (locs : List Loc) (ls : Array Slot), (2147483647 - v_8.toInt).toNat < n → (0 ≤ v_8.toInt) → va_P G vwCl [(a, .inl (cA.1 0, 3, .inl g_9))] H → va_D A [(a, .inl (cA.1 0, 3, .inl g_9))] → va_S A s.heap H locs → lv_has ls 4 [(0, .ref a), (1, .int i1), (2, .int v_8), (3, .int 3)] → W p l e ({ frames := 0, cells := 0, slots := 0, locals := 0 }) s m args below meth c H locs 0 0 Q (F0 m 5 ls []) := by
    intro n
    induction n with
    | zero =>
      intro v_8 g_9 H locs ls hmu_hlp_10 hi_11 hP hD hS hl
      exact absurd hmu_hlp_10 (Nat.not_lt_zero _)
    | succ n ih_12 =>
      intro v_8 g_9 H locs ls hmu_hlp_10 hi_11 hP hD hS hl
      refine lv_iload_n hx hb dJ7_fill_53178_5 rfl (lv_at hl 2 rfl) ?_
      refine lv_iload_n hx hb dJ7_fill_53178_6 rfl (lv_at hl 3 rfl) ?_
      refine lv_icmp_ge (tgt := 20) hx hb dJ7_fill_53178_7 (by decide) (fun c_13 => ?_) (fun c_13 => ?_)
      · have b_14 := z_b1 c_13 (K := 3) (by decide +kernel)
        exact hret _ _ _ _ _ g_9 [0] hP hD hS rfl (by decide) dJ7_fill_53178_20 trivial
      · have b_15 := z_b2 c_13 (K := 3) (by decide +kernel)
        refine lv_aload_n hx hb dJ7_fill_53178_10 rfl (lv_at hl 0 rfl) ?_
        refine lv_iload_n hx hb dJ7_fill_53178_11 rfl (lv_at hl 2 rfl) ?_
        refine lv_iload_n hx hb dJ7_fill_53178_12 rfl (lv_at hl 1 rfl) ?_
        refine va_iast hx hb hK hP hD hS 0 0 rfl rfl (z_inN (by omega) (by omega)) dJ7_fill_53178_13 (fun H locs hP hD hS => ?_)
        have hP : va_P G vwCl [(a, .inl (cA.1 0, 3, .inl (upd g_9 (v_8 : Int32).toNatClampNeg i1)))] H := hP
        have hD : va_D A [(a, .inl (cA.1 0, 3, .inl (upd g_9 (v_8 : Int32).toNatClampNeg i1)))] := hD
        generalize hg_g_16 : (upd g_9 (v_8 : Int32).toNatClampNeg i1) = g_16 at hP hD
        refine lv_iinc (v := (v_8 + 1)) (lv' := [(2, .int (v_8 + 1)), (0, .ref a), (1, .int i1), (3, .int 3)]) hx hb dJ7_fill_53178_14 hl (k := 2) rfl (z_ofi (by decide +kernel)) (by decide) rfl (fun ls hl => ?_)
        refine lv_goto (tgt := 5) hx hb dJ7_fill_53178_17 (by decide) ?_
        exact ih_12 (v_8 + 1) g_16 H locs ls (z_up hmu_hlp_10 (by omega) trivial) (z_upc hi_11 (by omega) trivial) hP hD hS (lv_sub hl [1, 2, 0, 3] rfl)
  exact hlp_10 _ 0 c_a _ _ _ (Nat.lt_succ_self _) (by first | decide +kernel | omega) hP hD hS (lv_sub hl [2, 3, 1, 0] rfl)
set_option maxHeartbeats 4000000 in
set_option maxRecDepth 100000 in
theorem d_fill_l (l : Launch) (G : va_G) (cA : zCA) (a : Nat) (c_a : Nat → Int64) (l1 : Int64) : zCv l yJ7_fill_d0a16 cJ7_fill_d0a16 5 none ({ frames := 0, cells := 0, slots := 0, locals := 0 }) G cA [.ref a, .long l1] [(a, .inl (cA.1 1, 60, .inr (.inl c_a)))] (S := (Nat → Int64)) (fun (u : (Nat → Int64)) => True) (fun (u : (Nat → Int64)) => [(a, .inl (cA.1 1, 60, .inr (.inl u)))]) 0 0 := by
  refine z_start2v (own := RJ7) (by decide) (Nat.le_of_ble_eq_true rfl) rfl ?_
  intro p e s m args below meth c A ls Q hx hb hml hts hown hK hE hT hP hD hS hA hl hret
  have hl : lv_has ls 5 [(0, .ref a), (1, .long l1)] := hl
  refine lv_iconst (v := 0) hx hb dJ7_fill_d0a16_0 (by decide) ?_
  refine lv_istore_n (lv' := [(3, .int 0), (0, .ref a), (1, .long l1)]) hx hb dJ7_fill_d0a16_1 rfl hl (by decide) rfl (fun ls hl => ?_)
  refine lv_aload_n hx hb dJ7_fill_d0a16_2 rfl (lv_at hl 1 rfl) ?_
  refine va_alen (v := 60) hx hb hK hP 0 1 rfl rfl (show Int32.ofNat 60 = 60 by decide +kernel) dJ7_fill_d0a16_3 ?_
  refine lv_istore (lv' := [(4, .int 60), (3, .int 0), (0, .ref a), (1, .long l1)]) hx hb dJ7_fill_d0a16_4 hl (by decide) rfl (fun ls hl => ?_)
  have hlp_10 : ∀ (n : Nat) (v_8 : Int32) (g_9 : Nat → Int64) (H : Heap) (locs : List Loc) (ls : Array Slot), (2147483647 - v_8.toInt).toNat < n → (0 ≤ v_8.toInt) → va_P G vwCl [(a, .inl (cA.1 1, 60, .inr (.inl g_9)))] H → va_D A [(a, .inl (cA.1 1, 60, .inr (.inl g_9)))] → va_S A s.heap H locs → lv_has ls 5 [(0, .ref a), (1, .long l1), (3, .int v_8), (4, .int 60)] → W p l e ({ frames := 0, cells := 0, slots := 0, locals := 0 }) s m args below meth c H locs 0 0 Q (F0 m 6 ls []) := by
    intro n
    induction n with
    | zero =>
      intro v_8 g_9 H locs ls hmu_hlp_10 hi_11 hP hD hS hl
      exact absurd hmu_hlp_10 (Nat.not_lt_zero _)
    | succ n ih_12 =>
      intro v_8 g_9 H locs ls hmu_hlp_10 hi_11 hP hD hS hl
      refine lv_iload_n hx hb dJ7_fill_d0a16_6 rfl (lv_at hl 2 rfl) ?_
      refine lv_iload hx hb dJ7_fill_d0a16_7 (lv_at hl 3 rfl) ?_
      refine lv_icmp_ge (tgt := 22) hx hb dJ7_fill_d0a16_9 (by decide) (fun c_13 => ?_) (fun c_13 => ?_)
      · have b_14 := z_b1 c_13 (K := 60) (by decide +kernel)
        exact hret _ _ _ _ _ g_9 [0] hP hD hS rfl (by decide) dJ7_fill_d0a16_22 trivial
      · have b_15 := z_b2 c_13 (K := 60) (by decide +kernel)
        refine lv_aload_n hx hb dJ7_fill_d0a16_12 rfl (lv_at hl 0 rfl) ?_
        refine lv_iload_n hx hb dJ7_fill_d0a16_13 rfl (lv_at hl 2 rfl) ?_
        refine lv_lload_n hx hb dJ7_fill_d0a16_14 rfl (lv_at hl 1 rfl) ?_
        refine va_last hx hb hK hP hD hS 0 1 rfl rfl (z_inN (by omega) (by omega)) dJ7_fill_d0a16_15 (fun H locs hP hD hS => ?_)
        have hP : va_P G vwCl [(a, .inl (cA.1 1, 60, .inr (.inl (vp_updL g_9 (v_8 : Int32).toNatClampNeg l1))))] H := hP
        have hD : va_D A [(a, .inl (cA.1 1, 60, .inr (.inl (vp_updL g_9 (v_8 : Int32).toNatClampNeg l1))))] := hD
        generalize hg_g_16 : (vp_updL g_9 (v_8 : Int32).toNatClampNeg l1) = g_16 at hP hD
        refine lv_iinc (v := (v_8 + 1)) (lv' := [(3, .int (v_8 + 1)), (0, .ref a), (1, .long l1), (4, .int 60)]) hx hb dJ7_fill_d0a16_16 hl (k := 2) rfl (z_ofi (by decide +kernel)) (by decide) rfl (fun ls hl => ?_)
        refine lv_goto (tgt := 6) hx hb dJ7_fill_d0a16_19 (by decide) ?_
        exact ih_12 (v_8 + 1) g_16 H locs ls (z_up hmu_hlp_10 (by omega) trivial) (z_upc hi_11 (by omega) trivial) hP hD hS (lv_sub hl [1, 2, 0, 3] rfl)
  exact hlp_10 _ 0 c_a _ _ _ (Nat.lt_succ_self _) (by first | decide +kernel | omega) hP hD hS (lv_sub hl [2, 3, 1, 0] rfl)
set_option maxHeartbeats 40000000 in
set_option maxRecDepth 100000 in
theorem d_ja_min (l : Launch) (G : va_G) (cA : zCA) (i1 : Int32) (i2 : Int32) : zCi l yJ9_min_7cf53 cJ9_min_7cf53 2 (some .int) ({ frames := 0, cells := 0, slots := 0, locals := 0 }) G cA [.int i1, .int i2] [] (S := Unit) (fun (r : Int32) (u : Unit) => (r = (F_ja_min i1 i2)) ∧ (r.toInt ≤ i1.toInt ∧ r.toInt ≤ i2.toInt)) (fun (u : Unit) => []) 0 0 := by
  refine z_startFi (own := RJ9) (by decide +kernel) (Nat.le_of_ble_eq_true rfl) rfl ?_
  intro p e s m args below meth c A ls Q hx hb hml hts hown hK hE hT hP hD hS hA hl hret
  have hl : lv_has ls 2 [(0, .int i1), (1, .int i2)] := hl
  refine lv_iload_n hx hb dJ9_min_7cf53_0 rfl (lv_at hl 0 rfl) ?_
  refine lv_iload_n hx hb dJ9_min_7cf53_1 rfl (lv_at hl 1 rfl) ?_
  refine lv_icmp_gt (tgt := 9) hx hb dJ9_min_7cf53_2 (by decide) (fun c_1 => ?_) (fun c_1 => ?_)
  · have b_2 := z_t7 c_1
    refine lv_iload_n hx hb dJ9_min_7cf53_9 rfl (lv_at hl 1 rfl) ?_
    have hX_3 : F_ja_min i1 i2 = (i2 : Int32) := by
      refine (F_ja_min_s ..).trans ?_
      refine (if_pos c_1).trans ?_
      exact rfl
    exact hret _ _ _ _ _ _ () [] hP hD hS rfl (by decide) dJ9_min_7cf53_10 ⟨(congrArg (fun z9 => z9) hX_3).symm, (by omega)⟩
  · have b_4 := z_s8 c_1
    refine lv_iload_n hx hb dJ9_min_7cf53_5 rfl (lv_at hl 0 rfl) ?_
    refine lv_goto (tgt := 10) hx hb dJ9_min_7cf53_6 (by decide) ?_
    have hX_5 : F_ja_min i1 i2 = (i1 : Int32) := by
      refine (F_ja_min_s ..).trans ?_
      refine (if_neg c_1).trans ?_
      exact rfl
    exact hret _ _ _ _ _ _ () [] hP hD hS rfl (by decide) dJ9_min_7cf53_10 ⟨(congrArg (fun z9 => z9) hX_5).symm, (by omega)⟩
set_option maxHeartbeats 4000000 in
set_option maxRecDepth 100000 in
theorem d_ja_max (l : Launch) (G : va_G) (cA : zCA) (l1 : Int64) (l2 : Int64) : zCl l yJ9_max_f86c9 cJ9_max_f86c9 4 (some .long) ({ frames := 0, cells := 0, slots := 0, locals := 0 }) G cA [.long l1, .long l2] [] (S := Unit) (fun (r : Int64) (u : Unit) => True) (fun (u : Unit) => []) 0 0 := by
  refine z_startFl (own := RJ9) (by decide +kernel) (Nat.le_of_ble_eq_true rfl) rfl ?_
  intro p e s m args below meth c A ls Q hx hb hml hts hown hK hE hT hP hD hS hA hl hret
  have hl : lv_has ls 4 [(0, .long l1), (2, .long l2)] := hl
  refine lv_lload_n hx hb dJ9_max_f86c9_0 rfl (lv_at hl 0 rfl) ?_
  refine lv_lload_n hx hb dJ9_max_f86c9_1 rfl (lv_at hl 1 rfl) ?_
  refine W.lcmp hx hb dJ9_max_f86c9_2 ?_
  refine lv_if_lt (tgt := 10) hx hb dJ9_max_f86c9_3 (by decide) (fun c_1 => ?_) (fun c_1 => ?_)
  · have b_2 := z_b3 c_1 (K := 0) (by decide +kernel)
    refine lv_lload_n hx hb dJ9_max_f86c9_10 rfl (lv_at hl 1 rfl) ?_
    exact hret _ _ _ _ _ _ () [] hP hD hS rfl (by decide) dJ9_max_f86c9_11 trivial
  · have b_3 := z_b4 c_1 (K := 0) (by decide +kernel)
    refine lv_lload_n hx hb dJ9_max_f86c9_6 rfl (lv_at hl 0 rfl) ?_
    refine lv_goto (tgt := 11) hx hb dJ9_max_f86c9_7 (by decide) ?_
    exact hret _ _ _ _ _ _ () [] hP hD hS rfl (by decide) dJ9_max_f86c9_11 trivial
set_option maxHeartbeats 4000000 in
set_option maxRecDepth 100000 in
theorem d_ja_abs (l : Launch) (G : va_G) (cA : zCA) (l1 : Int64) : zCl l yJ9_abs_067f4 cJ9_abs_067f4 2 (some .long) ({ frames := 0, cells := 0, slots := 0, locals := 0 }) G cA [.long l1] [] (S := Unit) (fun (r : Int64) (u : Unit) => True) (fun (u : Unit) => []) 0 0 := by
  refine z_startFl (own := RJ9) (by decide +kernel) (Nat.le_of_ble_eq_true rfl) rfl ?_
  intro p e s m args below meth c A ls Q hx hb hml hts hown hK hE hT hP hD hS hA hl hret
  have hl : lv_has ls 2 [(0, .long l1)] := hl
  refine lv_lload_n hx hb dJ9_abs_067f4_0 rfl (lv_at hl 0 rfl) ?_
  refine lv_lconst (v := 0) hx hb dJ9_abs_067f4_1 (by decide) ?_
  refine W.lcmp hx hb dJ9_abs_067f4_2 ?_
  refine lv_if_ge (tgt := 11) hx hb dJ9_abs_067f4_3 (by decide) (fun c_1 => ?_) (fun c_1 => ?_)
  · have b_2 := z_b1 c_1 (K := 0) (by decide +kernel)
    refine lv_lload_n hx hb dJ9_abs_067f4_11 rfl (lv_at hl 0 rfl) ?_
    exact hret _ _ _ _ _ _ () [] hP hD hS rfl (by decide) dJ9_abs_067f4_12 trivial
  · have b_3 := z_b2 c_1 (K := 0) (by decide +kernel)
    refine lv_lload_n hx hb dJ9_abs_067f4_6 rfl (lv_at hl 0 rfl) ?_
    refine lv_lneg hx hb dJ9_abs_067f4_7 ?_
    refine lv_topl (fun x_4 _ => ?_)
    refine lv_goto (tgt := 12) hx hb dJ9_abs_067f4_8 (by decide) ?_
    exact hret _ _ _ _ _ _ () [] hP hD hS rfl (by decide) dJ9_abs_067f4_12 trivial
set_option maxHeartbeats 40000000 in
set_option maxRecDepth 100000 in
theorem d_ja_floorMod (l : Launch) (G : va_G) (cA : zCA) (i1 : Int32) (i2 : Int32) (hn0 : i2.toInt ≠ 0) : zCi l yJ9_floorMod_7cf53 cJ9_floorMod_7cf53 3 (some .int) ({ frames := 0, cells := 0, slots := 0, locals := 0 }) G cA [.int i1, .int i2] [] (S := Unit) (fun (r : Int32) (u : Unit) => (r = (F_ja_floorMod i1 i2)) ∧ (True)) (fun (u : Unit) => []) 0 0 := by
  refine z_startFi (own := RJ9) (by decide +kernel) (Nat.le_of_ble_eq_true rfl) rfl ?_
  intro p e s m args below meth c A ls Q hx hb hml hts hown hK hE hT hP hD hS hA hl hret
  have hl : lv_has ls 3 [(0, .int i1), (1, .int i2)] := hl
  refine lv_iload_n hx hb dJ9_floorMod_7cf53_0 rfl (lv_at hl 0 rfl) ?_
  refine lv_iload_n hx hb dJ9_floorMod_7cf53_1 rfl (lv_at hl 1 rfl) ?_
  refine lv_irem hx hb dJ9_floorMod_7cf53_2 (z_nz (by omega)) ?_
  refine lv_topi (fun x_1 he_x_1 => ?_)
  refine lv_istore_n (lv' := [(2, .int x_1), (0, .int i1), (1, .int i2)]) hx hb dJ9_floorMod_7cf53_3 rfl hl (by decide) rfl (fun ls hl => ?_)
  refine lv_iload_n hx hb dJ9_floorMod_7cf53_4 rfl (lv_at hl 1 rfl) ?_
  refine lv_iload_n hx hb dJ9_floorMod_7cf53_5 rfl (lv_at hl 2 rfl) ?_
  refine lv_ixor hx hb dJ9_floorMod_7cf53_6 ?_
  refine lv_topi (fun x_2 he_x_2 => ?_)
  refine lv_if_ge (tgt := 18) hx hb dJ9_floorMod_7cf53_7 (by decide) (fun c_3 => ?_) (fun c_3 => ?_)
  · have b_4 := z_b1 c_3 (K := 0) (by decide +kernel)
    refine lv_iload_n hx hb dJ9_floorMod_7cf53_18 rfl (lv_at hl 0 rfl) ?_
    have hX_5 : F_ja_floorMod i1 i2 = (x_1 : Int32) := by
      refine (F_ja_floorMod_s ..).trans ?_
      try (extract_lets -merge -useContext +onlyGivenNames y9; have e9 : x_1 = y9 := (by first | exact he_x_1 | exact he_x_1.symm); clear_value y9; subst e9)
      try (extract_lets -merge -useContext +onlyGivenNames y9; have e9 : x_2 = y9 := (by first | exact he_x_2 | exact he_x_2.symm); clear_value y9; subst e9)
      refine (if_pos c_3).trans ?_
      exact rfl
    exact hret _ _ _ _ _ _ () [] hP hD hS rfl (by decide) dJ9_floorMod_7cf53_19 ⟨(congrArg (fun z9 => z9) hX_5).symm, trivial⟩
  · have b_6 := z_b2 c_3 (K := 0) (by decide +kernel)
    refine lv_iload_n hx hb dJ9_floorMod_7cf53_10 rfl (lv_at hl 0 rfl) ?_
    refine lv_if_eq (tgt := 18) hx hb dJ9_floorMod_7cf53_11 (by decide) (fun c_7 => ?_) (fun c_7 => ?_)
    · skip
      refine lv_iload_n hx hb dJ9_floorMod_7cf53_18 rfl (lv_at hl 0 rfl) ?_
      have hX_9 : F_ja_floorMod i1 i2 = (x_1 : Int32) := by
        refine (F_ja_floorMod_s ..).trans ?_
        try (extract_lets -merge -useContext +onlyGivenNames y9; have e9 : x_1 = y9 := (by first | exact he_x_1 | exact he_x_1.symm); clear_value y9; subst e9)
        try (extract_lets -merge -useContext +onlyGivenNames y9; have e9 : x_2 = y9 := (by first | exact he_x_2 | exact he_x_2.symm); clear_value y9; subst e9)
        refine (if_neg c_3).trans ?_
        refine (if_pos c_7).trans ?_
        exact rfl
      exact hret _ _ _ _ _ _ () [] hP hD hS rfl (by decide) dJ9_floorMod_7cf53_19 ⟨(congrArg (fun z9 => z9) hX_9).symm, trivial⟩
    · skip
      refine lv_iload_n hx hb dJ9_floorMod_7cf53_14 rfl (lv_at hl 0 rfl) ?_
      refine lv_iload_n hx hb dJ9_floorMod_7cf53_15 rfl (lv_at hl 2 rfl) ?_
      refine lv_iadd hx hb dJ9_floorMod_7cf53_16 ?_
      refine lv_topi (fun x_11 he_x_11 => ?_)
      have hX_12 : F_ja_floorMod i1 i2 = (x_11 : Int32) := by
        refine (F_ja_floorMod_s ..).trans ?_
        try (extract_lets -merge -useContext +onlyGivenNames y9; have e9 : x_1 = y9 := (by first | exact he_x_1 | exact he_x_1.symm); clear_value y9; subst e9)
        try (extract_lets -merge -useContext +onlyGivenNames y9; have e9 : x_2 = y9 := (by first | exact he_x_2 | exact he_x_2.symm); clear_value y9; subst e9)
        refine (if_neg c_3).trans ?_
        refine (if_neg c_7).trans ?_
        try (extract_lets -merge -useContext +onlyGivenNames y9; have e9 : x_11 = y9 := (by first | exact he_x_11 | exact he_x_11.symm); clear_value y9; subst e9)
        exact rfl
      exact hret _ _ _ _ _ _ () [] hP hD hS rfl (by decide) dJ9_floorMod_7cf53_17 ⟨(congrArg (fun z9 => z9) hX_12).symm, trivial⟩
set_option maxHeartbeats 40000000 in
set_option maxRecDepth 100000 in
theorem d_Da_inRing (l : Launch) (G : va_G) (cA : zCA) (i1 : Int32) (i2 : Int32) : zCi l yX11_inRing cX11_inRing 2 (some .int) ({ frames := 1, cells := 0, slots := 0, locals := 22 }) G cA [.int i1, .int i2] [] (S := Unit) (fun (r : Int32) (u : Unit) => (r = (F_Da_inRing i1 i2)) ∧ (True)) (fun (u : Unit) => []) 0 0 := by
  refine z_start2i (own := RX11) (by decide) (Nat.le_of_ble_eq_true rfl) rfl ?_
  intro p e s m args below meth c A ls Q hx hb hml hts hown hK hE hT hP hD hS hA hl hret
  have hl : lv_has ls 2 [(0, .int i1), (1, .int i2)] := hl
  refine lv_iload_n hx hb dX11_inRing_0 rfl (lv_at hl 1 rfl) ?_
  refine lv_if_le (tgt := 12) hx hb dX11_inRing_1 (by decide) (fun c_1 => ?_) (fun c_1 => ?_)
  · have b_2 := z_b5 c_1 (K := 0) (by decide +kernel)
    refine lv_iconst (v := 0) hx hb dX11_inRing_12 (by decide) ?_
    have hX_3 : F_Da_inRing i1 i2 = ((0 : Int32) : Int32) := by
      refine (F_Da_inRing_s ..).trans ?_
      refine (if_pos c_1).trans ?_
      exact rfl
    exact hret _ _ _ _ _ _ () [] hP hD hS rfl (by decide) dX11_inRing_13 ⟨(congrArg (fun z9 => z9) hX_3).symm, trivial⟩
  · have b_4 := z_b6 c_1 (K := 0) (by decide +kernel)
    refine lv_iload_n hx hb dX11_inRing_4 rfl (lv_at hl 0 rfl) ?_
    refine lv_iload_n hx hb dX11_inRing_5 rfl (lv_at hl 1 rfl) ?_
    refine z_callSi (As := [.int i1, .int i2]) (rest := []) (wr := []) ⟨hx, hb, hml, hown, hts⟩ hK hE hT hP hD hS hA (d_ja_floorMod l G cA i1 i2 (by omega)) lk_RX11_465 ⟨rfl, rfl⟩ ⟨Nat.le_of_ble_eq_true rfl, Nat.le_of_ble_eq_true rfl⟩ [] [] rfl rfl (by decide) rfl hl.1 rfl (lv_room (Nat.le_of_ble_eq_true rfl)) dX11_inRing_6 ⟨Nat.le_of_ble_eq_true rfl, Nat.le_of_ble_eq_true rfl⟩ (fun r_5 u_6 H locs hw hP hD hS => ?_)
    have hP : va_P G vwCl [] H := hP
    have hD : va_D A [] := hD
    obtain ⟨he_r_5, hw⟩ := hw
    refine lv_goto (tgt := 13) hx hb dX11_inRing_9 (by decide) ?_
    have hX_8 : F_Da_inRing i1 i2 = (r_5 : Int32) := by
      refine (F_Da_inRing_s ..).trans ?_
      refine (if_neg c_1).trans ?_
      extract_lets -merge -useContext +onlyGivenNames w9 y9; have e9 : r_5 = w9 := he_r_5; clear_value w9; subst e9
      exact rfl
    exact hret _ _ _ _ _ _ () [] hP hD hS rfl (by decide) dX11_inRing_13 ⟨(congrArg (fun z9 => z9) hX_8).symm, trivial⟩
set_option maxHeartbeats 40000000 in
set_option maxRecDepth 100000 in
theorem d_ja_bitCount (l : Launch) (G : va_G) (cA : zCA) (k : Int32) : zCi l yJ6_bitCount_0f7a4 cJ6_bitCount_0f7a4 1 (some .int) ({ frames := 0, cells := 0, slots := 0, locals := 0 }) G cA [.int k] [] (S := Unit) (fun (r : Int32) (u : Unit) => (r = (F_ja_bitCount k)) ∧ (True)) (fun (u : Unit) => []) 0 0 := by
  refine z_start2i (own := RJ6) (by decide) (Nat.le_of_ble_eq_true rfl) rfl ?_
  intro p e s m args below meth c A ls Q hx hb hml hts hown hK hE hT hP hD hS hA hl hret
  have hl : lv_has ls 1 [(0, .int k)] := hl
  refine lv_iload_n hx hb dJ6_bitCount_0f7a4_0 rfl (lv_at hl 0 rfl) ?_
  refine lv_iload_n hx hb dJ6_bitCount_0f7a4_1 rfl (lv_at hl 0 rfl) ?_
  refine lv_iconst (v := 1) hx hb dJ6_bitCount_0f7a4_2 (by decide) ?_
  refine lv_iushr hx hb dJ6_bitCount_0f7a4_3 rfl ?_
  refine lv_topi (fun x_1 he_x_1 => ?_)
  refine lv_ldcw (v := 1431655765) hx hb hown (hts _ tw_1692) dJ6_bitCount_0f7a4_4 ?_
  refine lv_iand hx hb dJ6_bitCount_0f7a4_7 ?_
  refine lv_topi (fun x_2 he_x_2 => ?_)
  refine lv_isub hx hb dJ6_bitCount_0f7a4_8 ?_
  refine lv_topi (fun x_3 he_x_3 => ?_)
  refine lv_istore_n (lv' := [(0, .int x_3)]) hx hb dJ6_bitCount_0f7a4_9 rfl hl (by decide) rfl (fun ls hl => ?_)
  refine lv_iload_n hx hb dJ6_bitCount_0f7a4_10 rfl (lv_at hl 0 rfl) ?_
  refine lv_ldcw (v := 858993459) hx hb hown (hts _ tw_1693) dJ6_bitCount_0f7a4_11 ?_
  refine lv_iand hx hb dJ6_bitCount_0f7a4_14 ?_
  refine lv_topi (fun x_4 he_x_4 => ?_)
  refine lv_iload_n hx hb dJ6_bitCount_0f7a4_15 rfl (lv_at hl 0 rfl) ?_
  refine lv_iconst (v := 2) hx hb dJ6_bitCount_0f7a4_16 (by decide) ?_
  refine lv_iushr hx hb dJ6_bitCount_0f7a4_17 rfl ?_
  refine lv_topi (fun x_5 he_x_5 => ?_)
  refine lv_ldcw (v := 858993459) hx hb hown (hts _ tw_1693) dJ6_bitCount_0f7a4_18 ?_
  refine lv_iand hx hb dJ6_bitCount_0f7a4_21 ?_
  refine lv_topi (fun x_6 he_x_6 => ?_)
  refine lv_iadd hx hb dJ6_bitCount_0f7a4_22 ?_
  refine lv_topi (fun x_7 he_x_7 => ?_)
  refine lv_istore_n (lv' := [(0, .int x_7)]) hx hb dJ6_bitCount_0f7a4_23 rfl hl (by decide) rfl (fun ls hl => ?_)
  refine lv_iload_n hx hb dJ6_bitCount_0f7a4_24 rfl (lv_at hl 0 rfl) ?_
  refine lv_iload_n hx hb dJ6_bitCount_0f7a4_25 rfl (lv_at hl 0 rfl) ?_
  refine lv_iconst (v := 4) hx hb dJ6_bitCount_0f7a4_26 (by decide) ?_
  refine lv_iushr hx hb dJ6_bitCount_0f7a4_27 rfl ?_
  refine lv_topi (fun x_8 he_x_8 => ?_)
  refine lv_iadd hx hb dJ6_bitCount_0f7a4_28 ?_
  refine lv_topi (fun x_9 he_x_9 => ?_)
  refine lv_ldcw (v := 252645135) hx hb hown (hts _ tw_1694) dJ6_bitCount_0f7a4_29 ?_
  refine lv_iand hx hb dJ6_bitCount_0f7a4_32 ?_
  refine lv_topi (fun x_10 he_x_10 => ?_)
  refine lv_istore_n (lv' := [(0, .int x_10)]) hx hb dJ6_bitCount_0f7a4_33 rfl hl (by decide) rfl (fun ls hl => ?_)
  refine lv_iload_n hx hb dJ6_bitCount_0f7a4_34 rfl (lv_at hl 0 rfl) ?_
  refine lv_iload_n hx hb dJ6_bitCount_0f7a4_35 rfl (lv_at hl 0 rfl) ?_
  refine lv_bipush (v := 8) hx hb dJ6_bitCount_0f7a4_36 (by decide) ?_
  refine lv_iushr hx hb dJ6_bitCount_0f7a4_38 rfl ?_
  refine lv_topi (fun x_11 he_x_11 => ?_)
  refine lv_iadd hx hb dJ6_bitCount_0f7a4_39 ?_
  refine lv_topi (fun x_12 he_x_12 => ?_)
  refine lv_istore_n (lv' := [(0, .int x_12)]) hx hb dJ6_bitCount_0f7a4_40 rfl hl (by decide) rfl (fun ls hl => ?_)
  refine lv_iload_n hx hb dJ6_bitCount_0f7a4_41 rfl (lv_at hl 0 rfl) ?_
  refine lv_iload_n hx hb dJ6_bitCount_0f7a4_42 rfl (lv_at hl 0 rfl) ?_
  refine lv_bipush (v := 16) hx hb dJ6_bitCount_0f7a4_43 (by decide) ?_
  refine lv_iushr hx hb dJ6_bitCount_0f7a4_45 rfl ?_
  refine lv_topi (fun x_13 he_x_13 => ?_)
  refine lv_iadd hx hb dJ6_bitCount_0f7a4_46 ?_
  refine lv_topi (fun x_14 he_x_14 => ?_)
  refine lv_istore_n (lv' := [(0, .int x_14)]) hx hb dJ6_bitCount_0f7a4_47 rfl hl (by decide) rfl (fun ls hl => ?_)
  refine lv_iload_n hx hb dJ6_bitCount_0f7a4_48 rfl (lv_at hl 0 rfl) ?_
  refine lv_bipush (v := 63) hx hb dJ6_bitCount_0f7a4_49 (by decide) ?_
  refine lv_iand hx hb dJ6_bitCount_0f7a4_51 ?_
  refine lv_topi (fun x_15 he_x_15 => ?_)
  have hX_16 : F_ja_bitCount k = (x_15 : Int32) := by
    refine (F_ja_bitCount_s ..).trans ?_
    try (extract_lets -merge -useContext +onlyGivenNames y9; have e9 : x_1 = y9 := (by first | exact he_x_1 | exact he_x_1.symm); clear_value y9; subst e9)
    try (extract_lets -merge -useContext +onlyGivenNames y9; have e9 : x_2 = y9 := (by first | exact he_x_2 | exact he_x_2.symm); clear_value y9; subst e9)
    try (extract_lets -merge -useContext +onlyGivenNames y9; have e9 : x_3 = y9 := (by first | exact he_x_3 | exact he_x_3.symm); clear_value y9; subst e9)
    try (extract_lets -merge -useContext +onlyGivenNames y9; have e9 : x_4 = y9 := (by first | exact he_x_4 | exact he_x_4.symm); clear_value y9; subst e9)
    try (extract_lets -merge -useContext +onlyGivenNames y9; have e9 : x_5 = y9 := (by first | exact he_x_5 | exact he_x_5.symm); clear_value y9; subst e9)
    try (extract_lets -merge -useContext +onlyGivenNames y9; have e9 : x_6 = y9 := (by first | exact he_x_6 | exact he_x_6.symm); clear_value y9; subst e9)
    try (extract_lets -merge -useContext +onlyGivenNames y9; have e9 : x_7 = y9 := (by first | exact he_x_7 | exact he_x_7.symm); clear_value y9; subst e9)
    try (extract_lets -merge -useContext +onlyGivenNames y9; have e9 : x_8 = y9 := (by first | exact he_x_8 | exact he_x_8.symm); clear_value y9; subst e9)
    try (extract_lets -merge -useContext +onlyGivenNames y9; have e9 : x_9 = y9 := (by first | exact he_x_9 | exact he_x_9.symm); clear_value y9; subst e9)
    try (extract_lets -merge -useContext +onlyGivenNames y9; have e9 : x_10 = y9 := (by first | exact he_x_10 | exact he_x_10.symm); clear_value y9; subst e9)
    try (extract_lets -merge -useContext +onlyGivenNames y9; have e9 : x_11 = y9 := (by first | exact he_x_11 | exact he_x_11.symm); clear_value y9; subst e9)
    try (extract_lets -merge -useContext +onlyGivenNames y9; have e9 : x_12 = y9 := (by first | exact he_x_12 | exact he_x_12.symm); clear_value y9; subst e9)
    try (extract_lets -merge -useContext +onlyGivenNames y9; have e9 : x_13 = y9 := (by first | exact he_x_13 | exact he_x_13.symm); clear_value y9; subst e9)
    try (extract_lets -merge -useContext +onlyGivenNames y9; have e9 : x_14 = y9 := (by first | exact he_x_14 | exact he_x_14.symm); clear_value y9; subst e9)
    try (extract_lets -merge -useContext +onlyGivenNames y9; have e9 : x_15 = y9 := (by first | exact he_x_15 | exact he_x_15.symm); clear_value y9; subst e9)
    exact rfl
  exact hret _ _ _ _ _ _ () [] hP hD hS rfl (by decide) dJ6_bitCount_0f7a4_52 ⟨(congrArg (fun z9 => z9) hX_16).symm, trivial⟩
