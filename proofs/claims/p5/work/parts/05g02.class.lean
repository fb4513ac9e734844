set_option maxHeartbeats 4000000 in
set_option maxRecDepth 100000 in
theorem d_H_setOn (l : Launch) (G : va_G) (cA : zCA) (h : Nat) (h_features : Int32) (h_featureNames : Nat) (h_steps : Nat) (h_turnedFeatures : Nat) (h_sixteenths : Nat) (h_keys : Int32) (h_keySteps : Nat) (h_lent : Int32) (h_rings : Int32) (h_on : Nat) (h_onMany : Nat) (h_doors : Int32) (h_wanted : Nat) (h_openers : Nat) (h_seconds : Nat) (h_turned : Int32) (h_roundMany : Int32) (h_roundDoors : Nat) (c_h_on : Nat → Int32) (c_h_onMany : Nat → Int32) (k : Int32) : zCi l yX2_setOn cX2_setOn 4 (some .int) ({ frames := 3, cells := 0, slots := 0, locals := 64 }) G cA [.ref h, .int k] [(h, .inr (2, [.int h_features, .ref h_featureNames, .ref h_steps, .ref h_turnedFeatures, .ref h_sixteenths, .int h_keys, .ref h_keySteps, .int h_lent, .int h_rings, .ref h_on, .ref h_onMany, .int h_doors, .ref h_wanted, .ref h_openers, .ref h_seconds, .int h_turned, .int h_roundMany, .ref h_roundDoors])), (h_on, .inl (cA.1 0, 30, .inl c_h_on)), (h_onMany, .inl (cA.1 0, 3, .inl c_h_onMany))] (S := Unit) (fun (r : Int32) (u : Unit) => True) (fun (u : Unit) => [(h, .inr (2, [.int h_features, .ref h_featureNames, .ref h_steps, .ref h_turnedFeatures, .ref h_sixteenths, .int h_keys, .ref h_keySteps, .int h_lent, .int h_rings, .ref h_on, .ref h_onMany, .int h_doors, .ref h_wanted, .ref h_openers, .ref h_seconds, .int h_turned, .int h_roundMany, .ref h_roundDoors])), (h_on, .inl (cA.1 0, 30, .inl c_h_on)), (h_onMany, .inl (cA.1 0, 3, .inl c_h_onMany))]) 0 0 := by
  refine z_start2i (own := RX2) (by decide) (Nat.le_of_ble_eq_true rfl) rfl ?_
  intro p e s m args below meth c A ls Q hx hb hml hts hown hK hE hT hP hD hS hA hl hret
  have hl : lv_has ls 4 [(0, .ref h), (1, .int k)] := hl
  refine lv_iconst (v := 0) hx hb dX2_setOn_0 (by decide) ?_
  refine lv_istore_n (lv' := [(2, .int 0), (0, .ref h), (1, .int k)]) hx hb dX2_setOn_1 rfl hl (by decide) rfl (fun ls hl => ?_)
  refine lv_iconst (v := 0) hx hb dX2_setOn_2 (by decide) ?_
  refine lv_istore_n (lv' := [(3, .int 0), (2, .int 0), (0, .ref h), (1, .int k)]) hx hb dX2_setOn_3 rfl hl (by decide) rfl (fun ls hl => ?_)
  have hlp_21 : ∀ (n : Nat) (v_19 : Int32) (v_20 : Int32) (H : Heap) (locs : List Loc) (ls : Array Slot), (2147483647 - v_20.toInt).toNat < n → (0 ≤ v_20.toInt) → va_P G vwCl [(h, .inr (2, [.int h_features, .ref h_featureNames, .ref h_steps, .ref h_turnedFeatures, .ref h_sixteenths, .int h_keys, .ref h_keySteps, .int h_lent, .int h_rings, .ref h_on, .ref h_onMany, .int h_doors, .ref h_wanted, .ref h_openers, .ref h_seconds, .int h_turned, .int h_roundMany, .ref h_roundDoors])), (h_on, .inl (cA.1 0, 30, .inl c_h_on)), (h_onMany, .inl (cA.1 0, 3, .inl c_h_onMany))] H → va_D A [(h, .inr (2, [.int h_features, .ref h_featureNames, .ref h_steps, .ref h_turnedFeatures, .ref h_sixteenths, .int h_keys, .ref h_keySteps, .int h_lent, .int h_rings, .ref h_on, .ref h_onMany, .int h_doors, .ref h_wanted, .ref h_openers, .ref h_seconds, .int h_turned, .int h_roundMany, .ref h_roundDoors])), (h_on, .inl (cA.1 0, 30, .inl c_h_on)), (h_onMany, .inl (cA.1 0, 3, .inl c_h_onMany))] → va_S A s.heap H locs → lv_has ls 4 [(0, .ref h), (1, .int k), (2, .int v_19), (3, .int v_20)] → W p l e ({ frames := 3, cells := 0, slots := 0, locals := 64 }) s m args below meth c H locs 0 0 Q (F0 m 4 ls []) := by
    intro n
    induction n with
    | zero =>
      intro v_19 v_20 H locs ls hmu hi_22 hP hD hS hl
      exact absurd hmu (Nat.not_lt_zero _)
    | succ n ih_23 =>
      intro v_19 v_20 H locs ls hmu hi_22 hP hD hS hl
      refine lv_iload_n hx hb dX2_setOn_4 rfl (lv_at hl 3 rfl) ?_
      refine lv_aload_n hx hb dX2_setOn_5 rfl (lv_at hl 0 rfl) ?_
      refine lv_iload_n hx hb dX2_setOn_6 rfl (lv_at hl 1 rfl) ?_
      refine z_callVi (As := [.int k]) (rest := [.int v_20]) (wr := [(h_on, .inl (cA.1 0, 30, .inl c_h_on))]) ⟨hx, hb, hml, hown, hts⟩ hK hE hT hP hD hS hA (d_H_manyOn l G cA h h_features h_featureNames h_steps h_turnedFeatures h_sixteenths h_keys h_keySteps h_lent h_rings h_on h_onMany h_doors h_wanted h_openers h_seconds h_turned h_roundMany h_roundDoors c_h_onMany k) lk_RX2_113 ⟨rfl, rfl⟩ ⟨Nat.le_of_ble_eq_true rfl, Nat.le_of_ble_eq_true rfl⟩ 2 rfl rfl rfl [0, 2] [1] rfl rfl (by decide) rfl hl.1 rfl (lv_room (Nat.le_of_ble_eq_true rfl)) dX2_setOn_7 ⟨Nat.le_of_ble_eq_true rfl, Nat.le_of_ble_eq_true rfl⟩ (fun r_24 u_25 H locs hw hP hD hS => ?_)
      have hP : va_P G vwCl [(h_on, .inl (cA.1 0, 30, .inl c_h_on)), (h, .inr (2, [.int h_features, .ref h_featureNames, .ref h_steps, .ref h_turnedFeatures, .ref h_sixteenths, .int h_keys, .ref h_keySteps, .int h_lent, .int h_rings, .ref h_on, .ref h_onMany, .int h_doors, .ref h_wanted, .ref h_openers, .ref h_seconds, .int h_turned, .int h_roundMany, .ref h_roundDoors])), (h_onMany, .inl (cA.1 0, 3, .inl c_h_onMany))] H := hP
      have hD : va_D A [(h_on, .inl (cA.1 0, 30, .inl c_h_on)), (h, .inr (2, [.int h_features, .ref h_featureNames, .ref h_steps, .ref h_turnedFeatures, .ref h_sixteenths, .int h_keys, .ref h_keySteps, .int h_lent, .int h_rings, .ref h_on, .ref h_onMany, .int h_doors, .ref h_wanted, .ref h_openers, .ref h_seconds, .int h_turned, .int h_roundMany, .ref h_roundDoors])), (h_onMany, .inl (cA.1 0, 3, .inl c_h_onMany))] := hD
      refine lv_icmp_ge (tgt := 30) hx hb dX2_setOn_10 (by decide) (fun c_26 => ?_) (fun c_26 => ?_)
      · have b_27 := z_s1 c_26
        refine lv_iload_n hx hb dX2_setOn_30 rfl (lv_at hl 2 rfl) ?_
        exact hret _ _ _ _ _ _ () [1, 0, 2] hP hD hS rfl (by decide) dX2_setOn_31 trivial
      · have b_28 := z_s2 c_26
        refine lv_iload_n hx hb dX2_setOn_13 rfl (lv_at hl 2 rfl) ?_
        refine lv_iconst (v := 1) hx hb dX2_setOn_14 (by decide) ?_
        refine lv_aload_n hx hb dX2_setOn_15 rfl (lv_at hl 0 rfl) ?_
        refine lv_iload_n hx hb dX2_setOn_16 rfl (lv_at hl 1 rfl) ?_
        refine lv_iload_n hx hb dX2_setOn_17 rfl (lv_at hl 3 rfl) ?_
        refine z_callVi (As := [.int k, .int v_20]) (rest := [.int 1, .int v_19]) (wr := []) ⟨hx, hb, hml, hown, hts⟩ hK hE hT hP hD hS hA (d_H_keyOn l G cA h h_features h_featureNames h_steps h_turnedFeatures h_sixteenths h_keys h_keySteps h_lent h_rings h_on h_onMany h_doors h_wanted h_openers h_seconds h_turned h_roundMany h_roundDoors c_h_on c_h_onMany k v_20) lk_RX2_116 ⟨rfl, rfl⟩ ⟨Nat.le_of_ble_eq_true rfl, Nat.le_of_ble_eq_true rfl⟩ 2 rfl rfl rfl [1, 0, 2] [] rfl rfl (by decide) rfl hl.1 rfl (lv_room (Nat.le_of_ble_eq_true rfl)) dX2_setOn_18 ⟨Nat.le_of_ble_eq_true rfl, Nat.le_of_ble_eq_true rfl⟩ (fun r_29 u_30 H locs hw hP hD hS => ?_)
        have hP : va_P G vwCl [(h, .inr (2, [.int h_features, .ref h_featureNames, .ref h_steps, .ref h_turnedFeatures, .ref h_sixteenths, .int h_keys, .ref h_keySteps, .int h_lent, .int h_rings, .ref h_on, .ref h_onMany, .int h_doors, .ref h_wanted, .ref h_openers, .ref h_seconds, .int h_turned, .int h_roundMany, .ref h_roundDoors])), (h_on, .inl (cA.1 0, 30, .inl c_h_on)), (h_onMany, .inl (cA.1 0, 3, .inl c_h_onMany))] H := hP
        have hD : va_D A [(h, .inr (2, [.int h_features, .ref h_featureNames, .ref h_steps, .ref h_turnedFeatures, .ref h_sixteenths, .int h_keys, .ref h_keySteps, .int h_lent, .int h_rings, .ref h_on, .ref h_onMany, .int h_doors, .ref h_wanted, .ref h_openers, .ref h_seconds, .int h_turned, .int h_roundMany, .ref h_roundDoors])), (h_on, .inl (cA.1 0, 30, .inl c_h_on)), (h_onMany, .inl (cA.1 0, 3, .inl c_h_onMany))] := hD
        refine lv_ishl hx hb dX2_setOn_21 ?_
        refine lv_topi (fun x_31 _ => ?_)
        refine lv_ior hx hb dX2_setOn_22 ?_
        refine lv_topi (fun x_32 _ => ?_)
        refine lv_istore_n (lv' := [(2, .int x_32), (0, .ref h), (1, .int k), (3, .int v_20)]) hx hb dX2_setOn_23 rfl hl (by decide) rfl (fun ls hl => ?_)
        refine lv_iinc (v := (v_20 + 1)) (lv' := [(3, .int (v_20 + 1)), (2, .int x_32), (0, .ref h), (1, .int k)]) hx hb dX2_setOn_24 hl (k := 3) rfl (z_ofi (by decide +kernel)) (by decide) rfl (fun ls hl => ?_)
        refine lv_goto (tgt := 4) hx hb dX2_setOn_27 (by decide) ?_
        exact ih_23 x_32 (v_20 + 1) H locs ls (z_up hmu (by omega) (by omega)) (z_upc hi_22 (by omega) (by omega)) hP hD hS (lv_sub hl [2, 3, 1, 0] rfl)
  exact hlp_21 _ 0 0 _ _ _ (Nat.lt_succ_self _) (by first | decide +kernel | omega) hP hD hS (lv_sub hl [2, 3, 1, 0] rfl)
set_option maxHeartbeats 4000000 in
set_option maxRecDepth 100000 in
theorem d_H_placeOn (l : Launch) (G : va_G) (cA : zCA) (h : Nat) (h_features : Int32) (h_featureNames : Nat) (h_steps : Nat) (h_turnedFeatures : Nat) (h_sixteenths : Nat) (h_keys : Int32) (h_keySteps : Nat) (h_lent : Int32) (h_rings : Int32) (h_on : Nat) (h_onMany : Nat) (h_doors : Int32) (h_wanted : Nat) (h_openers : Nat) (h_seconds : Nat) (h_turned : Int32) (h_roundMany : Int32) (h_roundDoors : Nat) (c_h_on : Nat → Int32) (c_h_onMany : Nat → Int32) (x : Int32) (y : Int32) : zCi l yX2_placeOn cX2_placeOn 4 (some .int) ({ frames := 3, cells := 0, slots := 0, locals := 64 }) G cA [.ref h, .int x, .int y] [(h, .inr (2, [.int h_features, .ref h_featureNames, .ref h_steps, .ref h_turnedFeatures, .ref h_sixteenths, .int h_keys, .ref h_keySteps, .int h_lent, .int h_rings, .ref h_on, .ref h_onMany, .int h_doors, .ref h_wanted, .ref h_openers, .ref h_seconds, .int h_turned, .int h_roundMany, .ref h_roundDoors])), (h_on, .inl (cA.1 0, 30, .inl c_h_on)), (h_onMany, .inl (cA.1 0, 3, .inl c_h_onMany))] (S := Unit) (fun (r : Int32) (u : Unit) => True) (fun (u : Unit) => [(h, .inr (2, [.int h_features, .ref h_featureNames, .ref h_steps, .ref h_turnedFeatures, .ref h_sixteenths, .int h_keys, .ref h_keySteps, .int h_lent, .int h_rings, .ref h_on, .ref h_onMany, .int h_doors, .ref h_wanted, .ref h_openers, .ref h_seconds, .int h_turned, .int h_roundMany, .ref h_roundDoors])), (h_on, .inl (cA.1 0, 30, .inl c_h_on)), (h_onMany, .inl (cA.1 0, 3, .inl c_h_onMany))]) 0 0 := by
  refine z_start2i (own := RX2) (by decide) (Nat.le_of_ble_eq_true rfl) rfl ?_
  intro p e s m args below meth c A ls Q hx hb hml hts hown hK hE hT hP hD hS hA hl hret
  have hl : lv_has ls 4 [(0, .ref h), (1, .int x), (2, .int y)] := hl
  refine lv_iconst (v := 0) hx hb dX2_placeOn_0 (by decide) ?_
  refine lv_istore_n (lv' := [(3, .int 0), (0, .ref h), (1, .int x), (2, .int y)]) hx hb dX2_placeOn_1 rfl hl (by decide) rfl (fun ls hl => ?_)
  have hlp_21 : ∀ (n : Nat) (v_20 : Int32) (H : Heap) (locs : List Loc) (ls : Array Slot), (2147483647 - v_20.toInt).toNat < n → (0 ≤ v_20.toInt) → va_P G vwCl [(h, .inr (2, [.int h_features, .ref h_featureNames, .ref h_steps, .ref h_turnedFeatures, .ref h_sixteenths, .int h_keys, .ref h_keySteps, .int h_lent, .int h_rings, .ref h_on, .ref h_onMany, .int h_doors, .ref h_wanted, .ref h_openers, .ref h_seconds, .int h_turned, .int h_roundMany, .ref h_roundDoors])), (h_on, .inl (cA.1 0, 30, .inl c_h_on)), (h_onMany, .inl (cA.1 0, 3, .inl c_h_onMany))] H → va_D A [(h, .inr (2, [.int h_features, .ref h_featureNames, .ref h_steps, .ref h_turnedFeatures, .ref h_sixteenths, .int h_keys, .ref h_keySteps, .int h_lent, .int h_rings, .ref h_on, .ref h_onMany, .int h_doors, .ref h_wanted, .ref h_openers, .ref h_seconds, .int h_turned, .int h_roundMany, .ref h_roundDoors])), (h_on, .inl (cA.1 0, 30, .inl c_h_on)), (h_onMany, .inl (cA.1 0, 3, .inl c_h_onMany))] → va_S A s.heap H locs → lv_has ls 4 [(0, .ref h), (1, .int x), (2, .int y), (3, .int v_20)] → W p l e ({ frames := 3, cells := 0, slots := 0, locals := 64 }) s m args below meth c H locs 0 0 Q (F0 m 2 ls []) := by
    intro n
    induction n with
    | zero =>
      intro v_20 H locs ls hmu hi_22 hP hD hS hl
      exact absurd hmu (Nat.not_lt_zero _)
    | succ n ih_23 =>
      intro v_20 H locs ls hmu hi_22 hP hD hS hl
      refine lv_iload_n hx hb dX2_placeOn_2 rfl (lv_at hl 3 rfl) ?_
      refine lv_aload_n hx hb dX2_placeOn_3 rfl (lv_at hl 0 rfl) ?_
      refine lv_iload_n hx hb dX2_placeOn_4 rfl (lv_at hl 1 rfl) ?_
      refine z_callVi (As := [.int x]) (rest := [.int v_20]) (wr := [(h_on, .inl (cA.1 0, 30, .inl c_h_on))]) ⟨hx, hb, hml, hown, hts⟩ hK hE hT hP hD hS hA (d_H_manyOn l G cA h h_features h_featureNames h_steps h_turnedFeatures h_sixteenths h_keys h_keySteps h_lent h_rings h_on h_onMany h_doors h_wanted h_openers h_seconds h_turned h_roundMany h_roundDoors c_h_onMany x) lk_RX2_113 ⟨rfl, rfl⟩ ⟨Nat.le_of_ble_eq_true rfl, Nat.le_of_ble_eq_true rfl⟩ 2 rfl rfl rfl [0, 2] [1] rfl rfl (by decide) rfl hl.1 rfl (lv_room (Nat.le_of_ble_eq_true rfl)) dX2_placeOn_5 ⟨Nat.le_of_ble_eq_true rfl, Nat.le_of_ble_eq_true rfl⟩ (fun r_24 u_25 H locs hw hP hD hS => ?_)
      have hP : va_P G vwCl [(h_on, .inl (cA.1 0, 30, .inl c_h_on)), (h, .inr (2, [.int h_features, .ref h_featureNames, .ref h_steps, .ref h_turnedFeatures, .ref h_sixteenths, .int h_keys, .ref h_keySteps, .int h_lent, .int h_rings, .ref h_on, .ref h_onMany, .int h_doors, .ref h_wanted, .ref h_openers, .ref h_seconds, .int h_turned, .int h_roundMany, .ref h_roundDoors])), (h_onMany, .inl (cA.1 0, 3, .inl c_h_onMany))] H := hP
      have hD : va_D A [(h_on, .inl (cA.1 0, 30, .inl c_h_on)), (h, .inr (2, [.int h_features, .ref h_featureNames, .ref h_steps, .ref h_turnedFeatures, .ref h_sixteenths, .int h_keys, .ref h_keySteps, .int h_lent, .int h_rings, .ref h_on, .ref h_onMany, .int h_doors, .ref h_wanted, .ref h_openers, .ref h_seconds, .int h_turned, .int h_roundMany, .ref h_roundDoors])), (h_onMany, .inl (cA.1 0, 3, .inl c_h_onMany))] := hD
      refine lv_icmp_ge (tgt := 29) hx hb dX2_placeOn_8 (by decide) (fun c_26 => ?_) (fun c_26 => ?_)
      · have b_27 := z_s1 c_26
        refine lv_iconst (v := (-1)) hx hb dX2_placeOn_29 (by decide) ?_
        exact hret _ _ _ _ _ _ () [1, 0, 2] hP hD hS rfl (by decide) dX2_placeOn_30 trivial
      · have b_28 := z_s2 c_26
        refine lv_aload_n hx hb dX2_placeOn_11 rfl (lv_at hl 0 rfl) ?_
        refine lv_iload_n hx hb dX2_placeOn_12 rfl (lv_at hl 1 rfl) ?_
        refine lv_iload_n hx hb dX2_placeOn_13 rfl (lv_at hl 3 rfl) ?_
        refine z_callVi (As := [.int x, .int v_20]) (rest := []) (wr := []) ⟨hx, hb, hml, hown, hts⟩ hK hE hT hP hD hS hA (d_H_keyOn l G cA h h_features h_featureNames h_steps h_turnedFeatures h_sixteenths h_keys h_keySteps h_lent h_rings h_on h_onMany h_doors h_wanted h_openers h_seconds h_turned h_roundMany h_roundDoors c_h_on c_h_onMany x v_20) lk_RX2_116 ⟨rfl, rfl⟩ ⟨Nat.le_of_ble_eq_true rfl, Nat.le_of_ble_eq_true rfl⟩ 2 rfl rfl rfl [1, 0, 2] [] rfl rfl (by decide) rfl hl.1 rfl (lv_room (Nat.le_of_ble_eq_true rfl)) dX2_placeOn_14 ⟨Nat.le_of_ble_eq_true rfl, Nat.le_of_ble_eq_true rfl⟩ (fun r_29 u_30 H locs hw hP hD hS => ?_)
        have hP : va_P G vwCl [(h, .inr (2, [.int h_features, .ref h_featureNames, .ref h_steps, .ref h_turnedFeatures, .ref h_sixteenths, .int h_keys, .ref h_keySteps, .int h_lent, .int h_rings, .ref h_on, .ref h_onMany, .int h_doors, .ref h_wanted, .ref h_openers, .ref h_seconds, .int h_turned, .int h_roundMany, .ref h_roundDoors])), (h_on, .inl (cA.1 0, 30, .inl c_h_on)), (h_onMany, .inl (cA.1 0, 3, .inl c_h_onMany))] H := hP
        have hD : va_D A [(h, .inr (2, [.int h_features, .ref h_featureNames, .ref h_steps, .ref h_turnedFeatures, .ref h_sixteenths, .int h_keys, .ref h_keySteps, .int h_lent, .int h_rings, .ref h_on, .ref h_onMany, .int h_doors, .ref h_wanted, .ref h_openers, .ref h_seconds, .int h_turned, .int h_roundMany, .ref h_roundDoors])), (h_on, .inl (cA.1 0, 30, .inl c_h_on)), (h_onMany, .inl (cA.1 0, 3, .inl c_h_onMany))] := hD
        refine lv_iload_n hx hb dX2_placeOn_17 rfl (lv_at hl 2 rfl) ?_
        refine lv_icmp_ne (tgt := 23) hx hb dX2_placeOn_18 (by decide) (fun c_31 => ?_) (fun c_31 => ?_)
        · skip
          refine lv_iinc (v := (v_20 + 1)) (lv' := [(3, .int (v_20 + 1)), (0, .ref h), (1, .int x), (2, .int y)]) hx hb dX2_placeOn_23 hl (k := 3) rfl (z_ofi (by decide +kernel)) (by decide) rfl (fun ls hl => ?_)
          refine lv_goto (tgt := 2) hx hb dX2_placeOn_26 (by decide) ?_
          exact ih_23 (v_20 + 1) H locs ls (z_up hmu (by omega) (by omega)) (z_upc hi_22 (by omega) (by omega)) hP hD hS (lv_sub hl [1, 2, 3, 0] rfl)
        · skip
          refine lv_iload_n hx hb dX2_placeOn_21 rfl (lv_at hl 3 rfl) ?_
          exact hret _ _ _ _ _ _ () [0, 1, 2] hP hD hS rfl (by decide) dX2_placeOn_22 trivial
  exact hlp_21 _ 0 _ _ _ (Nat.lt_succ_self _) (by first | decide +kernel | omega) hP hD hS (lv_sub hl [1, 2, 3, 0] rfl)
set_option maxHeartbeats 4000000 in
set_option maxRecDepth 100000 in
theorem d_H_ringOf (l : Launch) (G : va_G) (cA : zCA) (h : Nat) (h_features : Int32) (h_featureNames : Nat) (h_steps : Nat) (h_turnedFeatures : Nat) (h_sixteenths : Nat) (h_keys : Int32) (h_keySteps : Nat) (h_lent : Int32) (h_rings : Int32) (h_on : Nat) (h_onMany : Nat) (h_doors : Int32) (h_wanted : Nat) (h_openers : Nat) (h_seconds : Nat) (h_turned : Int32) (h_roundMany : Int32) (h_roundDoors : Nat) (c_h_on : Nat → Int32) (c_h_onMany : Nat → Int32) (k : Int32) : zCi l yX2_ringOf cX2_ringOf 3 (some .int) ({ frames := 4, cells := 0, slots := 0, locals := 87 }) G cA [.ref h, .int k] [(h, .inr (2, [.int h_features, .ref h_featureNames, .ref h_steps, .ref h_turnedFeatures, .ref h_sixteenths, .int h_keys, .ref h_keySteps, .int h_lent, .int h_rings, .ref h_on, .ref h_onMany, .int h_doors, .ref h_wanted, .ref h_openers, .ref h_seconds, .int h_turned, .int h_roundMany, .ref h_roundDoors])), (h_on, .inl (cA.1 0, 30, .inl c_h_on)), (h_onMany, .inl (cA.1 0, 3, .inl c_h_onMany))] (S := Unit) (fun (r : Int32) (u : Unit) => True) (fun (u : Unit) => [(h, .inr (2, [.int h_features, .ref h_featureNames, .ref h_steps, .ref h_turnedFeatures, .ref h_sixteenths, .int h_keys, .ref h_keySteps, .int h_lent, .int h_rings, .ref h_on, .ref h_onMany, .int h_doors, .ref h_wanted, .ref h_openers, .ref h_seconds, .int h_turned, .int h_roundMany, .ref h_roundDoors])), (h_on, .inl (cA.1 0, 30, .inl c_h_on)), (h_onMany, .inl (cA.1 0, 3, .inl c_h_onMany))]) 0 0 := by
  refine z_start2i (own := RX2) (by decide) (Nat.le_of_ble_eq_true rfl) rfl ?_
  intro p e s m args below meth c A ls Q hx hb hml hts hown hK hE hT hP hD hS hA hl hret
  have hl : lv_has ls 3 [(0, .ref h), (1, .int k)] := hl
  refine lv_iconst (v := 0) hx hb dX2_ringOf_0 (by decide) ?_
  refine lv_istore_n (lv' := [(2, .int 0), (0, .ref h), (1, .int k)]) hx hb dX2_ringOf_1 rfl hl (by decide) rfl (fun ls hl => ?_)
  have hlp_17 : ∀ (n : Nat) (v_16 : Int32) (H : Heap) (locs : List Loc) (ls : Array Slot), (2147483647 - v_16.toInt).toNat < n → (0 ≤ v_16.toInt) → va_P G vwCl [(h, .inr (2, [.int h_features, .ref h_featureNames, .ref h_steps, .ref h_turnedFeatures, .ref h_sixteenths, .int h_keys, .ref h_keySteps, .int h_lent, .int h_rings, .ref h_on, .ref h_onMany, .int h_doors, .ref h_wanted, .ref h_openers, .ref h_seconds, .int h_turned, .int h_roundMany, .ref h_roundDoors])), (h_on, .inl (cA.1 0, 30, .inl c_h_on)), (h_onMany, .inl (cA.1 0, 3, .inl c_h_onMany))] H → va_D A [(h, .inr (2, [.int h_features, .ref h_featureNames, .ref h_steps, .ref h_turnedFeatures, .ref h_sixteenths, .int h_keys, .ref h_keySteps, .int h_lent, .int h_rings, .ref h_on, .ref h_onMany, .int h_doors, .ref h_wanted, .ref h_openers, .ref h_seconds, .int h_turned, .int h_roundMany, .ref h_roundDoors])), (h_on, .inl (cA.1 0, 30, .inl c_h_on)), (h_onMany, .inl (cA.1 0, 3, .inl c_h_onMany))] → va_S A s.heap H locs → lv_has ls 3 [(0, .ref h), (1, .int k), (2, .int v_16)] → W p l e ({ frames := 4, cells := 0, slots := 0, locals := 87 }) s m args below meth c H locs 0 0 Q (F0 m 2 ls []) := by
    intro n
    induction n with
    | zero =>
      intro v_16 H locs ls hmu hi_18 hP hD hS hl
      exact absurd hmu (Nat.not_lt_zero _)
    | succ n ih_19 =>
      intro v_16 H locs ls hmu hi_18 hP hD hS hl
      refine lv_iload_n hx hb dX2_ringOf_2 rfl (lv_at hl 2 rfl) ?_
      refine lv_aload_n hx hb dX2_ringOf_3 rfl (lv_at hl 0 rfl) ?_
      refine va_get (D := G) (ci := 2) (v := .int h_rings) (C := RX2) (T := TX2) (N := 18) hx hb hts inT2 hown hK hP 0 rfl rfl 8 (by decide) (hts _ tw_279) (fun _ h9 => h9) rfl dX2_ringOf_4 ?_
      refine lv_icmp_ge (tgt := 28) hx hb dX2_ringOf_7 (by decide) (fun c_20 => ?_) (fun c_20 => ?_)
      · have b_21 := z_s1 c_20
        refine lv_iconst (v := (-1)) hx hb dX2_ringOf_28 (by decide) ?_
        exact hret _ _ _ _ _ _ () [0, 1, 2] hP hD hS rfl (by decide) dX2_ringOf_29 trivial
      · have b_22 := z_s2 c_20
        refine lv_aload_n hx hb dX2_ringOf_10 rfl (lv_at hl 0 rfl) ?_
        refine lv_iload_n hx hb dX2_ringOf_11 rfl (lv_at hl 2 rfl) ?_
        refine lv_iload_n hx hb dX2_ringOf_12 rfl (lv_at hl 1 rfl) ?_
        refine z_callVi (As := [.int v_16, .int k]) (rest := []) (wr := []) ⟨hx, hb, hml, hown, hts⟩ hK hE hT hP hD hS hA (d_H_placeOn l G cA h h_features h_featureNames h_steps h_turnedFeatures h_sixteenths h_keys h_keySteps h_lent h_rings h_on h_onMany h_doors h_wanted h_openers h_seconds h_turned h_roundMany h_roundDoors c_h_on c_h_onMany v_16 k) lk_RX2_120 ⟨rfl, rfl⟩ ⟨Nat.le_of_ble_eq_true rfl, Nat.le_of_ble_eq_true rfl⟩ 2 rfl rfl rfl [0, 1, 2] [] rfl rfl (by decide) rfl hl.1 rfl (lv_room (Nat.le_of_ble_eq_true rfl)) dX2_ringOf_13 ⟨Nat.le_of_ble_eq_true rfl, Nat.le_of_ble_eq_true rfl⟩ (fun r_23 u_24 H locs hw hP hD hS => ?_)
        have hP : va_P G vwCl [(h, .inr (2, [.int h_features, .ref h_featureNames, .ref h_steps, .ref h_turnedFeatures, .ref h_sixteenths, .int h_keys, .ref h_keySteps, .int h_lent, .int h_rings, .ref h_on, .ref h_onMany, .int h_doors, .ref h_wanted, .ref h_openers, .ref h_seconds, .int h_turned, .int h_roundMany, .ref h_roundDoors])), (h_on, .inl (cA.1 0, 30, .inl c_h_on)), (h_onMany, .inl (cA.1 0, 3, .inl c_h_onMany))] H := hP
        have hD : va_D A [(h, .inr (2, [.int h_features, .ref h_featureNames, .ref h_steps, .ref h_turnedFeatures, .ref h_sixteenths, .int h_keys, .ref h_keySteps, .int h_lent, .int h_rings, .ref h_on, .ref h_onMany, .int h_doors, .ref h_wanted, .ref h_openers, .ref h_seconds, .int h_turned, .int h_roundMany, .ref h_roundDoors])), (h_on, .inl (cA.1 0, 30, .inl c_h_on)), (h_onMany, .inl (cA.1 0, 3, .inl c_h_onMany))] := hD
        refine lv_iconst (v := (-1)) hx hb dX2_ringOf_16 (by decide) ?_
        refine lv_icmp_eq (tgt := 22) hx hb dX2_ringOf_17 (by decide) (fun c_25 => ?_) (fun c_25 => ?_)
        · skip
          refine lv_iinc (v := (v_16 + 1)) (lv' := [(2, .int (v_16 + 1)), (0, .ref h), (1, .int k)]) hx hb dX2_ringOf_22 hl (k := 2) rfl (z_ofi (by decide +kernel)) (by decide) rfl (fun ls hl => ?_)
          refine lv_goto (tgt := 2) hx hb dX2_ringOf_25 (by decide) ?_
          exact ih_19 (v_16 + 1) H locs ls (z_up hmu (by omega) (by omega)) (z_upc hi_18 (by omega) (by omega)) hP hD hS (lv_sub hl [1, 2, 0] rfl)
        · skip
          refine lv_iload_n hx hb dX2_ringOf_20 rfl (lv_at hl 2 rfl) ?_
          exact hret _ _ _ _ _ _ () [0, 1, 2] hP hD hS rfl (by decide) dX2_ringOf_21 trivial
  exact hlp_17 _ 0 _ _ _ (Nat.lt_succ_self _) (by first | decide +kernel | omega) hP hD hS (lv_sub hl [1, 2, 0] rfl)
set_option maxHeartbeats 4000000 in
set_option maxRecDepth 100000 in
theorem d_H_manyThere (l : Launch) (G : va_G) (cA : zCA) (h : Nat) (h_features : Int32) (h_featureNames : Nat) (h_steps : Nat) (h_turnedFeatures : Nat) (h_sixteenths : Nat) (h_keys : Int32) (h_keySteps : Nat) (h_lent : Int32) (h_rings : Int32) (h_on : Nat) (h_onMany : Nat) (h_doors : Int32) (h_wanted : Nat) (h_openers : Nat) (h_seconds : Nat) (h_turned : Int32) (h_roundMany : Int32) (h_roundDoors : Nat) (c_h_on : Nat → Int32) (c_h_onMany : Nat → Int32) (k : Int32) : zCi l yX2_manyThere cX2_manyThere 4 (some .int) ({ frames := 3, cells := 0, slots := 0, locals := 64 }) G cA [.ref h, .int k] [(h, .inr (2, [.int h_features, .ref h_featureNames, .ref h_steps, .ref h_turnedFeatures, .ref h_sixteenths, .int h_keys, .ref h_keySteps, .int h_lent, .int h_rings, .ref h_on, .ref h_onMany, .int h_doors, .ref h_wanted, .ref h_openers, .ref h_seconds, .int h_turned, .int h_roundMany, .ref h_roundDoors])), (h_on, .inl (cA.1 0, 30, .inl c_h_on)), (h_onMany, .inl (cA.1 0, 3, .inl c_h_onMany))] (S := Unit) (fun (r : Int32) (u : Unit) => True) (fun (u : Unit) => [(h, .inr (2, [.int h_features, .ref h_featureNames, .ref h_steps, .ref h_turnedFeatures, .ref h_sixteenths, .int h_keys, .ref h_keySteps, .int h_lent, .int h_rings, .ref h_on, .ref h_onMany, .int h_doors, .ref h_wanted, .ref h_openers, .ref h_seconds, .int h_turned, .int h_roundMany, .ref h_roundDoors])), (h_on, .inl (cA.1 0, 30, .inl c_h_on)), (h_onMany, .inl (cA.1 0, 3, .inl c_h_onMany))]) 0 0 := by
  refine z_start2i (own := RX2) (by decide) (Nat.le_of_ble_eq_true rfl) rfl ?_
  intro p e s m args below meth c A ls Q hx hb hml hts hown hK hE hT hP hD hS hA hl hret
  have hl : lv_has ls 4 [(0, .ref h), (1, .int k)] := hl
  refine lv_iconst (v := 0) hx hb dX2_manyThere_0 (by decide) ?_
  refine lv_istore_n (lv' := [(2, .int 0), (0, .ref h), (1, .int k)]) hx hb dX2_manyThere_1 rfl hl (by decide) rfl (fun ls hl => ?_)
  refine lv_iconst (v := 0) hx hb dX2_manyThere_2 (by decide) ?_
  refine lv_istore_n (lv' := [(3, .int 0), (2, .int 0), (0, .ref h), (1, .int k)]) hx hb dX2_manyThere_3 rfl hl (by decide) rfl (fun ls hl => ?_)
  have hlp_27 : ∀ (n : Nat) (v_25 : Int32) (v_26 : Int32) (H : Heap) (locs : List Loc) (ls : Array Slot), (2147483647 - v_26.toInt).toNat < n → (0 ≤ v_26.toInt) → va_P G vwCl [(h, .inr (2, [.int h_features, .ref h_featureNames, .ref h_steps, .ref h_turnedFeatures, .ref h_sixteenths, .int h_keys, .ref h_keySteps, .int h_lent, .int h_rings, .ref h_on, .ref h_onMany, .int h_doors, .ref h_wanted, .ref h_openers, .ref h_seconds, .int h_turned, .int h_roundMany, .ref h_roundDoors])), (h_on, .inl (cA.1 0, 30, .inl c_h_on)), (h_onMany, .inl (cA.1 0, 3, .inl c_h_onMany))] H → va_D A [(h, .inr (2, [.int h_features, .ref h_featureNames, .ref h_steps, .ref h_turnedFeatures, .ref h_sixteenths, .int h_keys, .ref h_keySteps, .int h_lent, .int h_rings, .ref h_on, .ref h_onMany, .int h_doors, .ref h_wanted, .ref h_openers, .ref h_seconds, .int h_turned, .int h_roundMany, .ref h_roundDoors])), (h_on, .inl (cA.1 0, 30, .inl c_h_on)), (h_onMany, .inl (cA.1 0, 3, .inl c_h_onMany))] → va_S A s.heap H locs → lv_has ls 4 [(0, .ref h), (1, .int k), (2, .int v_25), (3, .int v_26)] → W p l e ({ frames := 3, cells := 0, slots := 0, locals := 64 }) s m args below meth c H locs 0 0 Q (F0 m 4 ls []) := by
    intro n
    induction n with
    | zero =>
      intro v_25 v_26 H locs ls hmu hi_28 hP hD hS hl
      exact absurd hmu (Nat.not_lt_zero _)
    | succ n ih_29 =>
      intro v_25 v_26 H locs ls hmu hi_28 hP hD hS hl
      refine lv_iload_n hx hb dX2_manyThere_4 rfl (lv_at hl 3 rfl) ?_
      refine lv_aload_n hx hb dX2_manyThere_5 rfl (lv_at hl 0 rfl) ?_
      refine lv_iload_n hx hb dX2_manyThere_6 rfl (lv_at hl 1 rfl) ?_
      refine z_callVi (As := [.int k]) (rest := [.int v_26]) (wr := [(h_on, .inl (cA.1 0, 30, .inl c_h_on))]) ⟨hx, hb, hml, hown, hts⟩ hK hE hT hP hD hS hA (d_H_manyOn l G cA h h_features h_featureNames h_steps h_turnedFeatures h_sixteenths h_keys h_keySteps h_lent h_rings h_on h_onMany h_doors h_wanted h_openers h_seconds h_turned h_roundMany h_roundDoors c_h_onMany k) lk_RX2_113 ⟨rfl, rfl⟩ ⟨Nat.le_of_ble_eq_true rfl, Nat.le_of_ble_eq_true rfl⟩ 2 rfl rfl rfl [0, 2] [1] rfl rfl (by decide) rfl hl.1 rfl (lv_room (Nat.le_of_ble_eq_true rfl)) dX2_manyThere_7 ⟨Nat.le_of_ble_eq_true rfl, Nat.le_of_ble_eq_true rfl⟩ (fun r_30 u_31 H locs hw hP hD hS => ?_)
      have hP : va_P G vwCl [(h_on, .inl (cA.1 0, 30, .inl c_h_on)), (h, .inr (2, [.int h_features, .ref h_featureNames, .ref h_steps, .ref h_turnedFeatures, .ref h_sixteenths, .int h_keys, .ref h_keySteps, .int h_lent, .int h_rings, .ref h_on, .ref h_onMany, .int h_doors, .ref h_wanted, .ref h_openers, .ref h_seconds, .int h_turned, .int h_roundMany, .ref h_roundDoors])), (h_onMany, .inl (cA.1 0, 3, .inl c_h_onMany))] H := hP
      have hD : va_D A [(h_on, .inl (cA.1 0, 30, .inl c_h_on)), (h, .inr (2, [.int h_features, .ref h_featureNames, .ref h_steps, .ref h_turnedFeatures, .ref h_sixteenths, .int h_keys, .ref h_keySteps, .int h_lent, .int h_rings, .ref h_on, .ref h_onMany, .int h_doors, .ref h_wanted, .ref h_openers, .ref h_seconds, .int h_turned, .int h_roundMany, .ref h_roundDoors])), (h_onMany, .inl (cA.1 0, 3, .inl c_h_onMany))] := hD
      refine lv_icmp_ge (tgt := 35) hx hb dX2_manyThere_10 (by decide) (fun c_32 => ?_) (fun c_32 => ?_)
      · have b_33 := z_s1 c_32
        refine lv_iload_n hx hb dX2_manyThere_35 rfl (lv_at hl 2 rfl) ?_
        exact hret _ _ _ _ _ _ () [1, 0, 2] hP hD hS rfl (by decide) dX2_manyThere_36 trivial
      · have b_34 := z_s2 c_32
        refine lv_aload_n hx hb dX2_manyThere_13 rfl (lv_at hl 0 rfl) ?_
        refine lv_aload_n hx hb dX2_manyThere_14 rfl (lv_at hl 0 rfl) ?_
        refine lv_iload_n hx hb dX2_manyThere_15 rfl (lv_at hl 1 rfl) ?_
        refine lv_iload_n hx hb dX2_manyThere_16 rfl (lv_at hl 3 rfl) ?_
        refine z_callVi (As := [.int k, .int v_26]) (rest := [.ref h]) (wr := []) ⟨hx, hb, hml, hown, hts⟩ hK hE hT hP hD hS hA (d_H_keyOn l G cA h h_features h_featureNames h_steps h_turnedFeatures h_sixteenths h_keys h_keySteps h_lent h_rings h_on h_onMany h_doors h_wanted h_openers h_seconds h_turned h_roundMany h_roundDoors c_h_on c_h_onMany k v_26) lk_RX2_116 ⟨rfl, rfl⟩ ⟨Nat.le_of_ble_eq_true rfl, Nat.le_of_ble_eq_true rfl⟩ 2 rfl rfl rfl [1, 0, 2] [] rfl rfl (by decide) rfl hl.1 rfl (lv_room (Nat.le_of_ble_eq_true rfl)) dX2_manyThere_17 ⟨Nat.le_of_ble_eq_true rfl, Nat.le_of_ble_eq_true rfl⟩ (fun r_35 u_36 H locs hw hP hD hS => ?_)
        have hP : va_P G vwCl [(h, .inr (2, [.int h_features, .ref h_featureNames, .ref h_steps, .ref h_turnedFeatures, .ref h_sixteenths, .int h_keys, .ref h_keySteps, .int h_lent, .int h_rings, .ref h_on, .ref h_onMany, .int h_doors, .ref h_wanted, .ref h_openers, .ref h_seconds, .int h_turned, .int h_roundMany, .ref h_roundDoors])), (h_on, .inl (cA.1 0, 30, .inl c_h_on)), (h_onMany, .inl (cA.1 0, 3, .inl c_h_onMany))] H := hP
        have hD : va_D A [(h, .inr (2, [.int h_features, .ref h_featureNames, .ref h_steps, .ref h_turnedFeatures, .ref h_sixteenths, .int h_keys, .ref h_keySteps, .int h_lent, .int h_rings, .ref h_on, .ref h_onMany, .int h_doors, .ref h_wanted, .ref h_openers, .ref h_seconds, .int h_turned, .int h_roundMany, .ref h_roundDoors])), (h_on, .inl (cA.1 0, 30, .inl c_h_on)), (h_onMany, .inl (cA.1 0, 3, .inl c_h_onMany))] := hD
        refine z_callVi (As := [.int r_35]) (rest := []) (wr := [(h_on, .inl (cA.1 0, 30, .inl c_h_on)), (h_onMany, .inl (cA.1 0, 3, .inl c_h_onMany))]) ⟨hx, hb, hml, hown, hts⟩ hK hE hT hP hD hS hA (d_H_isLent l G cA h h_features h_featureNames h_steps h_turnedFeatures h_sixteenths h_keys h_keySteps h_lent h_rings h_on h_onMany h_doors h_wanted h_openers h_seconds h_turned h_roundMany h_roundDoors r_35) lk_RX2_123 ⟨rfl, rfl⟩ ⟨Nat.le_of_ble_eq_true rfl, Nat.le_of_ble_eq_true rfl⟩ 2 rfl rfl rfl [0] [1, 2] rfl rfl (by decide) rfl hl.1 rfl (lv_room (Nat.le_of_ble_eq_true rfl)) dX2_manyThere_20 ⟨Nat.le_of_ble_eq_true rfl, Nat.le_of_ble_eq_true rfl⟩ (fun r_37 u_38 H locs hw hP hD hS => ?_)
        have hP : va_P G vwCl [(h_on, .inl (cA.1 0, 30, .inl c_h_on)), (h_onMany, .inl (cA.1 0, 3, .inl c_h_onMany)), (h, .inr (2, [.int h_features, .ref h_featureNames, .ref h_steps, .ref h_turnedFeatures, .ref h_sixteenths, .int h_keys, .ref h_keySteps, .int h_lent, .int h_rings, .ref h_on, .ref h_onMany, .int h_doors, .ref h_wanted, .ref h_openers, .ref h_seconds, .int h_turned, .int h_roundMany, .ref h_roundDoors]))] H := hP
        have hD : va_D A [(h_on, .inl (cA.1 0, 30, .inl c_h_on)), (h_onMany, .inl (cA.1 0, 3, .inl c_h_onMany)), (h, .inr (2, [.int h_features, .ref h_featureNames, .ref h_steps, .ref h_turnedFeatures, .ref h_sixteenths, .int h_keys, .ref h_keySteps, .int h_lent, .int h_rings, .ref h_on, .ref h_onMany, .int h_doors, .ref h_wanted, .ref h_openers, .ref h_seconds, .int h_turned, .int h_roundMany, .ref h_roundDoors]))] := hD
        have hz_r_37 := hw
        refine lv_if_ne (tgt := 29) hx hb dX2_manyThere_23 (by decide) (fun c_39 => ?_) (fun c_39 => ?_)
        · skip
          refine lv_iinc (v := (v_26 + 1)) (lv' := [(3, .int (v_26 + 1)), (0, .ref h), (1, .int k), (2, .int v_25)]) hx hb dX2_manyThere_29 hl (k := 3) rfl (z_ofi (by decide +kernel)) (by decide) rfl (fun ls hl => ?_)
          refine lv_goto (tgt := 4) hx hb dX2_manyThere_32 (by decide) ?_
          have hP := hP.sub (ws' := [(h, .inr (2, [.int h_features, .ref h_featureNames, .ref h_steps, .ref h_turnedFeatures, .ref h_sixteenths, .int h_keys, .ref h_keySteps, .int h_lent, .int h_rings, .ref h_on, .ref h_onMany, .int h_doors, .ref h_wanted, .ref h_openers, .ref h_seconds, .int h_turned, .int h_roundMany, .ref h_roundDoors])), (h_on, .inl (cA.1 0, 30, .inl c_h_on)), (h_onMany, .inl (cA.1 0, 3, .inl c_h_onMany))]) [2, 0, 1] rfl
          have hD := hD.sub (ws' := [(h, .inr (2, [.int h_features, .ref h_featureNames, .ref h_steps, .ref h_turnedFeatures, .ref h_sixteenths, .int h_keys, .ref h_keySteps, .int h_lent, .int h_rings, .ref h_on, .ref h_onMany, .int h_doors, .ref h_wanted, .ref h_openers, .ref h_seconds, .int h_turned, .int h_roundMany, .ref h_roundDoors])), (h_on, .inl (cA.1 0, 30, .inl c_h_on)), (h_onMany, .inl (cA.1 0, 3, .inl c_h_onMany))]) [2, 0, 1] (by decide) rfl
          exact ih_29 v_25 (v_26 + 1) H locs ls (z_up hmu (by omega) (by omega)) (z_upc hi_28 (by omega) (by omega)) hP hD hS (lv_sub hl [1, 2, 3, 0] rfl)
        · skip
          refine lv_iinc (v := (v_25 + 1)) (lv' := [(2, .int (v_25 + 1)), (0, .ref h), (1, .int k), (3, .int v_26)]) hx hb dX2_manyThere_26 hl (k := 2) rfl (z_ofi (by decide +kernel)) (by decide) rfl (fun ls hl => ?_)
          refine lv_iinc (v := (v_26 + 1)) (lv' := [(3, .int (v_26 + 1)), (2, .int (v_25 + 1)), (0, .ref h), (1, .int k)]) hx hb dX2_manyThere_29 hl (k := 3) rfl (z_ofi (by decide +kernel)) (by decide) rfl (fun ls hl => ?_)
          refine lv_goto (tgt := 4) hx hb dX2_manyThere_32 (by decide) ?_
          have hP := hP.sub (ws' := [(h, .inr (2, [.int h_features, .ref h_featureNames, .ref h_steps, .ref h_turnedFeatures, .ref h_sixteenths, .int h_keys, .ref h_keySteps, .int h_lent, .int h_rings, .ref h_on, .ref h_onMany, .int h_doors, .ref h_wanted, .ref h_openers, .ref h_seconds, .int h_turned, .int h_roundMany, .ref h_roundDoors])), (h_on, .inl (cA.1 0, 30, .inl c_h_on)), (h_onMany, .inl (cA.1 0, 3, .inl c_h_onMany))]) [2, 0, 1] rfl
          have hD := hD.sub (ws' := [(h, .inr (2, [.int h_features, .ref h_featureNames, .ref h_steps, .ref h_turnedFeatures, .ref h_sixteenths, .int h_keys, .ref h_keySteps, .int h_lent, .int h_rings, .ref h_on, .ref h_onMany, .int h_doors, .ref h_wanted, .ref h_openers, .ref h_seconds, .int h_turned, .int h_roundMany, .ref h_roundDoors])), (h_on, .inl (cA.1 0, 30, .inl c_h_on)), (h_onMany, .inl (cA.1 0, 3, .inl c_h_onMany))]) [2, 0, 1] (by decide) rfl
          exact ih_29 (v_25 + 1) (v_26 + 1) H locs ls (z_up hmu (by omega) (by omega)) (z_upc hi_28 (by omega) (by omega)) hP hD hS (lv_sub hl [2, 3, 1, 0] rfl)
  exact hlp_27 _ 0 0 _ _ _ (Nat.lt_succ_self _) (by first | decide +kernel | omega) hP hD hS (lv_sub hl [2, 3, 1, 0] rfl)
set_option maxHeartbeats 4000000 in
set_option maxRecDepth 100000 in
theorem d_H_keyThere (l : Launch) (G : va_G) (cA : zCA) (h : Nat) (h_features : Int32) (h_featureNames : Nat) (h_steps : Nat) (h_turnedFeatures : Nat) (h_sixteenths : Nat) (h_keys : Int32) (h_keySteps : Nat) (h_lent : Int32) (h_rings : Int32) (h_on : Nat) (h_onMany : Nat) (h_doors : Int32) (h_wanted : Nat) (h_openers : Nat) (h_seconds : Nat) (h_turned : Int32) (h_roundMany : Int32) (h_roundDoors : Nat) (c_h_on : Nat → Int32) (c_h_onMany : Nat → Int32) (x : Int32) (y : Int32) : zCi l yX2_keyThere cX2_keyThere 6 (some .int) ({ frames := 3, cells := 0, slots := 0, locals := 64 }) G cA [.ref h, .int x, .int y] [(h, .inr (2, [.int h_features, .ref h_featureNames, .ref h_steps, .ref h_turnedFeatures, .ref h_sixteenths, .int h_keys, .ref h_keySteps, .int h_lent, .int h_rings, .ref h_on, .ref h_onMany, .int h_doors, .ref h_wanted, .ref h_openers, .ref h_seconds, .int h_turned, .int h_roundMany, .ref h_roundDoors])), (h_on, .inl (cA.1 0, 30, .inl c_h_on)), (h_onMany, .inl (cA.1 0, 3, .inl c_h_onMany))] (S := Unit) (fun (r : Int32) (u : Unit) => True) (fun (u : Unit) => [(h, .inr (2, [.int h_features, .ref h_featureNames, .ref h_steps, .ref h_turnedFeatures, .ref h_sixteenths, .int h_keys, .ref h_keySteps, .int h_lent, .int h_rings, .ref h_on, .ref h_onMany, .int h_doors, .ref h_wanted, .ref h_openers, .ref h_seconds, .int h_turned, .int h_roundMany, .ref h_roundDoors])), (h_on, .inl (cA.1 0, 30, .inl c_h_on)), (h_onMany, .inl (cA.1 0, 3, .inl c_h_onMany))]) 0 0 := by
  refine z_start2i (own := RX2) (by decide) (Nat.le_of_ble_eq_true rfl) rfl ?_
  intro p e s m args below meth c A ls Q hx hb hml hts hown hK hE hT hP hD hS hA hl hret
  have hl : lv_has ls 6 [(0, .ref h), (1, .int x), (2, .int y)] := hl
  refine lv_iconst (v := 0) hx hb dX2_keyThere_0 (by decide) ?_
  refine lv_istore_n (lv' := [(3, .int 0), (0, .ref h), (1, .int x), (2, .int y)]) hx hb dX2_keyThere_1 rfl hl (by decide) rfl (fun ls hl => ?_)
  refine lv_iconst (v := 0) hx hb dX2_keyThere_2 (by decide) ?_
  refine lv_istore (lv' := [(4, .int 0), (3, .int 0), (0, .ref h), (1, .int x), (2, .int y)]) hx hb dX2_keyThere_3 hl (by decide) rfl (fun ls hl => ?_)
  have hlp_31 : ∀ (n : Nat) (v_29 : Int32) (v_30 : Int32) (H : Heap) (locs : List Loc) (ls : Array Slot), (2147483647 - v_30.toInt).toNat < n → (0 ≤ v_30.toInt) → va_P G vwCl [(h, .inr (2, [.int h_features, .ref h_featureNames, .ref h_steps, .ref h_turnedFeatures, .ref h_sixteenths, .int h_keys, .ref h_keySteps, .int h_lent, .int h_rings, .ref h_on, .ref h_onMany, .int h_doors, .ref h_wanted, .ref h_openers, .ref h_seconds, .int h_turned, .int h_roundMany, .ref h_roundDoors])), (h_on, .inl (cA.1 0, 30, .inl c_h_on)), (h_onMany, .inl (cA.1 0, 3, .inl c_h_onMany))] H → va_D A [(h, .inr (2, [.int h_features, .ref h_featureNames, .ref h_steps, .ref h_turnedFeatures, .ref h_sixteenths, .int h_keys, .ref h_keySteps, .int h_lent, .int h_rings, .ref h_on, .ref h_onMany, .int h_doors, .ref h_wanted, .ref h_openers, .ref h_seconds, .int h_turned, .int h_roundMany, .ref h_roundDoors])), (h_on, .inl (cA.1 0, 30, .inl c_h_on)), (h_onMany, .inl (cA.1 0, 3, .inl c_h_onMany))] → va_S A s.heap H locs → lv_has ls 6 [(0, .ref h), (1, .int x), (2, .int y), (3, .int v_29), (4, .int v_30)] → W p l e ({ frames := 3, cells := 0, slots := 0, locals := 64 }) s m args below meth c H locs 0 0 Q (F0 m 5 ls []) := by
    intro n
    induction n with
    | zero =>
      intro v_29 v_30 H locs ls hmu hi_32 hP hD hS hl
      exact absurd hmu (Nat.not_lt_zero _)
    | succ n ih_33 =>
      intro v_29 v_30 H locs ls hmu hi_32 hP hD hS hl
      refine lv_iload hx hb dX2_keyThere_5 (lv_at hl 4 rfl) ?_
      refine lv_aload_n hx hb dX2_keyThere_7 rfl (lv_at hl 0 rfl) ?_
      refine lv_iload_n hx hb dX2_keyThere_8 rfl (lv_at hl 1 rfl) ?_
      refine z_callVi (As := [.int x]) (rest := [.int v_30]) (wr := [(h_on, .inl (cA.1 0, 30, .inl c_h_on))]) ⟨hx, hb, hml, hown, hts⟩ hK hE hT hP hD hS hA (d_H_manyOn l G cA h h_features h_featureNames h_steps h_turnedFeatures h_sixteenths h_keys h_keySteps h_lent h_rings h_on h_onMany h_doors h_wanted h_openers h_seconds h_turned h_roundMany h_roundDoors c_h_onMany x) lk_RX2_113 ⟨rfl, rfl⟩ ⟨Nat.le_of_ble_eq_true rfl, Nat.le_of_ble_eq_true rfl⟩ 2 rfl rfl rfl [0, 2] [1] rfl rfl (by decide) rfl hl.1 rfl (lv_room (Nat.le_of_ble_eq_true rfl)) dX2_keyThere_9 ⟨Nat.le_of_ble_eq_true rfl, Nat.le_of_ble_eq_true rfl⟩ (fun r_34 u_35 H locs hw hP hD hS => ?_)
      have hP : va_P G vwCl [(h_on, .inl (cA.1 0, 30, .inl c_h_on)), (h, .inr (2, [.int h_features, .ref h_featureNames, .ref h_steps, .ref h_turnedFeatures, .ref h_sixteenths, .int h_keys, .ref h_keySteps, .int h_lent, .int h_rings, .ref h_on, .ref h_onMany, .int h_doors, .ref h_wanted, .ref h_openers, .ref h_seconds, .int h_turned, .int h_roundMany, .ref h_roundDoors])), (h_onMany, .inl (cA.1 0, 3, .inl c_h_onMany))] H := hP
      have hD : va_D A [(h_on, .inl (cA.1 0, 30, .inl c_h_on)), (h, .inr (2, [.int h_features, .ref h_featureNames, .ref h_steps, .ref h_turnedFeatures, .ref h_sixteenths, .int h_keys, .ref h_keySteps, .int h_lent, .int h_rings, .ref h_on, .ref h_onMany, .int h_doors, .ref h_wanted, .ref h_openers, .ref h_seconds, .int h_turned, .int h_roundMany, .ref h_roundDoors])), (h_onMany, .inl (cA.1 0, 3, .inl c_h_onMany))] := hD
      refine lv_icmp_ge (tgt := 53) hx hb dX2_keyThere_12 (by decide) (fun c_36 => ?_) (fun c_36 => ?_)
      · have b_37 := z_s1 c_36
        refine lv_iconst (v := (-1)) hx hb dX2_keyThere_53 (by decide) ?_
        exact hret _ _ _ _ _ _ () [1, 0, 2] hP hD hS rfl (by decide) dX2_keyThere_54 trivial
      · have b_38 := z_s2 c_36
        refine lv_aload_n hx hb dX2_keyThere_15 rfl (lv_at hl 0 rfl) ?_
        refine lv_iload_n hx hb dX2_keyThere_16 rfl (lv_at hl 1 rfl) ?_
        refine lv_iload hx hb dX2_keyThere_17 (lv_at hl 4 rfl) ?_
        refine z_callVi (As := [.int x, .int v_30]) (rest := []) (wr := []) ⟨hx, hb, hml, hown, hts⟩ hK hE hT hP hD hS hA (d_H_keyOn l G cA h h_features h_featureNames h_steps h_turnedFeatures h_sixteenths h_keys h_keySteps h_lent h_rings h_on h_onMany h_doors h_wanted h_openers h_seconds h_turned h_roundMany h_roundDoors c_h_on c_h_onMany x v_30) lk_RX2_116 ⟨rfl, rfl⟩ ⟨Nat.le_of_ble_eq_true rfl, Nat.le_of_ble_eq_true rfl⟩ 2 rfl rfl rfl [1, 0, 2] [] rfl rfl (by decide) rfl hl.1 rfl (lv_room (Nat.le_of_ble_eq_true rfl)) dX2_keyThere_19 ⟨Nat.le_of_ble_eq_true rfl, Nat.le_of_ble_eq_true rfl⟩ (fun r_39 u_40 H locs hw hP hD hS => ?_)
        have hP : va_P G vwCl [(h, .inr (2, [.int h_features, .ref h_featureNames, .ref h_steps, .ref h_turnedFeatures, .ref h_sixteenths, .int h_keys, .ref h_keySteps, .int h_lent, .int h_rings, .ref h_on, .ref h_onMany, .int h_doors, .ref h_wanted, .ref h_openers, .ref h_seconds, .int h_turned, .int h_roundMany, .ref h_roundDoors])), (h_on, .inl (cA.1 0, 30, .inl c_h_on)), (h_onMany, .inl (cA.1 0, 3, .inl c_h_onMany))] H := hP
        have hD : va_D A [(h, .inr (2, [.int h_features, .ref h_featureNames, .ref h_steps, .ref h_turnedFeatures, .ref h_sixteenths, .int h_keys, .ref h_keySteps, .int h_lent, .int h_rings, .ref h_on, .ref h_onMany, .int h_doors, .ref h_wanted, .ref h_openers, .ref h_seconds, .int h_turned, .int h_roundMany, .ref h_roundDoors])), (h_on, .inl (cA.1 0, 30, .inl c_h_on)), (h_onMany, .inl (cA.1 0, 3, .inl c_h_onMany))] := hD
        refine lv_istore (lv' := [(5, .int r_39), (0, .ref h), (1, .int x), (2, .int y), (3, .int v_29), (4, .int v_30)]) hx hb dX2_keyThere_22 hl (by decide) rfl (fun ls hl => ?_)
        refine lv_aload_n hx hb dX2_keyThere_24 rfl (lv_at hl 1 rfl) ?_
        refine lv_iload hx hb dX2_keyThere_25 (lv_at hl 0 rfl) ?_
        refine z_callVi (As := [.int r_39]) (rest := []) (wr := [(h_on, .inl (cA.1 0, 30, .inl c_h_on)), (h_onMany, .inl (cA.1 0, 3, .inl c_h_onMany))]) ⟨hx, hb, hml, hown, hts⟩ hK hE hT hP hD hS hA (d_H_isLent l G cA h h_features h_featureNames h_steps h_turnedFeatures h_sixteenths h_keys h_keySteps h_lent h_rings h_on h_onMany h_doors h_wanted h_openers h_seconds h_turned h_roundMany h_roundDoors r_39) lk_RX2_123 ⟨rfl, rfl⟩ ⟨Nat.le_of_ble_eq_true rfl, Nat.le_of_ble_eq_true rfl⟩ 2 rfl rfl rfl [0] [1, 2] rfl rfl (by decide) rfl hl.1 rfl (lv_room (Nat.le_of_ble_eq_true rfl)) dX2_keyThere_27 ⟨Nat.le_of_ble_eq_true rfl, Nat.le_of_ble_eq_true rfl⟩ (fun r_41 u_42 H locs hw hP hD hS => ?_)
        have hP : va_P G vwCl [(h_on, .inl (cA.1 0, 30, .inl c_h_on)), (h_onMany, .inl (cA.1 0, 3, .inl c_h_onMany)), (h, .inr (2, [.int h_features, .ref h_featureNames, .ref h_steps, .ref h_turnedFeatures, .ref h_sixteenths, .int h_keys, .ref h_keySteps, .int h_lent, .int h_rings, .ref h_on, .ref h_onMany, .int h_doors, .ref h_wanted, .ref h_openers, .ref h_seconds, .int h_turned, .int h_roundMany, .ref h_roundDoors]))] H := hP
        have hD : va_D A [(h_on, .inl (cA.1 0, 30, .inl c_h_on)), (h_onMany, .inl (cA.1 0, 3, .inl c_h_onMany)), (h, .inr (2, [.int h_features, .ref h_featureNames, .ref h_steps, .ref h_turnedFeatures, .ref h_sixteenths, .int h_keys, .ref h_keySteps, .int h_lent, .int h_rings, .ref h_on, .ref h_onMany, .int h_doors, .ref h_wanted, .ref h_openers, .ref h_seconds, .int h_turned, .int h_roundMany, .ref h_roundDoors]))] := hD
        have hz_r_41 := hw
        refine lv_if_eq (tgt := 36) hx hb dX2_keyThere_30 (by decide) (fun c_43 => ?_) (fun c_43 => ?_)
        · skip
          refine lv_iload_n hx hb dX2_keyThere_36 rfl (lv_at hl 4 rfl) ?_
          refine lv_iload_n hx hb dX2_keyThere_37 rfl (lv_at hl 3 rfl) ?_
          refine lv_icmp_ne (tgt := 44) hx hb dX2_keyThere_38 (by decide) (fun c_45 => ?_) (fun c_45 => ?_)
          · skip
            refine lv_iinc (v := (v_29 + 1)) (lv' := [(3, .int (v_29 + 1)), (5, .int r_39), (0, .ref h), (1, .int x), (2, .int y), (4, .int v_30)]) hx hb dX2_keyThere_44 hl (k := 4) rfl (z_ofi (by decide +kernel)) (by decide) rfl (fun ls hl => ?_)
            refine lv_iinc (v := (v_30 + 1)) (lv' := [(4, .int (v_30 + 1)), (3, .int (v_29 + 1)), (5, .int r_39), (0, .ref h), (1, .int x), (2, .int y)]) hx hb dX2_keyThere_47 hl (k := 5) rfl (z_ofi (by decide +kernel)) (by decide) rfl (fun ls hl => ?_)
            refine lv_goto (tgt := 5) hx hb dX2_keyThere_50 (by decide) ?_
            have hP := hP.sub (ws' := [(h, .inr (2, [.int h_features, .ref h_featureNames, .ref h_steps, .ref h_turnedFeatures, .ref h_sixteenths, .int h_keys, .ref h_keySteps, .int h_lent, .int h_rings, .ref h_on, .ref h_onMany, .int h_doors, .ref h_wanted, .ref h_openers, .ref h_seconds, .int h_turned, .int h_roundMany, .ref h_roundDoors])), (h_on, .inl (cA.1 0, 30, .inl c_h_on)), (h_onMany, .inl (cA.1 0, 3, .inl c_h_onMany))]) [2, 0, 1] rfl
            have hD := hD.sub (ws' := [(h, .inr (2, [.int h_features, .ref h_featureNames, .ref h_steps, .ref h_turnedFeatures, .ref h_sixteenths, .int h_keys, .ref h_keySteps, .int h_lent, .int h_rings, .ref h_on, .ref h_onMany, .int h_doors, .ref h_wanted, .ref h_openers, .ref h_seconds, .int h_turned, .int h_roundMany, .ref h_roundDoors])), (h_on, .inl (cA.1 0, 30, .inl c_h_on)), (h_onMany, .inl (cA.1 0, 3, .inl c_h_onMany))]) [2, 0, 1] (by decide) rfl
            exact ih_33 (v_29 + 1) (v_30 + 1) H locs ls (z_up hmu (by omega) (by omega)) (z_upc hi_32 (by omega) (by omega)) hP hD hS (lv_sub hl [3, 4, 5, 1, 0] rfl)
          · skip
            refine lv_iload hx hb dX2_keyThere_41 (lv_at hl 0 rfl) ?_
            exact hret _ _ _ _ _ _ () [2, 0, 1] hP hD hS rfl (by decide) dX2_keyThere_43 trivial
        · skip
          refine lv_goto (tgt := 47) hx hb dX2_keyThere_33 (by decide) ?_
          refine lv_iinc (v := (v_30 + 1)) (lv' := [(4, .int (v_30 + 1)), (5, .int r_39), (0, .ref h), (1, .int x), (2, .int y), (3, .int v_29)]) hx hb dX2_keyThere_47 hl (k := 5) rfl (z_ofi (by decide +kernel)) (by decide) rfl (fun ls hl => ?_)
          refine lv_goto (tgt := 5) hx hb dX2_keyThere_50 (by decide) ?_
          have hP := hP.sub (ws' := [(h, .inr (2, [.int h_features, .ref h_featureNames, .ref h_steps, .ref h_turnedFeatures, .ref h_sixteenths, .int h_keys, .ref h_keySteps, .int h_lent, .int h_rings, .ref h_on, .ref h_onMany, .int h_doors, .ref h_wanted, .ref h_openers, .ref h_seconds, .int h_turned, .int h_roundMany, .ref h_roundDoors])), (h_on, .inl (cA.1 0, 30, .inl c_h_on)), (h_onMany, .inl (cA.1 0, 3, .inl c_h_onMany))]) [2, 0, 1] rfl
          have hD := hD.sub (ws' := [(h, .inr (2, [.int h_features, .ref h_featureNames, .ref h_steps, .ref h_turnedFeatures, .ref h_sixteenths, .int h_keys, .ref h_keySteps, .int h_lent, .int h_rings, .ref h_on, .ref h_onMany, .int h_doors, .ref h_wanted, .ref h_openers, .ref h_seconds, .int h_turned, .int h_roundMany, .ref h_roundDoors])), (h_on, .inl (cA.1 0, 30, .inl c_h_on)), (h_onMany, .inl (cA.1 0, 3, .inl c_h_onMany))]) [2, 0, 1] (by decide) rfl
          exact ih_33 v_29 (v_30 + 1) H locs ls (z_up hmu (by omega) (by omega)) (z_upc hi_32 (by omega) (by omega)) hP hD hS (lv_sub hl [2, 3, 4, 5, 0] rfl)
  exact hlp_31 _ 0 0 _ _ _ (Nat.lt_succ_self _) (by first | decide +kernel | omega) hP hD hS (lv_sub hl [2, 3, 4, 1, 0] rfl)
set_option maxHeartbeats 4000000 in
set_option maxRecDepth 100000 in
theorem d_H_isOnlyOpener (l : Launch) (G : va_G) (cA : zCA) (h : Nat) (h_features : Int32) (h_featureNames : Nat) (h_steps : Nat) (h_turnedFeatures : Nat) (h_sixteenths : Nat) (h_keys : Int32) (h_keySteps : Nat) (h_lent : Int32) (h_rings : Int32) (h_on : Nat) (h_onMany : Nat) (h_doors : Int32) (h_wanted : Nat) (h_openers : Nat) (h_seconds : Nat) (h_turned : Int32) (h_roundMany : Int32) (h_roundDoors : Nat) (c_h_on : Nat → Int32) (c_h_onMany : Nat → Int32) (c_h_openers : Nat → Int32) (x : Int32) (y : Int32) : zCi l yX2_isOnlyOpener cX2_isOnlyOpener 6 (some .boolean) ({ frames := 5, cells := 0, slots := 0, locals := 109 }) G cA [.ref h, .int x, .int y] [(h, .inr (2, [.int h_features, .ref h_featureNames, .ref h_steps, .ref h_turnedFeatures, .ref h_sixteenths, .int h_keys, .ref h_keySteps, .int h_lent, .int h_rings, .ref h_on, .ref h_onMany, .int h_doors, .ref h_wanted, .ref h_openers, .ref h_seconds, .int h_turned, .int h_roundMany, .ref h_roundDoors])), (h_on, .inl (cA.1 0, 30, .inl c_h_on)), (h_onMany, .inl (cA.1 0, 3, .inl c_h_onMany)), (h_openers, .inl (cA.1 0, 5, .inl c_h_openers))] (S := Unit) (fun (r : Int32) (u : Unit) => r = 0 ∨ r = 1) (fun (u : Unit) => [(h, .inr (2, [.int h_features, .ref h_featureNames, .ref h_steps, .ref h_turnedFeatures, .ref h_sixteenths, .int h_keys, .ref h_keySteps, .int h_lent, .int h_rings, .ref h_on, .ref h_onMany, .int h_doors, .ref h_wanted, .ref h_openers, .ref h_seconds, .int h_turned, .int h_roundMany, .ref h_roundDoors])), (h_on, .inl (cA.1 0, 30, .inl c_h_on)), (h_onMany, .inl (cA.1 0, 3, .inl c_h_onMany)), (h_openers, .inl (cA.1 0, 5, .inl c_h_openers))]) 0 0 := by
  refine z_start2z (own := RX2) (by decide) (Nat.le_of_ble_eq_true rfl) rfl ?_
  intro p e s m args below meth c A ls Q hx hb hml hts hown hK hE hT hP hD hS hA hl hret
  have hl : lv_has ls 6 [(0, .ref h), (1, .int x), (2, .int y)] := hl
  refine lv_aload_n hx hb dX2_isOnlyOpener_0 rfl (lv_at hl 0 rfl) ?_
  refine lv_iload_n hx hb dX2_isOnlyOpener_1 rfl (lv_at hl 1 rfl) ?_
  refine z_callVi (As := [.int x]) (rest := []) (wr := [(h_openers, .inl (cA.1 0, 5, .inl c_h_openers))]) ⟨hx, hb, hml, hown, hts⟩ hK hE hT hP hD hS hA (d_H_ringOf l G cA h h_features h_featureNames h_steps h_turnedFeatures h_sixteenths h_keys h_keySteps h_lent h_rings h_on h_onMany h_doors h_wanted h_openers h_seconds h_turned h_roundMany h_roundDoors c_h_on c_h_onMany x) lk_RX2_130 ⟨rfl, rfl⟩ ⟨Nat.le_of_ble_eq_true rfl, Nat.le_of_ble_eq_true rfl⟩ 2 rfl rfl rfl [0, 1, 2] [3] rfl rfl (by decide) rfl hl.1 rfl (lv_room (Nat.le_of_ble_eq_true rfl)) dX2_isOnlyOpener_2 ⟨Nat.le_of_ble_eq_true rfl, Nat.le_of_ble_eq_true rfl⟩ (fun r_1 u_2 H locs hw hP hD hS => ?_)
  have hP : va_P G vwCl [(h_openers, .inl (cA.1 0, 5, .inl c_h_openers)), (h, .inr (2, [.int h_features, .ref h_featureNames, .ref h_steps, .ref h_turnedFeatures, .ref h_sixteenths, .int h_keys, .ref h_keySteps, .int h_lent, .int h_rings, .ref h_on, .ref h_onMany, .int h_doors, .ref h_wanted, .ref h_openers, .ref h_seconds, .int h_turned, .int h_roundMany, .ref h_roundDoors])), (h_on, .inl (cA.1 0, 30, .inl c_h_on)), (h_onMany, .inl (cA.1 0, 3, .inl c_h_onMany))] H := hP
  have hD : va_D A [(h_openers, .inl (cA.1 0, 5, .inl c_h_openers)), (h, .inr (2, [.int h_features, .ref h_featureNames, .ref h_steps, .ref h_turnedFeatures, .ref h_sixteenths, .int h_keys, .ref h_keySteps, .int h_lent, .int h_rings, .ref h_on, .ref h_onMany, .int h_doors, .ref h_wanted, .ref h_openers, .ref h_seconds, .int h_turned, .int h_roundMany, .ref h_roundDoors])), (h_on, .inl (cA.1 0, 30, .inl c_h_on)), (h_onMany, .inl (cA.1 0, 3, .inl c_h_onMany))] := hD
  refine lv_istore_n (lv' := [(3, .int r_1), (0, .ref h), (1, .int x), (2, .int y)]) hx hb dX2_isOnlyOpener_5 rfl hl (by decide) rfl (fun ls hl => ?_)
  refine lv_iload_n hx hb dX2_isOnlyOpener_6 rfl (lv_at hl 0 rfl) ?_
  refine lv_iconst (v := (-1)) hx hb dX2_isOnlyOpener_7 (by decide) ?_
  refine lv_icmp_eq (tgt := 28) hx hb dX2_isOnlyOpener_8 (by decide) (fun c_3 => ?_) (fun c_3 => ?_)
  · skip
    refine lv_iconst (v := 0) hx hb dX2_isOnlyOpener_28 (by decide) ?_
    exact hret _ _ _ _ _ _ () [1, 2, 3, 0] hP hD hS rfl (by decide) dX2_isOnlyOpener_29 (Or.inl rfl) (Or.inl rfl)
  · skip
    refine lv_aload_n hx hb dX2_isOnlyOpener_11 rfl (lv_at hl 1 rfl) ?_
    refine lv_iload_n hx hb dX2_isOnlyOpener_12 rfl (lv_at hl 2 rfl) ?_
    refine z_callVi (As := [.int x]) (rest := []) (wr := [(h_openers, .inl (cA.1 0, 5, .inl c_h_openers)), (h_on, .inl (cA.1 0, 30, .inl c_h_on)), (h_onMany, .inl (cA.1 0, 3, .inl c_h_onMany))]) ⟨hx, hb, hml, hown, hts⟩ hK hE hT hP hD hS hA (d_H_isLent l G cA h h_features h_featureNames h_steps h_turnedFeatures h_sixteenths h_keys h_keySteps h_lent h_rings h_on h_onMany h_doors h_wanted h_openers h_seconds h_turned h_roundMany h_roundDoors x) lk_RX2_123 ⟨rfl, rfl⟩ ⟨Nat.le_of_ble_eq_true rfl, Nat.le_of_ble_eq_true rfl⟩ 2 rfl rfl rfl [1] [0, 2, 3] rfl rfl (by decide) rfl hl.1 rfl (lv_room (Nat.le_of_ble_eq_true rfl)) dX2_isOnlyOpener_13 ⟨Nat.le_of_ble_eq_true rfl, Nat.le_of_ble_eq_true rfl⟩ (fun r_6 u_7 H locs hw hP hD hS => ?_)
    have hP : va_P G vwCl [(h_openers, .inl (cA.1 0, 5, .inl c_h_openers)), (h_on, .inl (cA.1 0, 30, .inl c_h_on)), (h_onMany, .inl (cA.1 0, 3, .inl c_h_onMany)), (h, .inr (2, [.int h_features, .ref h_featureNames, .ref h_steps, .ref h_turnedFeatures, .ref h_sixteenths, .int h_keys, .ref h_keySteps, .int h_lent, .int h_rings, .ref h_on, .ref h_onMany, .int h_doors, .ref h_wanted, .ref h_openers, .ref h_seconds, .int h_turned, .int h_roundMany, .ref h_roundDoors]))] H := hP
    have hD : va_D A [(h_openers, .inl (cA.1 0, 5, .inl c_h_openers)), (h_on, .inl (cA.1 0, 30, .inl c_h_on)), (h_onMany, .inl (cA.1 0, 3, .inl c_h_onMany)), (h, .inr (2, [.int h_features, .ref h_featureNames, .ref h_steps, .ref h_turnedFeatures, .ref h_sixteenths, .int h_keys, .ref h_keySteps, .int h_lent, .int h_rings, .ref h_on, .ref h_onMany, .int h_doors, .ref h_wanted, .ref h_openers, .ref h_seconds, .int h_turned, .int h_roundMany, .ref h_roundDoors]))] := hD
    have hz_r_6 := hw
    refine lv_if_ne (tgt := 28) hx hb dX2_isOnlyOpener_16 (by decide) (fun c_8 => ?_) (fun c_8 => ?_)
    · skip
      refine lv_iconst (v := 0) hx hb dX2_isOnlyOpener_28 (by decide) ?_
      exact hret _ _ _ _ _ _ () [3, 1, 2, 0] hP hD hS rfl (by decide) dX2_isOnlyOpener_29 (Or.inl rfl) (Or.inl rfl)
    · skip
      refine lv_aload_n hx hb dX2_isOnlyOpener_19 rfl (lv_at hl 1 rfl) ?_
      refine lv_iload_n hx hb dX2_isOnlyOpener_20 rfl (lv_at hl 2 rfl) ?_
      refine lv_iload_n hx hb dX2_isOnlyOpener_21 rfl (lv_at hl 3 rfl) ?_
      refine z_callVi (As := [.int x, .int y]) (rest := []) (wr := [(h_on, .inl (cA.1 0, 30, .inl c_h_on)), (h_onMany, .inl (cA.1 0, 3, .inl c_h_onMany))]) ⟨hx, hb, hml, hown, hts⟩ hK hE hT hP hD hS hA (d_H_unlocks l G cA h h_features h_featureNames h_steps h_turnedFeatures h_sixteenths h_keys h_keySteps h_lent h_rings h_on h_onMany h_doors h_wanted h_openers h_seconds h_turned h_roundMany h_roundDoors c_h_openers x y) lk_RX2_133 ⟨rfl, rfl⟩ ⟨Nat.le_of_ble_eq_true rfl, Nat.le_of_ble_eq_true rfl⟩ 2 rfl rfl rfl [3, 0] [1, 2] rfl rfl (by decide) rfl hl.1 rfl (lv_room (Nat.le_of_ble_eq_true rfl)) dX2_isOnlyOpener_22 ⟨Nat.le_of_ble_eq_true rfl, Nat.le_of_ble_eq_true rfl⟩ (fun r_11 u_12 H locs hw hP hD hS => ?_)
      have hP : va_P G vwCl [(h_on, .inl (cA.1 0, 30, .inl c_h_on)), (h_onMany, .inl (cA.1 0, 3, .inl c_h_onMany)), (h, .inr (2, [.int h_features, .ref h_featureNames, .ref h_steps, .ref h_turnedFeatures, .ref h_sixteenths, .int h_keys, .ref h_keySteps, .int h_lent, .int h_rings, .ref h_on, .ref h_onMany, .int h_doors, .ref h_wanted, .ref h_openers, .ref h_seconds, .int h_turned, .int h_roundMany, .ref h_roundDoors])), (h_openers, .inl (cA.1 0, 5, .inl c_h_openers))] H := hP
      have hD : va_D A [(h_on, .inl (cA.1 0, 30, .inl c_h_on)), (h_onMany, .inl (cA.1 0, 3, .inl c_h_onMany)), (h, .inr (2, [.int h_features, .ref h_featureNames, .ref h_steps, .ref h_turnedFeatures, .ref h_sixteenths, .int h_keys, .ref h_keySteps, .int h_lent, .int h_rings, .ref h_on, .ref h_onMany, .int h_doors, .ref h_wanted, .ref h_openers, .ref h_seconds, .int h_turned, .int h_roundMany, .ref h_roundDoors])), (h_openers, .inl (cA.1 0, 5, .inl c_h_openers))] := hD
      have hz_r_11 := hw
      refine lv_if_ne (tgt := 30) hx hb dX2_isOnlyOpener_25 (by decide) (fun c_13 => ?_) (fun c_13 => ?_)
      · skip
        refine lv_iconst (v := 0) hx hb dX2_isOnlyOpener_30 (by decide) ?_
        refine lv_istore (lv' := [(4, .int 0), (3, .int r_1), (0, .ref h), (1, .int x), (2, .int y)]) hx hb dX2_isOnlyOpener_31 hl (by decide) rfl (fun ls hl => ?_)
        have hlp_55 : ∀ (n : Nat) (v_54 : Int32) (H : Heap) (locs : List Loc) (ls : Array Slot), (2147483647 - v_54.toInt).toNat < n → (0 ≤ v_54.toInt) → va_P G vwCl [(h_on, .inl (cA.1 0, 30, .inl c_h_on)), (h_onMany, .inl (cA.1 0, 3, .inl c_h_onMany)), (h, .inr (2, [.int h_features, .ref h_featureNames, .ref h_steps, .ref h_turnedFeatures, .ref h_sixteenths, .int h_keys, .ref h_keySteps, .int h_lent, .int h_rings, .ref h_on, .ref h_onMany, .int h_doors, .ref h_wanted, .ref h_openers, .ref h_seconds, .int h_turned, .int h_roundMany, .ref h_roundDoors])), (h_openers, .inl (cA.1 0, 5, .inl c_h_openers))] H → va_D A [(h_on, .inl (cA.1 0, 30, .inl c_h_on)), (h_onMany, .inl (cA.1 0, 3, .inl c_h_onMany)), (h, .inr (2, [.int h_features, .ref h_featureNames, .ref h_steps, .ref h_turnedFeatures, .ref h_sixteenths, .int h_keys, .ref h_keySteps, .int h_lent, .int h_rings, .ref h_on, .ref h_onMany, .int h_doors, .ref h_wanted, .ref h_openers, .ref h_seconds, .int h_turned, .int h_roundMany, .ref h_roundDoors])), (h_openers, .inl (cA.1 0, 5, .inl c_h_openers))] → va_S A s.heap H locs → lv_has ls 6 [(0, .ref h), (1, .int x), (2, .int y), (3, .int r_1), (4, .int v_54)] → W p l e ({ frames := 5, cells := 0, slots := 0, locals := 109 }) s m args below meth c H locs 0 0 Q (F0 m 33 ls []) := by
          intro n
          induction n with
          | zero =>
            intro v_54 H locs ls hmu hi_56 hP hD hS hl
            exact absurd hmu (Nat.not_lt_zero _)
          | succ n ih_57 =>
            intro v_54 H locs ls hmu hi_56 hP hD hS hl
            refine lv_iload hx hb dX2_isOnlyOpener_33 (lv_at hl 4 rfl) ?_
            refine lv_aload_n hx hb dX2_isOnlyOpener_35 rfl (lv_at hl 0 rfl) ?_
            refine lv_iload_n hx hb dX2_isOnlyOpener_36 rfl (lv_at hl 3 rfl) ?_
            refine z_callVi (As := [.int r_1]) (rest := [.int v_54]) (wr := [(h_on, .inl (cA.1 0, 30, .inl c_h_on)), (h_openers, .inl (cA.1 0, 5, .inl c_h_openers))]) ⟨hx, hb, hml, hown, hts⟩ hK hE hT hP hD hS hA (d_H_manyOn l G cA h h_features h_featureNames h_steps h_turnedFeatures h_sixteenths h_keys h_keySteps h_lent h_rings h_on h_onMany h_doors h_wanted h_openers h_seconds h_turned h_roundMany h_roundDoors c_h_onMany r_1) lk_RX2_113 ⟨rfl, rfl⟩ ⟨Nat.le_of_ble_eq_true rfl, Nat.le_of_ble_eq_true rfl⟩ 2 rfl rfl rfl [2, 1] [0, 3] rfl rfl (by decide) rfl hl.1 rfl (lv_room (Nat.le_of_ble_eq_true rfl)) dX2_isOnlyOpener_37 ⟨Nat.le_of_ble_eq_true rfl, Nat.le_of_ble_eq_true rfl⟩ (fun r_58 u_59 H locs hw hP hD hS => ?_)
            have hP : va_P G vwCl [(h_on, .inl (cA.1 0, 30, .inl c_h_on)), (h_openers, .inl (cA.1 0, 5, .inl c_h_openers)), (h, .inr (2, [.int h_features, .ref h_featureNames, .ref h_steps, .ref h_turnedFeatures, .ref h_sixteenths, .int h_keys, .ref h_keySteps, .int h_lent, .int h_rings, .ref h_on, .ref h_onMany, .int h_doors, .ref h_wanted, .ref h_openers, .ref h_seconds, .int h_turned, .int h_roundMany, .ref h_roundDoors])), (h_onMany, .inl (cA.1 0, 3, .inl c_h_onMany))] H := hP
            have hD : va_D A [(h_on, .inl (cA.1 0, 30, .inl c_h_on)), (h_openers, .inl (cA.1 0, 5, .inl c_h_openers)), (h, .inr (2, [.int h_features, .ref h_featureNames, .ref h_steps, .ref h_turnedFeatures, .ref h_sixteenths, .int h_keys, .ref h_keySteps, .int h_lent, .int h_rings, .ref h_on, .ref h_onMany, .int h_doors, .ref h_wanted, .ref h_openers, .ref h_seconds, .int h_turned, .int h_roundMany, .ref h_roundDoors])), (h_onMany, .inl (cA.1 0, 3, .inl c_h_onMany))] := hD
            refine lv_icmp_ge (tgt := 85) hx hb dX2_isOnlyOpener_40 (by decide) (fun c_60 => ?_) (fun c_60 => ?_)
            · have b_61 := z_s1 c_60
              refine lv_iconst (v := 1) hx hb dX2_isOnlyOpener_85 (by decide) ?_
              exact hret _ _ _ _ _ _ () [2, 0, 3, 1] hP hD hS rfl (by decide) dX2_isOnlyOpener_86 (Or.inr rfl) (Or.inr rfl)
            · have b_62 := z_s2 c_60
              refine lv_aload_n hx hb dX2_isOnlyOpener_43 rfl (lv_at hl 0 rfl) ?_
              refine lv_iload_n hx hb dX2_isOnlyOpener_44 rfl (lv_at hl 3 rfl) ?_
              refine lv_iload hx hb dX2_isOnlyOpener_45 (lv_at hl 4 rfl) ?_
              refine z_callVi (As := [.int r_1, .int v_54]) (rest := []) (wr := [(h_openers, .inl (cA.1 0, 5, .inl c_h_openers))]) ⟨hx, hb, hml, hown, hts⟩ hK hE hT hP hD hS hA (d_H_keyOn l G cA h h_features h_featureNames h_steps h_turnedFeatures h_sixteenths h_keys h_keySteps h_lent h_rings h_on h_onMany h_doors h_wanted h_openers h_seconds h_turned h_roundMany h_roundDoors c_h_on c_h_onMany r_1 v_54) lk_RX2_116 ⟨rfl, rfl⟩ ⟨Nat.le_of_ble_eq_true rfl, Nat.le_of_ble_eq_true rfl⟩ 2 rfl rfl rfl [2, 0, 3] [1] rfl rfl (by decide) rfl hl.1 rfl (lv_room (Nat.le_of_ble_eq_true rfl)) dX2_isOnlyOpener_47 ⟨Nat.le_of_ble_eq_true rfl, Nat.le_of_ble_eq_true rfl⟩ (fun r_63 u_64 H locs hw hP hD hS => ?_)
              have hP : va_P G vwCl [(h_openers, .inl (cA.1 0, 5, .inl c_h_openers)), (h, .inr (2, [.int h_features, .ref h_featureNames, .ref h_steps, .ref h_turnedFeatures, .ref h_sixteenths, .int h_keys, .ref h_keySteps, .int h_lent, .int h_rings, .ref h_on, .ref h_onMany, .int h_doors, .ref h_wanted, .ref h_openers, .ref h_seconds, .int h_turned, .int h_roundMany, .ref h_roundDoors])), (h_on, .inl (cA.1 0, 30, .inl c_h_on)), (h_onMany, .inl (cA.1 0, 3, .inl c_h_onMany))] H := hP
              have hD : va_D A [(h_openers, .inl (cA.1 0, 5, .inl c_h_openers)), (h, .inr (2, [.int h_features, .ref h_featureNames, .ref h_steps, .ref h_turnedFeatures, .ref h_sixteenths, .int h_keys, .ref h_keySteps, .int h_lent, .int h_rings, .ref h_on, .ref h_onMany, .int h_doors, .ref h_wanted, .ref h_openers, .ref h_seconds, .int h_turned, .int h_roundMany, .ref h_roundDoors])), (h_on, .inl (cA.1 0, 30, .inl c_h_on)), (h_onMany, .inl (cA.1 0, 3, .inl c_h_onMany))] := hD
              refine lv_istore (lv' := [(5, .int r_63), (0, .ref h), (1, .int x), (2, .int y), (3, .int r_1), (4, .int v_54)]) hx hb dX2_isOnlyOpener_50 hl (by decide) rfl (fun ls hl => ?_)
              refine lv_iload hx hb dX2_isOnlyOpener_52 (lv_at hl 0 rfl) ?_
              refine lv_iload_n hx hb dX2_isOnlyOpener_54 rfl (lv_at hl 2 rfl) ?_
              refine lv_icmp_eq (tgt := 79) hx hb dX2_isOnlyOpener_55 (by decide) (fun c_65 => ?_) (fun c_65 => ?_)
              · skip
                refine lv_iinc (v := (v_54 + 1)) (lv' := [(4, .int (v_54 + 1)), (5, .int r_63), (0, .ref h), (1, .int x), (2, .int y), (3, .int r_1)]) hx hb dX2_isOnlyOpener_79 hl (k := 5) rfl (z_ofi (by decide +kernel)) (by decide) rfl (fun ls hl => ?_)
                refine lv_goto (tgt := 33) hx hb dX2_isOnlyOpener_82 (by decide) ?_
                have hP := hP.sub (ws' := [(h_on, .inl (cA.1 0, 30, .inl c_h_on)), (h_onMany, .inl (cA.1 0, 3, .inl c_h_onMany)), (h, .inr (2, [.int h_features, .ref h_featureNames, .ref h_steps, .ref h_turnedFeatures, .ref h_sixteenths, .int h_keys, .ref h_keySteps, .int h_lent, .int h_rings, .ref h_on, .ref h_onMany, .int h_doors, .ref h_wanted, .ref h_openers, .ref h_seconds, .int h_turned, .int h_roundMany, .ref h_roundDoors])), (h_openers, .inl (cA.1 0, 5, .inl c_h_openers))]) [2, 3, 1, 0] rfl
                have hD := hD.sub (ws' := [(h_on, .inl (cA.1 0, 30, .inl c_h_on)), (h_onMany, .inl (cA.1 0, 3, .inl c_h_onMany)), (h, .inr (2, [.int h_features, .ref h_featureNames, .ref h_steps, .ref h_turnedFeatures, .ref h_sixteenths, .int h_keys, .ref h_keySteps, .int h_lent, .int h_rings, .ref h_on, .ref h_onMany, .int h_doors, .ref h_wanted, .ref h_openers, .ref h_seconds, .int h_turned, .int h_roundMany, .ref h_roundDoors])), (h_openers, .inl (cA.1 0, 5, .inl c_h_openers))]) [2, 3, 1, 0] (by decide) rfl
                exact ih_57 (v_54 + 1) H locs ls (z_up hmu (by omega) (by omega)) (z_upc hi_56 (by omega) (by omega)) hP hD hS (lv_sub hl [2, 3, 4, 5, 0] rfl)
              · skip
                refine lv_aload_n hx hb dX2_isOnlyOpener_58 rfl (lv_at hl 1 rfl) ?_
                refine lv_iload hx hb dX2_isOnlyOpener_59 (lv_at hl 0 rfl) ?_
                refine z_callVi (As := [.int r_63]) (rest := []) (wr := [(h_openers, .inl (cA.1 0, 5, .inl c_h_openers)), (h_on, .inl (cA.1 0, 30, .inl c_h_on)), (h_onMany, .inl (cA.1 0, 3, .inl c_h_onMany))]) ⟨hx, hb, hml, hown, hts⟩ hK hE hT hP hD hS hA (d_H_isLent l G cA h h_features h_featureNames h_steps h_turnedFeatures h_sixteenths h_keys h_keySteps h_lent h_rings h_on h_onMany h_doors h_wanted h_openers h_seconds h_turned h_roundMany h_roundDoors r_63) lk_RX2_123 ⟨rfl, rfl⟩ ⟨Nat.le_of_ble_eq_true rfl, Nat.le_of_ble_eq_true rfl⟩ 2 rfl rfl rfl [1] [0, 2, 3] rfl rfl (by decide) rfl hl.1 rfl (lv_room (Nat.le_of_ble_eq_true rfl)) dX2_isOnlyOpener_61 ⟨Nat.le_of_ble_eq_true rfl, Nat.le_of_ble_eq_true rfl⟩ (fun r_68 u_69 H locs hw hP hD hS => ?_)
                have hP : va_P G vwCl [(h_openers, .inl (cA.1 0, 5, .inl c_h_openers)), (h_on, .inl (cA.1 0, 30, .inl c_h_on)), (h_onMany, .inl (cA.1 0, 3, .inl c_h_onMany)), (h, .inr (2, [.int h_features, .ref h_featureNames, .ref h_steps, .ref h_turnedFeatures, .ref h_sixteenths, .int h_keys, .ref h_keySteps, .int h_lent, .int h_rings, .ref h_on, .ref h_onMany, .int h_doors, .ref h_wanted, .ref h_openers, .ref h_seconds, .int h_turned, .int h_roundMany, .ref h_roundDoors]))] H := hP
                have hD : va_D A [(h_openers, .inl (cA.1 0, 5, .inl c_h_openers)), (h_on, .inl (cA.1 0, 30, .inl c_h_on)), (h_onMany, .inl (cA.1 0, 3, .inl c_h_onMany)), (h, .inr (2, [.int h_features, .ref h_featureNames, .ref h_steps, .ref h_turnedFeatures, .ref h_sixteenths, .int h_keys, .ref h_keySteps, .int h_lent, .int h_rings, .ref h_on, .ref h_onMany, .int h_doors, .ref h_wanted, .ref h_openers, .ref h_seconds, .int h_turned, .int h_roundMany, .ref h_roundDoors]))] := hD
                have hz_r_68 := hw
                refine lv_if_ne (tgt := 79) hx hb dX2_isOnlyOpener_64 (by decide) (fun c_70 => ?_) (fun c_70 => ?_)
                · skip
                  refine lv_iinc (v := (v_54 + 1)) (lv' := [(4, .int (v_54 + 1)), (5, .int r_63), (0, .ref h), (1, .int x), (2, .int y), (3, .int r_1)]) hx hb dX2_isOnlyOpener_79 hl (k := 5) rfl (z_ofi (by decide +kernel)) (by decide) rfl (fun ls hl => ?_)
                  refine lv_goto (tgt := 33) hx hb dX2_isOnlyOpener_82 (by decide) ?_
                  have hP := hP.sub (ws' := [(h_on, .inl (cA.1 0, 30, .inl c_h_on)), (h_onMany, .inl (cA.1 0, 3, .inl c_h_onMany)), (h, .inr (2, [.int h_features, .ref h_featureNames, .ref h_steps, .ref h_turnedFeatures, .ref h_sixteenths, .int h_keys, .ref h_keySteps, .int h_lent, .int h_rings, .ref h_on, .ref h_onMany, .int h_doors, .ref h_wanted, .ref h_openers, .ref h_seconds, .int h_turned, .int h_roundMany, .ref h_roundDoors])), (h_openers, .inl (cA.1 0, 5, .inl c_h_openers))]) [1, 2, 3, 0] rfl
                  have hD := hD.sub (ws' := [(h_on, .inl (cA.1 0, 30, .inl c_h_on)), (h_onMany, .inl (cA.1 0, 3, .inl c_h_onMany)), (h, .inr (2, [.int h_features, .ref h_featureNames, .ref h_steps, .ref h_turnedFeatures, .ref h_sixteenths, .int h_keys, .ref h_keySteps, .int h_lent, .int h_rings, .ref h_on, .ref h_onMany, .int h_doors, .ref h_wanted, .ref h_openers, .ref h_seconds, .int h_turned, .int h_roundMany, .ref h_roundDoors])), (h_openers, .inl (cA.1 0, 5, .inl c_h_openers))]) [1, 2, 3, 0] (by decide) rfl
                  exact ih_57 (v_54 + 1) H locs ls (z_up hmu (by omega) (by omega)) (z_upc hi_56 (by omega) (by omega)) hP hD hS (lv_sub hl [2, 3, 4, 5, 0] rfl)
                · skip
                  refine lv_aload_n hx hb dX2_isOnlyOpener_67 rfl (lv_at hl 1 rfl) ?_
                  refine lv_iload hx hb dX2_isOnlyOpener_68 (lv_at hl 0 rfl) ?_
                  refine lv_iload_n hx hb dX2_isOnlyOpener_70 rfl (lv_at hl 3 rfl) ?_
                  refine z_callVi (As := [.int r_63, .int y]) (rest := []) (wr := [(h_on, .inl (cA.1 0, 30, .inl c_h_on)), (h_onMany, .inl (cA.1 0, 3, .inl c_h_onMany))]) ⟨hx, hb, hml, hown, hts⟩ hK hE hT hP hD hS hA (d_H_unlocks l G cA h h_features h_featureNames h_steps h_turnedFeatures h_sixteenths h_keys h_keySteps h_lent h_rings h_on h_onMany h_doors h_wanted h_openers h_seconds h_turned h_roundMany h_roundDoors c_h_openers r_63 y) lk_RX2_133 ⟨rfl, rfl⟩ ⟨Nat.le_of_ble_eq_true rfl, Nat.le_of_ble_eq_true rfl⟩ 2 rfl rfl rfl [3, 0] [1, 2] rfl rfl (by decide) rfl hl.1 rfl (lv_room (Nat.le_of_ble_eq_true rfl)) dX2_isOnlyOpener_71 ⟨Nat.le_of_ble_eq_true rfl, Nat.le_of_ble_eq_true rfl⟩ (fun r_73 u_74 H locs hw hP hD hS => ?_)
                  have hP : va_P G vwCl [(h_on, .inl (cA.1 0, 30, .inl c_h_on)), (h_onMany, .inl (cA.1 0, 3, .inl c_h_onMany)), (h, .inr (2, [.int h_features, .ref h_featureNames, .ref h_steps, .ref h_turnedFeatures, .ref h_sixteenths, .int h_keys, .ref h_keySteps, .int h_lent, .int h_rings, .ref h_on, .ref h_onMany, .int h_doors, .ref h_wanted, .ref h_openers, .ref h_seconds, .int h_turned, .int h_roundMany, .ref h_roundDoors])), (h_openers, .inl (cA.1 0, 5, .inl c_h_openers))] H := hP
                  have hD : va_D A [(h_on, .inl (cA.1 0, 30, .inl c_h_on)), (h_onMany, .inl (cA.1 0, 3, .inl c_h_onMany)), (h, .inr (2, [.int h_features, .ref h_featureNames, .ref h_steps, .ref h_turnedFeatures, .ref h_sixteenths, .int h_keys, .ref h_keySteps, .int h_lent, .int h_rings, .ref h_on, .ref h_onMany, .int h_doors, .ref h_wanted, .ref h_openers, .ref h_seconds, .int h_turned, .int h_roundMany, .ref h_roundDoors])), (h_openers, .inl (cA.1 0, 5, .inl c_h_openers))] := hD
                  have hz_r_73 := hw
                  refine lv_if_eq (tgt := 79) hx hb dX2_isOnlyOpener_74 (by decide) (fun c_75 => ?_) (fun c_75 => ?_)
                  · skip
                    refine lv_iinc (v := (v_54 + 1)) (lv' := [(4, .int (v_54 + 1)), (5, .int r_63), (0, .ref h), (1, .int x), (2, .int y), (3, .int r_1)]) hx hb dX2_isOnlyOpener_79 hl (k := 5) rfl (z_ofi (by decide +kernel)) (by decide) rfl (fun ls hl => ?_)
                    refine lv_goto (tgt := 33) hx hb dX2_isOnlyOpener_82 (by decide) ?_
                    exact ih_57 (v_54 + 1) H locs ls (z_up hmu (by omega) (by omega)) (z_upc hi_56 (by omega) (by omega)) hP hD hS (lv_sub hl [2, 3, 4, 5, 0] rfl)
                  · skip
                    refine lv_iconst (v := 0) hx hb dX2_isOnlyOpener_77 (by decide) ?_
                    exact hret _ _ _ _ _ _ () [2, 0, 1, 3] hP hD hS rfl (by decide) dX2_isOnlyOpener_78 (Or.inl rfl) (Or.inl rfl)
        exact hlp_55 _ 0 _ _ _ (Nat.lt_succ_self _) (by first | decide +kernel | omega) hP hD hS (lv_sub hl [2, 3, 4, 1, 0] rfl)
      · skip
        refine lv_iconst (v := 0) hx hb dX2_isOnlyOpener_28 (by decide) ?_
        exact hret _ _ _ _ _ _ () [2, 0, 1, 3] hP hD hS rfl (by decide) dX2_isOnlyOpener_29 (Or.inl rfl) (Or.inl rfl)
set_option maxHeartbeats 4000000 in
set_option maxRecDepth 100000 in
theorem d_H_setFeltAs (l : Launch) (G : va_G) (cA : zCA) (h : Nat) (h_features : Int32) (h_featureNames : Nat) (h_steps : Nat) (h_turnedFeatures : Nat) (h_sixteenths : Nat) (h_keys : Int32) (h_keySteps : Nat) (h_lent : Int32) (h_rings : Int32) (h_on : Nat) (h_onMany : Nat) (h_doors : Int32) (h_wanted : Nat) (h_openers : Nat) (h_seconds : Nat) (h_turned : Int32) (h_roundMany : Int32) (h_roundDoors : Nat) (c_h_sixteenths : Nat → Int32) (x : Int32) (y : Int32) (k : Int32) (j : Int32) : zCv l yX2_setFeltAs cX2_setFeltAs 5 none ({ frames := 1, cells := 0, slots := 0, locals := 22 }) G cA [.ref h, .int x, .int y, .int k, .int j] [(h, .inr (2, [.int h_features, .ref h_featureNames, .ref h_steps, .ref h_turnedFeatures, .ref h_sixteenths, .int h_keys, .ref h_keySteps, .int h_lent, .int h_rings, .ref h_on, .ref h_onMany, .int h_doors, .ref h_wanted, .ref h_openers, .ref h_seconds, .int h_turned, .int h_roundMany, .ref h_roundDoors])), (h_sixteenths, .inl (cA.1 0, 48, .inl c_h_sixteenths))] (S := (Nat → Int32)) (fun (u : (Nat → Int32)) => True) (fun (u : (Nat → Int32)) => [(h, .inr (2, [.int h_features, .ref h_featureNames, .ref h_steps, .ref h_turnedFeatures, .ref h_sixteenths, .int h_keys, .ref h_keySteps, .int h_lent, .int h_rings, .ref h_on, .ref h_onMany, .int h_doors, .ref h_wanted, .ref h_openers, .ref h_seconds, .int h_turned, .int h_roundMany, .ref h_roundDoors])), (h_sixteenths, .inl (cA.1 0, 48, .inl u))]) 0 0 := by
  refine z_start2v (own := RX2) (by decide) (Nat.le_of_ble_eq_true rfl) rfl ?_
  intro p e s m args below meth c A ls Q hx hb hml hts hown hK hE hT hP hD hS hA hl hret
  have hl : lv_has ls 5 [(0, .ref h), (1, .int x), (2, .int y), (3, .int k), (4, .int j)] := hl
  refine lv_aload_n hx hb dX2_setFeltAs_0 rfl (lv_at hl 0 rfl) ?_
  refine va_get (D := G) (ci := 2) (v := .ref h_sixteenths) (C := RX2) (T := TX2) (N := 18) hx hb hts inT2 hown hK hP 0 rfl rfl 4 (by decide) (hts _ tw_273) (fun _ h9 => h9) rfl dX2_setFeltAs_1 ?_
  refine lv_iload_n hx hb dX2_setFeltAs_4 rfl (lv_at hl 1 rfl) ?_
  refine lv_iconst (v := 4) hx hb dX2_setFeltAs_5 (by decide) ?_
  refine lv_imul hx hb dX2_setFeltAs_6 ?_
  refine lv_topi (fun x_1 _ => ?_)
  refine lv_iload_n hx hb dX2_setFeltAs_7 rfl (lv_at hl 2 rfl) ?_
  refine lv_iadd hx hb dX2_setFeltAs_8 ?_
  refine lv_topi (fun x_2 _ => ?_)
  refine lv_iconst (v := 4) hx hb dX2_setFeltAs_9 (by decide) ?_
  refine lv_imul hx hb dX2_setFeltAs_10 ?_
  refine lv_topi (fun x_3 _ => ?_)
  refine lv_iload_n hx hb dX2_setFeltAs_11 rfl (lv_at hl 3 rfl) ?_
  refine lv_iadd hx hb dX2_setFeltAs_12 ?_
  refine lv_topi (fun x_4 _ => ?_)
  refine lv_iload hx hb dX2_setFeltAs_13 (lv_at hl 4 rfl) ?_
  refine z_callSNv (As := [.ref h_sixteenths, .int x_4, .int j]) (rest := []) (wr := [(h, .inr (2, [.int h_features, .ref h_featureNames, .ref h_steps, .ref h_turnedFeatures, .ref h_sixteenths, .int h_keys, .ref h_keySteps, .int h_lent, .int h_rings, .ref h_on, .ref h_onMany, .int h_doors, .ref h_wanted, .ref h_openers, .ref h_seconds, .int h_turned, .int h_roundMany, .ref h_roundDoors]))]) ⟨hx, hb, hml, hown, hts⟩ hK hE hT hP hD hS hA (d_keepAt_48 l G cA h_sixteenths c_h_sixteenths x_4 j) lk_RX2_126 ⟨rfl, rfl⟩ ⟨Nat.le_of_ble_eq_true rfl, Nat.le_of_ble_eq_true rfl⟩ [1] [0] rfl rfl (by decide) rfl hl.1 rfl (lv_room (Nat.le_of_ble_eq_true rfl)) dX2_setFeltAs_15 ⟨Nat.le_of_ble_eq_true rfl, Nat.le_of_ble_eq_true rfl⟩ (fun u_7 H locs hw hP hD hS => ?_)
  obtain ⟨nw0_5, rfl⟩ : ∃ z, z = u_7 := ⟨_, rfl⟩
  have hP : va_P G vwCl [(h, .inr (2, [.int h_features, .ref h_featureNames, .ref h_steps, .ref h_turnedFeatures, .ref h_sixteenths, .int h_keys, .ref h_keySteps, .int h_lent, .int h_rings, .ref h_on, .ref h_onMany, .int h_doors, .ref h_wanted, .ref h_openers, .ref h_seconds, .int h_turned, .int h_roundMany, .ref h_roundDoors])), (h_sixteenths, .inl (cA.1 0, 48, .inl nw0_5))] H := hP
  have hD : va_D A [(h, .inr (2, [.int h_features, .ref h_featureNames, .ref h_steps, .ref h_turnedFeatures, .ref h_sixteenths, .int h_keys, .ref h_keySteps, .int h_lent, .int h_rings, .ref h_on, .ref h_onMany, .int h_doors, .ref h_wanted, .ref h_openers, .ref h_seconds, .int h_turned, .int h_roundMany, .ref h_roundDoors])), (h_sixteenths, .inl (cA.1 0, 48, .inl nw0_5))] := hD
  exact hret _ _ _ _ _ nw0_5 [0, 1] hP hD hS rfl (by decide) dX2_setFeltAs_18 trivial
set_option maxHeartbeats 4000000 in
set_option maxRecDepth 100000 in
theorem d_H_setStep (l : Launch) (G : va_G) (cA : zCA) (h : Nat) (h_features : Int32) (h_featureNames : Nat) (h_steps : Nat) (h_turnedFeatures : Nat) (h_sixteenths : Nat) (h_keys : Int32) (h_keySteps : Nat) (h_lent : Int32) (h_rings : Int32) (h_on : Nat) (h_onMany : Nat) (h_doors : Int32) (h_wanted : Nat) (h_openers : Nat) (h_seconds : Nat) (h_turned : Int32) (h_roundMany : Int32) (h_roundDoors : Nat) (c_h_keySteps : Nat → Int32) (x : Int32) (y : Int32) (k : Int32) : zCv l yX2_setStep cX2_setStep 4 none ({ frames := 1, cells := 0, slots := 0, locals := 22 }) G cA [.ref h, .int x, .int y, .int k] [(h, .inr (2, [.int h_features, .ref h_featureNames, .ref h_steps, .ref h_turnedFeatures, .ref h_sixteenths, .int h_keys, .ref h_keySteps, .int h_lent, .int h_rings, .ref h_on, .ref h_onMany, .int h_doors, .ref h_wanted, .ref h_openers, .ref h_seconds, .int h_turned, .int h_roundMany, .ref h_roundDoors])), (h_keySteps, .inl (cA.1 0, 30, .inl c_h_keySteps))] (S := (Nat → Int32)) (fun (u : (Nat → Int32)) => True) (fun (u : (Nat → Int32)) => [(h, .inr (2, [.int h_features, .ref h_featureNames, .ref h_steps, .ref h_turnedFeatures, .ref h_sixteenths, .int h_keys, .ref h_keySteps, .int h_lent, .int h_rings, .ref h_on, .ref h_onMany, .int h_doors, .ref h_wanted, .ref h_openers, .ref h_seconds, .int h_turned, .int h_roundMany, .ref h_roundDoors])), (h_keySteps, .inl (cA.1 0, 30, .inl u))]) 0 0 := by
  refine z_start2v (own := RX2) (by decide) (Nat.le_of_ble_eq_true rfl) rfl ?_
  intro p e s m args below meth c A ls Q hx hb hml hts hown hK hE hT hP hD hS hA hl hret
  have hl : lv_has ls 4 [(0, .ref h), (1, .int x), (2, .int y), (3, .int k)] := hl
  refine lv_aload_n hx hb dX2_setStep_0 rfl (lv_at hl 0 rfl) ?_
  refine va_get (D := G) (ci := 2) (v := .ref h_keySteps) (C := RX2) (T := TX2) (N := 18) hx hb hts inT2 hown hK hP 0 rfl rfl 6 (by decide) (hts _ tw_277) (fun _ h9 => h9) rfl dX2_setStep_1 ?_
  refine lv_iload_n hx hb dX2_setStep_4 rfl (lv_at hl 1 rfl) ?_
  refine lv_iconst (v := 3) hx hb dX2_setStep_5 (by decide) ?_
  refine lv_imul hx hb dX2_setStep_6 ?_
  refine lv_topi (fun x_1 _ => ?_)
  refine lv_iload_n hx hb dX2_setStep_7 rfl (lv_at hl 2 rfl) ?_
  refine lv_iadd hx hb dX2_setStep_8 ?_
  refine lv_topi (fun x_2 _ => ?_)
  refine lv_iload_n hx hb dX2_setStep_9 rfl (lv_at hl 3 rfl) ?_
  refine z_callSNv (As := [.ref h_keySteps, .int x_2, .int k]) (rest := []) (wr := [(h, .inr (2, [.int h_features, .ref h_featureNames, .ref h_steps, .ref h_turnedFeatures, .ref h_sixteenths, .int h_keys, .ref h_keySteps, .int h_lent, .int h_rings, .ref h_on, .ref h_onMany, .int h_doors, .ref h_wanted, .ref h_openers, .ref h_seconds, .int h_turned, .int h_roundMany, .ref h_roundDoors]))]) ⟨hx, hb, hml, hown, hts⟩ hK hE hT hP hD hS hA (d_keepAt_30 l G cA h_keySteps c_h_keySteps x_2 k) lk_RX2_126 ⟨rfl, rfl⟩ ⟨Nat.le_of_ble_eq_true rfl, Nat.le_of_ble_eq_true rfl⟩ [1] [0] rfl rfl (by decide) rfl hl.1 rfl (lv_room (Nat.le_of_ble_eq_true rfl)) dX2_setStep_10 ⟨Nat.le_of_ble_eq_true rfl, Nat.le_of_ble_eq_true rfl⟩ (fun u_5 H locs hw hP hD hS => ?_)
  obtain ⟨nw0_3, rfl⟩ : ∃ z, z = u_5 := ⟨_, rfl⟩
  have hP : va_P G vwCl [(h, .inr (2, [.int h_features, .ref h_featureNames, .ref h_steps, .ref h_turnedFeatures, .ref h_sixteenths, .int h_keys, .ref h_keySteps, .int h_lent, .int h_rings, .ref h_on, .ref h_onMany, .int h_doors, .ref h_wanted, .ref h_openers, .ref h_seconds, .int h_turned, .int h_roundMany, .ref h_roundDoors])), (h_keySteps, .inl (cA.1 0, 30, .inl nw0_3))] H := hP
  have hD : va_D A [(h, .inr (2, [.int h_features, .ref h_featureNames, .ref h_steps, .ref h_turnedFeatures, .ref h_sixteenths, .int h_keys, .ref h_keySteps, .int h_lent, .int h_rings, .ref h_on, .ref h_onMany, .int h_doors, .ref h_wanted, .ref h_openers, .ref h_seconds, .int h_turned, .int h_roundMany, .ref h_roundDoors])), (h_keySteps, .inl (cA.1 0, 30, .inl nw0_3))] := hD
  exact hret _ _ _ _ _ nw0_3 [0, 1] hP hD hS rfl (by decide) dX2_setStep_13 trivial
set_option maxHeartbeats 4000000 in
set_option maxRecDepth 100000 in
theorem d_H_setSeconds (l : Launch) (G : va_G) (cA : zCA) (h : Nat) (h_features : Int32) (h_featureNames : Nat) (h_steps : Nat) (h_turnedFeatures : Nat) (h_sixteenths : Nat) (h_keys : Int32) (h_keySteps : Nat) (h_lent : Int32) (h_rings : Int32) (h_on : Nat) (h_onMany : Nat) (h_doors : Int32) (h_wanted : Nat) (h_openers : Nat) (h_seconds : Nat) (h_turned : Int32) (h_roundMany : Int32) (h_roundDoors : Nat) (c_h_seconds : Nat → Int32) (x : Int32) (y : Int32) : zCv l yX2_setSeconds cX2_setSeconds 3 none ({ frames := 1, cells := 0, slots := 0, locals := 22 }) G cA [.ref h, .int x, .int y] [(h, .inr (2, [.int h_features, .ref h_featureNames, .ref h_steps, .ref h_turnedFeatures, .ref h_sixteenths, .int h_keys, .ref h_keySteps, .int h_lent, .int h_rings, .ref h_on, .ref h_onMany, .int h_doors, .ref h_wanted, .ref h_openers, .ref h_seconds, .int h_turned, .int h_roundMany, .ref h_roundDoors])), (h_seconds, .inl (cA.1 0, 4, .inl c_h_seconds))] (S := (Nat → Int32)) (fun (u : (Nat → Int32)) => True) (fun (u : (Nat → Int32)) => [(h, .inr (2, [.int h_features, .ref h_featureNames, .ref h_steps, .ref h_turnedFeatures, .ref h_sixteenths, .int h_keys, .ref h_keySteps, .int h_lent, .int h_rings, .ref h_on, .ref h_onMany, .int h_doors, .ref h_wanted, .ref h_openers, .ref h_seconds, .int h_turned, .int h_roundMany, .ref h_roundDoors])), (h_seconds, .inl (cA.1 0, 4, .inl u))]) 0 0 := by
  refine z_start2v (own := RX2) (by decide) (Nat.le_of_ble_eq_true rfl) rfl ?_
  intro p e s m args below meth c A ls Q hx hb hml hts hown hK hE hT hP hD hS hA hl hret
  have hl : lv_has ls 3 [(0, .ref h), (1, .int x), (2, .int y)] := hl
  refine lv_aload_n hx hb dX2_setSeconds_0 rfl (lv_at hl 0 rfl) ?_
  refine va_get (D := G) (ci := 2) (v := .ref h_seconds) (C := RX2) (T := TX2) (N := 18) hx hb hts inT2 hown hK hP 0 rfl rfl 14 (by decide) (hts _ tw_291) (fun _ h9 => h9) rfl dX2_setSeconds_1 ?_
  refine lv_iload_n hx hb dX2_setSeconds_4 rfl (lv_at hl 1 rfl) ?_
  refine lv_iload_n hx hb dX2_setSeconds_5 rfl (lv_at hl 2 rfl) ?_
  refine z_callSNv (As := [.ref h_seconds, .int x, .int y]) (rest := []) (wr := [(h, .inr (2, [.int h_features, .ref h_featureNames, .ref h_steps, .ref h_turnedFeatures, .ref h_sixteenths, .int h_keys, .ref h_keySteps, .int h_lent, .int h_rings, .ref h_on, .ref h_onMany, .int h_doors, .ref h_wanted, .ref h_openers, .ref h_seconds, .int h_turned, .int h_roundMany, .ref h_roundDoors]))]) ⟨hx, hb, hml, hown, hts⟩ hK hE hT hP hD hS hA (d_keepAt_4 l G cA h_seconds c_h_seconds x y) lk_RX2_126 ⟨rfl, rfl⟩ ⟨Nat.le_of_ble_eq_true rfl, Nat.le_of_ble_eq_true rfl⟩ [1] [0] rfl rfl (by decide) rfl hl.1 rfl (lv_room (Nat.le_of_ble_eq_true rfl)) dX2_setSeconds_6 ⟨Nat.le_of_ble_eq_true rfl, Nat.le_of_ble_eq_true rfl⟩ (fun u_3 H locs hw hP hD hS => ?_)
  obtain ⟨nw0_1, rfl⟩ : ∃ z, z = u_3 := ⟨_, rfl⟩
  have hP : va_P G vwCl [(h, .inr (2, [.int h_features, .ref h_featureNames, .ref h_steps, .ref h_turnedFeatures, .ref h_sixteenths, .int h_keys, .ref h_keySteps, .int h_lent, .int h_rings, .ref h_on, .ref h_onMany, .int h_doors, .ref h_wanted, .ref h_openers, .ref h_seconds, .int h_turned, .int h_roundMany, .ref h_roundDoors])), (h_seconds, .inl (cA.1 0, 4, .inl nw0_1))] H := hP
  have hD : va_D A [(h, .inr (2, [.int h_features, .ref h_featureNames, .ref h_steps, .ref h_turnedFeatures, .ref h_sixteenths, .int h_keys, .ref h_keySteps, .int h_lent, .int h_rings, .ref h_on, .ref h_onMany, .int h_doors, .ref h_wanted, .ref h_openers, .ref h_seconds, .int h_turned, .int h_roundMany, .ref h_roundDoors])), (h_seconds, .inl (cA.1 0, 4, .inl nw0_1))] := hD
  exact hret _ _ _ _ _ nw0_1 [0, 1] hP hD hS rfl (by decide) dX2_setSeconds_9 trivial
set_option maxHeartbeats 4000000 in
set_option maxRecDepth 100000 in
theorem d_H_addFeature (l : Launch) (G : va_G) (cA : zCA) (h : Nat) (h_features : Int32) (h_featureNames : Nat) (h_steps : Nat) (h_turnedFeatures : Nat) (h_sixteenths : Nat) (h_keys : Int32) (h_keySteps : Nat) (h_lent : Int32) (h_rings : Int32) (h_on : Nat) (h_onMany : Nat) (h_doors : Int32) (h_wanted : Nat) (h_openers : Nat) (h_seconds : Nat) (h_turned : Int32) (h_roundMany : Int32) (h_roundDoors : Nat) (c_h_featureNames : Nat → Int64) (c_h_steps : Nat → Int32) (c_h_turnedFeatures : Nat → Int32) (c_h_sixteenths : Nat → Int32) (x : Int64) (y : Int32) (k : Int32) : zCv l yX2_addFeature cX2_addFeature 7 none ({ frames := 2, cells := 0, slots := 0, locals := 46 }) G cA [.ref h, .long x, .int y, .int k] [(h, .inr (2, [.int h_features, .ref h_featureNames, .ref h_steps, .ref h_turnedFeatures, .ref h_sixteenths, .int h_keys, .ref h_keySteps, .int h_lent, .int h_rings, .ref h_on, .ref h_onMany, .int h_doors, .ref h_wanted, .ref h_openers, .ref h_seconds, .int h_turned, .int h_roundMany, .ref h_roundDoors])), (h_featureNames, .inl (cA.1 1, 3, .inr (.inl c_h_featureNames))), (h_steps, .inl (cA.1 0, 3, .inl c_h_steps)), (h_turnedFeatures, .inl (cA.1 0, 3, .inl c_h_turnedFeatures)), (h_sixteenths, .inl (cA.1 0, 48, .inl c_h_sixteenths))] (S := Int32 × (Nat → Int64) × (Nat → Int32) × (Nat → Int32) × (Nat → Int32)) (fun (u : Int32 × (Nat → Int64) × (Nat → Int32) × (Nat → Int32) × (Nat → Int32)) => True) (fun (u : Int32 × (Nat → Int64) × (Nat → Int32) × (Nat → Int32) × (Nat → Int32)) => [(h, .inr (2, [.int u.1, .ref h_featureNames, .ref h_steps, .ref h_turnedFeatures, .ref h_sixteenths, .int h_keys, .ref h_keySteps, .int h_lent, .int h_rings, .ref h_on, .ref h_onMany, .int h_doors, .ref h_wanted, .ref h_openers, .ref h_seconds, .int h_turned, .int h_roundMany, .ref h_roundDoors])), (h_featureNames, .inl (cA.1 1, 3, .inr (.inl u.2.1))), (h_steps, .inl (cA.1 0, 3, .inl u.2.2.1)), (h_turnedFeatures, .inl (cA.1 0, 3, .inl u.2.2.2.1)), (h_sixteenths, .inl (cA.1 0, 48, .inl u.2.2.2.2))]) 0 0 := by
  refine z_start2v (own := RX2) (by decide) (Nat.le_of_ble_eq_true rfl) rfl ?_
  intro p e s m args below meth c A ls Q hx hb hml hts hown hK hE hT hP hD hS hA hl hret
  have hl : lv_has ls 7 [(0, .ref h), (1, .long x), (3, .int y), (4, .int k)] := hl
  refine lv_aload_n hx hb dX2_addFeature_0 rfl (lv_at hl 0 rfl) ?_
  refine va_get (D := G) (ci := 2) (v := .ref h_featureNames) (C := RX2) (T := TX2) (N := 18) hx hb hts inT2 hown hK hP 0 rfl rfl 1 (by decide) (hts _ tw_270) (fun _ h9 => h9) rfl dX2_addFeature_1 ?_
  refine lv_aload_n hx hb dX2_addFeature_4 rfl (lv_at hl 0 rfl) ?_
  refine va_get (D := G) (ci := 2) (v := .int h_features) (C := RX2) (T := TX2) (N := 18) hx hb hts inT2 hown hK hP 0 rfl rfl 0 (by decide) (hts _ tw_265) (fun _ h9 => h9) rfl dX2_addFeature_5 ?_
  refine lv_lload_n hx hb dX2_addFeature_8 rfl (lv_at hl 1 rfl) ?_
  refine z_callSNv (As := [.ref h_featureNames, .int h_features, .long x]) (rest := []) (wr := [(h, .inr (2, [.int h_features, .ref h_featureNames, .ref h_steps, .ref h_turnedFeatures, .ref h_sixteenths, .int h_keys, .ref h_keySteps, .int h_lent, .int h_rings, .ref h_on, .ref h_onMany, .int h_doors, .ref h_wanted, .ref h_openers, .ref h_seconds, .int h_turned, .int h_roundMany, .ref h_roundDoors])), (h_steps, .inl (cA.1 0, 3, .inl c_h_steps)), (h_turnedFeatures, .inl (cA.1 0, 3, .inl c_h_turnedFeatures)), (h_sixteenths, .inl (cA.1 0, 48, .inl c_h_sixteenths))]) ⟨hx, hb, hml, hown, hts⟩ hK hE hT hP hD hS hA (d_keepLongAt_3 l G cA h_featureNames c_h_featureNames h_features x) lk_RX2_137 ⟨rfl, rfl⟩ ⟨Nat.le_of_ble_eq_true rfl, Nat.le_of_ble_eq_true rfl⟩ [1] [0, 2, 3, 4] rfl rfl (by decide) rfl hl.1 rfl (lv_room (Nat.le_of_ble_eq_true rfl)) dX2_addFeature_9 ⟨Nat.le_of_ble_eq_true rfl, Nat.le_of_ble_eq_true rfl⟩ (fun u_3 H locs hw hP hD hS => ?_)
  obtain ⟨nw0_1, rfl⟩ : ∃ z, z = u_3 := ⟨_, rfl⟩
  have hP : va_P G vwCl [(h, .inr (2, [.int h_features, .ref h_featureNames, .ref h_steps, .ref h_turnedFeatures, .ref h_sixteenths, .int h_keys, .ref h_keySteps, .int h_lent, .int h_rings, .ref h_on, .ref h_onMany, .int h_doors, .ref h_wanted, .ref h_openers, .ref h_seconds, .int h_turned, .int h_roundMany, .ref h_roundDoors])), (h_steps, .inl (cA.1 0, 3, .inl c_h_steps)), (h_turnedFeatures, .inl (cA.1 0, 3, .inl c_h_turnedFeatures)), (h_sixteenths, .inl (cA.1 0, 48, .inl c_h_sixteenths)), (h_featureNames, .inl (cA.1 1, 3, .inr (.inl nw0_1)))] H := hP
  have hD : va_D A [(h, .inr (2, [.int h_features, .ref h_featureNames, .ref h_steps, .ref h_turnedFeatures, .ref h_sixteenths, .int h_keys, .ref h_keySteps, .int h_lent, .int h_rings, .ref h_on, .ref h_onMany, .int h_doors, .ref h_wanted, .ref h_openers, .ref h_seconds, .int h_turned, .int h_roundMany, .ref h_roundDoors])), (h_steps, .inl (cA.1 0, 3, .inl c_h_steps)), (h_turnedFeatures, .inl (cA.1 0, 3, .inl c_h_turnedFeatures)), (h_sixteenths, .inl (cA.1 0, 48, .inl c_h_sixteenths)), (h_featureNames, .inl (cA.1 1, 3, .inr (.inl nw0_1)))] := hD
  refine lv_aload_n hx hb dX2_addFeature_12 rfl (lv_at hl 0 rfl) ?_
  refine va_get (D := G) (ci := 2) (v := .ref h_steps) (C := RX2) (T := TX2) (N := 18) hx hb hts inT2 hown hK hP 0 rfl rfl 2 (by decide) (hts _ tw_271) (fun _ h9 => h9) rfl dX2_addFeature_13 ?_
  refine lv_aload_n hx hb dX2_addFeature_16 rfl (lv_at hl 0 rfl) ?_
  refine va_get (D := G) (ci := 2) (v := .int h_features) (C := RX2) (T := TX2) (N := 18) hx hb hts inT2 hown hK hP 0 rfl rfl 0 (by decide) (hts _ tw_265) (fun _ h9 => h9) rfl dX2_addFeature_17 ?_
  refine lv_iload_n hx hb dX2_addFeature_20 rfl (lv_at hl 2 rfl) ?_
  refine z_callSNv (As := [.ref h_steps, .int h_features, .int y]) (rest := []) (wr := [(h, .inr (2, [.int h_features, .ref h_featureNames, .ref h_steps, .ref h_turnedFeatures, .ref h_sixteenths, .int h_keys, .ref h_keySteps, .int h_lent, .int h_rings, .ref h_on, .ref h_onMany, .int h_doors, .ref h_wanted, .ref h_openers, .ref h_seconds, .int h_turned, .int h_roundMany, .ref h_roundDoors])), (h_turnedFeatures, .inl (cA.1 0, 3, .inl c_h_turnedFeatures)), (h_sixteenths, .inl (cA.1 0, 48, .inl c_h_sixteenths)), (h_featureNames, .inl (cA.1 1, 3, .inr (.inl nw0_1)))]) ⟨hx, hb, hml, hown, hts⟩ hK hE hT hP hD hS hA (d_keepAt_3 l G cA h_steps c_h_steps h_features y) lk_RX2_126 ⟨rfl, rfl⟩ ⟨Nat.le_of_ble_eq_true rfl, Nat.le_of_ble_eq_true rfl⟩ [1] [0, 2, 3, 4] rfl rfl (by decide) rfl hl.1 rfl (lv_room (Nat.le_of_ble_eq_true rfl)) dX2_addFeature_21 ⟨Nat.le_of_ble_eq_true rfl, Nat.le_of_ble_eq_true rfl⟩ (fun u_6 H locs hw hP hD hS => ?_)
  obtain ⟨nw0_4, rfl⟩ : ∃ z, z = u_6 := ⟨_, rfl⟩
  have hP : va_P G vwCl [(h, .inr (2, [.int h_features, .ref h_featureNames, .ref h_steps, .ref h_turnedFeatures, .ref h_sixteenths, .int h_keys, .ref h_keySteps, .int h_lent, .int h_rings, .ref h_on, .ref h_onMany, .int h_doors, .ref h_wanted, .ref h_openers, .ref h_seconds, .int h_turned, .int h_roundMany, .ref h_roundDoors])), (h_turnedFeatures, .inl (cA.1 0, 3, .inl c_h_turnedFeatures)), (h_sixteenths, .inl (cA.1 0, 48, .inl c_h_sixteenths)), (h_featureNames, .inl (cA.1 1, 3, .inr (.inl nw0_1))), (h_steps, .inl (cA.1 0, 3, .inl nw0_4))] H := hP
  have hD : va_D A [(h, .inr (2, [.int h_features, .ref h_featureNames, .ref h_steps, .ref h_turnedFeatures, .ref h_sixteenths, .int h_keys, .ref h_keySteps, .int h_lent, .int h_rings, .ref h_on, .ref h_onMany, .int h_doors, .ref h_wanted, .ref h_openers, .ref h_seconds, .int h_turned, .int h_roundMany, .ref h_roundDoors])), (h_turnedFeatures, .inl (cA.1 0, 3, .inl c_h_turnedFeatures)), (h_sixteenths, .inl (cA.1 0, 48, .inl c_h_sixteenths)), (h_featureNames, .inl (cA.1 1, 3, .inr (.inl nw0_1))), (h_steps, .inl (cA.1 0, 3, .inl nw0_4))] := hD
  refine lv_aload_n hx hb dX2_addFeature_24 rfl (lv_at hl 0 rfl) ?_
  refine va_get (D := G) (ci := 2) (v := .ref h_turnedFeatures) (C := RX2) (T := TX2) (N := 18) hx hb hts inT2 hown hK hP 0 rfl rfl 3 (by decide) (hts _ tw_272) (fun _ h9 => h9) rfl dX2_addFeature_25 ?_
  refine lv_aload_n hx hb dX2_addFeature_28 rfl (lv_at hl 0 rfl) ?_
  refine va_get (D := G) (ci := 2) (v := .int h_features) (C := RX2) (T := TX2) (N := 18) hx hb hts inT2 hown hK hP 0 rfl rfl 0 (by decide) (hts _ tw_265) (fun _ h9 => h9) rfl dX2_addFeature_29 ?_
  refine lv_iload hx hb dX2_addFeature_32 (lv_at hl 3 rfl) ?_
  refine lv_if_eq (tgt := 41) hx hb dX2_addFeature_34 (by decide) (fun c_7 => ?_) (fun c_7 => ?_)
  · skip
    refine lv_iconst (v := 0) hx hb dX2_addFeature_41 (by decide) ?_
    refine z_callSNv (As := [.ref h_turnedFeatures, .int h_features, .int 0]) (rest := []) (wr := [(h, .inr (2, [.int h_features, .ref h_featureNames, .ref h_steps, .ref h_turnedFeatures, .ref h_sixteenths, .int h_keys, .ref h_keySteps, .int h_lent, .int h_rings, .ref h_on, .ref h_onMany, .int h_doors, .ref h_wanted, .ref h_openers, .ref h_seconds, .int h_turned, .int h_roundMany, .ref h_roundDoors])), (h_sixteenths, .inl (cA.1 0, 48, .inl c_h_sixteenths)), (h_featureNames, .inl (cA.1 1, 3, .inr (.inl nw0_1))), (h_steps, .inl (cA.1 0, 3, .inl nw0_4))]) ⟨hx, hb, hml, hown, hts⟩ hK hE hT hP hD hS hA (d_keepAt_3 l G cA h_turnedFeatures c_h_turnedFeatures h_features 0) lk_RX2_126 ⟨rfl, rfl⟩ ⟨Nat.le_of_ble_eq_true rfl, Nat.le_of_ble_eq_true rfl⟩ [1] [0, 2, 3, 4] rfl rfl (by decide) rfl hl.1 rfl (lv_room (Nat.le_of_ble_eq_true rfl)) dX2_addFeature_42 ⟨Nat.le_of_ble_eq_true rfl, Nat.le_of_ble_eq_true rfl⟩ (fun u_11 H locs hw hP hD hS => ?_)
    obtain ⟨nw0_9, rfl⟩ : ∃ z, z = u_11 := ⟨_, rfl⟩
    have hP : va_P G vwCl [(h, .inr (2, [.int h_features, .ref h_featureNames, .ref h_steps, .ref h_turnedFeatures, .ref h_sixteenths, .int h_keys, .ref h_keySteps, .int h_lent, .int h_rings, .ref h_on, .ref h_onMany, .int h_doors, .ref h_wanted, .ref h_openers, .ref h_seconds, .int h_turned, .int h_roundMany, .ref h_roundDoors])), (h_sixteenths, .inl (cA.1 0, 48, .inl c_h_sixteenths)), (h_featureNames, .inl (cA.1 1, 3, .inr (.inl nw0_1))), (h_steps, .inl (cA.1 0, 3, .inl nw0_4)), (h_turnedFeatures, .inl (cA.1 0, 3, .inl nw0_9))] H := hP
    have hD : va_D A [(h, .inr (2, [.int h_features, .ref h_featureNames, .ref h_steps, .ref h_turnedFeatures, .ref h_sixteenths, .int h_keys, .ref h_keySteps, .int h_lent, .int h_rings, .ref h_on, .ref h_onMany, .int h_doors, .ref h_wanted, .ref h_openers, .ref h_seconds, .int h_turned, .int h_roundMany, .ref h_roundDoors])), (h_sixteenths, .inl (cA.1 0, 48, .inl c_h_sixteenths)), (h_featureNames, .inl (cA.1 1, 3, .inr (.inl nw0_1))), (h_steps, .inl (cA.1 0, 3, .inl nw0_4)), (h_turnedFeatures, .inl (cA.1 0, 3, .inl nw0_9))] := hD
    refine lv_aload_n hx hb dX2_addFeature_45 rfl (lv_at hl 0 rfl) ?_
    refine lv_dup hx hb dX2_addFeature_46 rfl ?_
    refine va_get (D := G) (ci := 2) (v := .int h_features) (C := RX2) (T := TX2) (N := 18) hx hb hts inT2 hown hK hP 0 rfl rfl 0 (by decide) (hts _ tw_265) (fun _ h9 => h9) rfl dX2_addFeature_47 ?_
    refine lv_iconst (v := 1) hx hb dX2_addFeature_50 (by decide) ?_
    refine lv_iadd hx hb dX2_addFeature_51 ?_
    refine va_put (D := G) (ci := 2) (v := .int (h_features + 1)) (ty := .int) (C := RX2) (T := TX2) (N := 18) hx hb hts inT2 tyX2 tyX2_ok nmX2 hown hK hP hD hS 0 rfl rfl 0 (by decide) (hts _ tw_265) (fun _ h9 => h9) rfl (tyX2_ok 0 (by decide)) rfl rfl (Nat.le_of_ble_eq_true rfl) dX2_addFeature_52 (fun H locs hP hD hS => ?_)
    have hP : va_P G vwCl [(h, .inr (2, [.int (h_features + 1), .ref h_featureNames, .ref h_steps, .ref h_turnedFeatures, .ref h_sixteenths, .int h_keys, .ref h_keySteps, .int h_lent, .int h_rings, .ref h_on, .ref h_onMany, .int h_doors, .ref h_wanted, .ref h_openers, .ref h_seconds, .int h_turned, .int h_roundMany, .ref h_roundDoors])), (h_sixteenths, .inl (cA.1 0, 48, .inl c_h_sixteenths)), (h_featureNames, .inl (cA.1 1, 3, .inr (.inl nw0_1))), (h_steps, .inl (cA.1 0, 3, .inl nw0_4)), (h_turnedFeatures, .inl (cA.1 0, 3, .inl nw0_9))] H := hP
    have hD : va_D A [(h, .inr (2, [.int (h_features + 1), .ref h_featureNames, .ref h_steps, .ref h_turnedFeatures, .ref h_sixteenths, .int h_keys, .ref h_keySteps, .int h_lent, .int h_rings, .ref h_on, .ref h_onMany, .int h_doors, .ref h_wanted, .ref h_openers, .ref h_seconds, .int h_turned, .int h_roundMany, .ref h_roundDoors])), (h_sixteenths, .inl (cA.1 0, 48, .inl c_h_sixteenths)), (h_featureNames, .inl (cA.1 1, 3, .inr (.inl nw0_1))), (h_steps, .inl (cA.1 0, 3, .inl nw0_4)), (h_turnedFeatures, .inl (cA.1 0, 3, .inl nw0_9))] := hD
    refine lv_iconst (v := 0) hx hb dX2_addFeature_55 (by decide) ?_
    refine lv_istore (lv' := [(5, .int 0), (0, .ref h), (1, .long x), (3, .int y), (4, .int k)]) hx hb dX2_addFeature_56 hl (by decide) rfl (fun ls hl => ?_)
    have hlp_95 : ∀ (n : Nat) (v_93 : Int32) (g_94 : Nat → Int32) (H : Heap) (locs : List Loc) (ls : Array Slot), (2147483647 - v_93.toInt).toNat < n → (0 ≤ v_93.toInt) → va_P G vwCl [(h, .inr (2, [.int (h_features + 1), .ref h_featureNames, .ref h_steps, .ref h_turnedFeatures, .ref h_sixteenths, .int h_keys, .ref h_keySteps, .int h_lent, .int h_rings, .ref h_on, .ref h_onMany, .int h_doors, .ref h_wanted, .ref h_openers, .ref h_seconds, .int h_turned, .int h_roundMany, .ref h_roundDoors])), (h_sixteenths, .inl (cA.1 0, 48, .inl g_94)), (h_featureNames, .inl (cA.1 1, 3, .inr (.inl nw0_1))), (h_steps, .inl (cA.1 0, 3, .inl nw0_4)), (h_turnedFeatures, .inl (cA.1 0, 3, .inl nw0_9))] H → va_D A [(h, .inr (2, [.int (h_features + 1), .ref h_featureNames, .ref h_steps, .ref h_turnedFeatures, .ref h_sixteenths, .int h_keys, .ref h_keySteps, .int h_lent, .int h_rings, .ref h_on, .ref h_onMany, .int h_doors, .ref h_wanted, .ref h_openers, .ref h_seconds, .int h_turned, .int h_roundMany, .ref h_roundDoors])), (h_sixteenths, .inl (cA.1 0, 48, .inl g_94)), (h_featureNames, .inl (cA.1 1, 3, .inr (.inl nw0_1))), (h_steps, .inl (cA.1 0, 3, .inl nw0_4)), (h_turnedFeatures, .inl (cA.1 0, 3, .inl nw0_9))] → va_S A s.heap H locs → lv_has ls 7 [(0, .ref h), (1, .long x), (3, .int y), (4, .int k), (5, .int v_93)] → W p l e ({ frames := 2, cells := 0, slots := 0, locals := 46 }) s m args below meth c H locs 0 0 Q (F0 m 58 ls []) := by
      intro n
      induction n with
      | zero =>
        intro v_93 g_94 H locs ls hmu hi_96 hP hD hS hl
        exact absurd hmu (Nat.not_lt_zero _)
      | succ n ih_97 =>
        intro v_93 g_94 H locs ls hmu hi_96 hP hD hS hl
        refine lv_iload hx hb dX2_addFeature_58 (lv_at hl 4 rfl) ?_
        refine lv_iconst (v := 4) hx hb dX2_addFeature_60 (by decide) ?_
        refine lv_icmp_ge (tgt := 112) hx hb dX2_addFeature_61 (by decide) (fun c_98 => ?_) (fun c_98 => ?_)
        · have b_99 := z_b1 c_98 (K := 4) (by decide +kernel)
          exact hret _ _ _ _ _ ((h_features + 1), nw0_1, nw0_4, nw0_9, g_94) [0, 2, 3, 4, 1] hP hD hS rfl (by decide) dX2_addFeature_112 trivial
        · have b_100 := z_b2 c_98 (K := 4) (by decide +kernel)
          refine lv_iconst (v := 0) hx hb dX2_addFeature_64 (by decide) ?_
          refine lv_istore (lv' := [(6, .int 0), (0, .ref h), (1, .long x), (3, .int y), (4, .int k), (5, .int v_93)]) hx hb dX2_addFeature_65 hl (by decide) rfl (fun ls hl => ?_)
          have hlp_128 : ∀ (n : Nat) (v_126 : Int32) (g_127 : Nat → Int32) (H : Heap) (locs : List Loc) (ls : Array Slot), (2147483647 - v_126.toInt).toNat < n → (0 ≤ v_126.toInt) → va_P G vwCl [(h, .inr (2, [.int (h_features + 1), .ref h_featureNames, .ref h_steps, .ref h_turnedFeatures, .ref h_sixteenths, .int h_keys, .ref h_keySteps, .int h_lent, .int h_rings, .ref h_on, .ref h_onMany, .int h_doors, .ref h_wanted, .ref h_openers, .ref h_seconds, .int h_turned, .int h_roundMany, .ref h_roundDoors])), (h_sixteenths, .inl (cA.1 0, 48, .inl g_127)), (h_featureNames, .inl (cA.1 1, 3, .inr (.inl nw0_1))), (h_steps, .inl (cA.1 0, 3, .inl nw0_4)), (h_turnedFeatures, .inl (cA.1 0, 3, .inl nw0_9))] H → va_D A [(h, .inr (2, [.int (h_features + 1), .ref h_featureNames, .ref h_steps, .ref h_turnedFeatures, .ref h_sixteenths, .int h_keys, .ref h_keySteps, .int h_lent, .int h_rings, .ref h_on, .ref h_onMany, .int h_doors, .ref h_wanted, .ref h_openers, .ref h_seconds, .int h_turned, .int h_roundMany, .ref h_roundDoors])), (h_sixteenths, .inl (cA.1 0, 48, .inl g_127)), (h_featureNames, .inl (cA.1 1, 3, .inr (.inl nw0_1))), (h_steps, .inl (cA.1 0, 3, .inl nw0_4)), (h_turnedFeatures, .inl (cA.1 0, 3, .inl nw0_9))] → va_S A s.heap H locs → lv_has ls 7 [(0, .ref h), (1, .long x), (3, .int y), (4, .int k), (5, .int v_93), (6, .int v_126)] → W p l e ({ frames := 2, cells := 0, slots := 0, locals := 46 }) s m args below meth c H locs 0 0 Q (F0 m 67 ls []) := by
            intro n
            induction n with
            | zero =>
              intro v_126 g_127 H locs ls hmu hi_129 hP hD hS hl
              exact absurd hmu (Nat.not_lt_zero _)
            | succ n ih_130 =>
              intro v_126 g_127 H locs ls hmu hi_129 hP hD hS hl
              refine lv_iload hx hb dX2_addFeature_67 (lv_at hl 5 rfl) ?_
              refine lv_iconst (v := 4) hx hb dX2_addFeature_69 (by decide) ?_
              refine lv_icmp_ge (tgt := 106) hx hb dX2_addFeature_70 (by decide) (fun c_131 => ?_) (fun c_131 => ?_)
              · have b_132 := z_b1 c_131 (K := 4) (by decide +kernel)
                refine lv_iinc (v := (v_93 + 1)) (lv' := [(5, .int (v_93 + 1)), (0, .ref h), (1, .long x), (3, .int y), (4, .int k), (6, .int v_126)]) hx hb dX2_addFeature_106 hl (k := 4) rfl (z_ofi (by decide +kernel)) (by decide) rfl (fun ls hl => ?_)
                refine lv_goto (tgt := 58) hx hb dX2_addFeature_109 (by decide) ?_
                exact ih_97 (v_93 + 1) g_127 H locs ls (z_up hmu (by omega) (by omega)) (z_upc hi_96 (by omega) (by omega)) hP hD hS (lv_sub hl [1, 2, 3, 4, 0] rfl)
              · have b_133 := z_b2 c_131 (K := 4) (by decide +kernel)
                refine lv_aload_n hx hb dX2_addFeature_73 rfl (lv_at hl 0 rfl) ?_
                refine lv_aload_n hx hb dX2_addFeature_74 rfl (lv_at hl 0 rfl) ?_
                refine va_get (D := G) (ci := 2) (v := .int (h_features + 1)) (C := RX2) (T := TX2) (N := 18) hx hb hts inT2 hown hK hP 0 rfl rfl 0 (by decide) (hts _ tw_265) (fun _ h9 => h9) rfl dX2_addFeature_75 ?_
                refine lv_iconst (v := 1) hx hb dX2_addFeature_78 (by decide) ?_
                refine lv_isub hx hb dX2_addFeature_79 ?_
                refine lv_topi (fun x_134 _ => ?_)
                refine lv_iload hx hb dX2_addFeature_80 (lv_at hl 4 rfl) ?_
                refine lv_iload hx hb dX2_addFeature_82 (lv_at hl 5 rfl) ?_
                refine lv_iload hx hb dX2_addFeature_84 (lv_at hl 4 rfl) ?_
                refine lv_iload hx hb dX2_addFeature_86 (lv_at hl 5 rfl) ?_
                refine lv_icmp_ne (tgt := 96) hx hb dX2_addFeature_88 (by decide) (fun c_135 => ?_) (fun c_135 => ?_)
                · skip
                  refine lv_iconst (v := 0) hx hb dX2_addFeature_96 (by decide) ?_
                  refine z_callVv (As := [.int x_134, .int v_93, .int v_126, .int 0]) (rest := []) (wr := [(h_featureNames, .inl (cA.1 1, 3, .inr (.inl nw0_1))), (h_steps, .inl (cA.1 0, 3, .inl nw0_4)), (h_turnedFeatures, .inl (cA.1 0, 3, .inl nw0_9))]) ⟨hx, hb, hml, hown, hts⟩ hK hE hT hP hD hS hA (d_H_setFeltAs l G cA h (h_features + 1) h_featureNames h_steps h_turnedFeatures h_sixteenths h_keys h_keySteps h_lent h_rings h_on h_onMany h_doors h_wanted h_openers h_seconds h_turned h_roundMany h_roundDoors g_127 x_134 v_93 v_126 0) lk_RX2_141 ⟨rfl, rfl⟩ ⟨Nat.le_of_ble_eq_true rfl, Nat.le_of_ble_eq_true rfl⟩ 2 rfl rfl rfl [0, 1] [2, 3, 4] rfl rfl (by decide) rfl hl.1 rfl (lv_room (Nat.le_of_ble_eq_true rfl)) dX2_addFeature_97 ⟨Nat.le_of_ble_eq_true rfl, Nat.le_of_ble_eq_true rfl⟩ (fun u_139 H locs hw hP hD hS => ?_)
                  obtain ⟨nw0_137, rfl⟩ : ∃ z, z = u_139 := ⟨_, rfl⟩
                  have hP : va_P G vwCl [(h_featureNames, .inl (cA.1 1, 3, .inr (.inl nw0_1))), (h_steps, .inl (cA.1 0, 3, .inl nw0_4)), (h_turnedFeatures, .inl (cA.1 0, 3, .inl nw0_9)), (h, .inr (2, [.int (h_features + 1), .ref h_featureNames, .ref h_steps, .ref h_turnedFeatures, .ref h_sixteenths, .int h_keys, .ref h_keySteps, .int h_lent, .int h_rings, .ref h_on, .ref h_onMany, .int h_doors, .ref h_wanted, .ref h_openers, .ref h_seconds, .int h_turned, .int h_roundMany, .ref h_roundDoors])), (h_sixteenths, .inl (cA.1 0, 48, .inl nw0_137))] H := hP
                  have hD : va_D A [(h_featureNames, .inl (cA.1 1, 3, .inr (.inl nw0_1))), (h_steps, .inl (cA.1 0, 3, .inl nw0_4)), (h_turnedFeatures, .inl (cA.1 0, 3, .inl nw0_9)), (h, .inr (2, [.int (h_features + 1), .ref h_featureNames, .ref h_steps, .ref h_turnedFeatures, .ref h_sixteenths, .int h_keys, .ref h_keySteps, .int h_lent, .int h_rings, .ref h_on, .ref h_onMany, .int h_doors, .ref h_wanted, .ref h_openers, .ref h_seconds, .int h_turned, .int h_roundMany, .ref h_roundDoors])), (h_sixteenths, .inl (cA.1 0, 48, .inl nw0_137))] := hD
                  refine lv_iinc (v := (v_126 + 1)) (lv' := [(6, .int (v_126 + 1)), (0, .ref h), (1, .long x), (3, .int y), (4, .int k), (5, .int v_93)]) hx hb dX2_addFeature_100 hl (k := 5) rfl (z_ofi (by decide +kernel)) (by decide) rfl (fun ls hl => ?_)
                  refine lv_goto (tgt := 67) hx hb dX2_addFeature_103 (by decide) ?_
                  have hP := hP.sub (ws' := [(h, .inr (2, [.int (h_features + 1), .ref h_featureNames, .ref h_steps, .ref h_turnedFeatures, .ref h_sixteenths, .int h_keys, .ref h_keySteps, .int h_lent, .int h_rings, .ref h_on, .ref h_onMany, .int h_doors, .ref h_wanted, .ref h_openers, .ref h_seconds, .int h_turned, .int h_roundMany, .ref h_roundDoors])), (h_sixteenths, .inl (cA.1 0, 48, .inl nw0_137)), (h_featureNames, .inl (cA.1 1, 3, .inr (.inl nw0_1))), (h_steps, .inl (cA.1 0, 3, .inl nw0_4)), (h_turnedFeatures, .inl (cA.1 0, 3, .inl nw0_9))]) [3, 4, 0, 1, 2] rfl
                  have hD := hD.sub (ws' := [(h, .inr (2, [.int (h_features + 1), .ref h_featureNames, .ref h_steps, .ref h_turnedFeatures, .ref h_sixteenths, .int h_keys, .ref h_keySteps, .int h_lent, .int h_rings, .ref h_on, .ref h_onMany, .int h_doors, .ref h_wanted, .ref h_openers, .ref h_seconds, .int h_turned, .int h_roundMany, .ref h_roundDoors])), (h_sixteenths, .inl (cA.1 0, 48, .inl nw0_137)), (h_featureNames, .inl (cA.1 1, 3, .inr (.inl nw0_1))), (h_steps, .inl (cA.1 0, 3, .inl nw0_4)), (h_turnedFeatures, .inl (cA.1 0, 3, .inl nw0_9))]) [3, 4, 0, 1, 2] (by decide) rfl
                  exact ih_130 (v_126 + 1) nw0_137 H locs ls (z_up hmu (by omega) (by omega)) (z_upc hi_129 (by omega) (by omega)) hP hD hS (lv_sub hl [1, 2, 3, 4, 5, 0] rfl)
                · skip
                  refine lv_bipush (v := 16) hx hb dX2_addFeature_91 (by decide) ?_
                  refine lv_goto (tgt := 97) hx hb dX2_addFeature_93 (by decide) ?_
                  refine z_callVv (As := [.int x_134, .int v_93, .int v_126, .int 16]) (rest := []) (wr := [(h_featureNames, .inl (cA.1 1, 3, .inr (.inl nw0_1))), (h_steps, .inl (cA.1 0, 3, .inl nw0_4)), (h_turnedFeatures, .inl (cA.1 0, 3, .inl nw0_9))]) ⟨hx, hb, hml, hown, hts⟩ hK hE hT hP hD hS hA (d_H_setFeltAs l G cA h (h_features + 1) h_featureNames h_steps h_turnedFeatures h_sixteenths h_keys h_keySteps h_lent h_rings h_on h_onMany h_doors h_wanted h_openers h_seconds h_turned h_roundMany h_roundDoors g_127 x_134 v_93 v_126 16) lk_RX2_141 ⟨rfl, rfl⟩ ⟨Nat.le_of_ble_eq_true rfl, Nat.le_of_ble_eq_true rfl⟩ 2 rfl rfl rfl [0, 1] [2, 3, 4] rfl rfl (by decide) rfl hl.1 rfl (lv_room (Nat.le_of_ble_eq_true rfl)) dX2_addFeature_97 ⟨Nat.le_of_ble_eq_true rfl, Nat.le_of_ble_eq_true rfl⟩ (fun u_143 H locs hw hP hD hS => ?_)
                  obtain ⟨nw0_141, rfl⟩ : ∃ z, z = u_143 := ⟨_, rfl⟩
                  have hP : va_P G vwCl [(h_featureNames, .inl (cA.1 1, 3, .inr (.inl nw0_1))), (h_steps, .inl (cA.1 0, 3, .inl nw0_4)), (h_turnedFeatures, .inl (cA.1 0, 3, .inl nw0_9)), (h, .inr (2, [.int (h_features + 1), .ref h_featureNames, .ref h_steps, .ref h_turnedFeatures, .ref h_sixteenths, .int h_keys, .ref h_keySteps, .int h_lent, .int h_rings, .ref h_on, .ref h_onMany, .int h_doors, .ref h_wanted, .ref h_openers, .ref h_seconds, .int h_turned, .int h_roundMany, .ref h_roundDoors])), (h_sixteenths, .inl (cA.1 0, 48, .inl nw0_141))] H := hP
                  have hD : va_D A [(h_featureNames, .inl (cA.1 1, 3, .inr (.inl nw0_1))), (h_steps, .inl (cA.1 0, 3, .inl nw0_4)), (h_turnedFeatures, .inl (cA.1 0, 3, .inl nw0_9)), (h, .inr (2, [.int (h_features + 1), .ref h_featureNames, .ref h_steps, .ref h_turnedFeatures, .ref h_sixteenths, .int h_keys, .ref h_keySteps, .int h_lent, .int h_rings, .ref h_on, .ref h_onMany, .int h_doors, .ref h_wanted, .ref h_openers, .ref h_seconds, .int h_turned, .int h_roundMany, .ref h_roundDoors])), (h_sixteenths, .inl (cA.1 0, 48, .inl nw0_141))] := hD
                  refine lv_iinc (v := (v_126 + 1)) (lv' := [(6, .int (v_126 + 1)), (0, .ref h), (1, .long x), (3, .int y), (4, .int k), (5, .int v_93)]) hx hb dX2_addFeature_100 hl (k := 5) rfl (z_ofi (by decide +kernel)) (by decide) rfl (fun ls hl => ?_)
                  refine lv_goto (tgt := 67) hx hb dX2_addFeature_103 (by decide) ?_
                  have hP := hP.sub (ws' := [(h, .inr (2, [.int (h_features + 1), .ref h_featureNames, .ref h_steps, .ref h_turnedFeatures, .ref h_sixteenths, .int h_keys, .ref h_keySteps, .int h_lent, .int h_rings, .ref h_on, .ref h_onMany, .int h_doors, .ref h_wanted, .ref h_openers, .ref h_seconds, .int h_turned, .int h_roundMany, .ref h_roundDoors])), (h_sixteenths, .inl (cA.1 0, 48, .inl nw0_141)), (h_featureNames, .inl (cA.1 1, 3, .inr (.inl nw0_1))), (h_steps, .inl (cA.1 0, 3, .inl nw0_4)), (h_turnedFeatures, .inl (cA.1 0, 3, .inl nw0_9))]) [3, 4, 0, 1, 2] rfl
                  have hD := hD.sub (ws' := [(h, .inr (2, [.int (h_features + 1), .ref h_featureNames, .ref h_steps, .ref h_turnedFeatures, .ref h_sixteenths, .int h_keys, .ref h_keySteps, .int h_lent, .int h_rings, .ref h_on, .ref h_onMany, .int h_doors, .ref h_wanted, .ref h_openers, .ref h_seconds, .int h_turned, .int h_roundMany, .ref h_roundDoors])), (h_sixteenths, .inl (cA.1 0, 48, .inl nw0_141)), (h_featureNames, .inl (cA.1 1, 3, .inr (.inl nw0_1))), (h_steps, .inl (cA.1 0, 3, .inl nw0_4)), (h_turnedFeatures, .inl (cA.1 0, 3, .inl nw0_9))]) [3, 4, 0, 1, 2] (by decide) rfl
                  exact ih_130 (v_126 + 1) nw0_141 H locs ls (z_up hmu (by omega) (by omega)) (z_upc hi_129 (by omega) (by omega)) hP hD hS (lv_sub hl [1, 2, 3, 4, 5, 0] rfl)
          exact hlp_128 _ 0 g_94 _ _ _ (Nat.lt_succ_self _) (by first | decide +kernel | omega) hP hD hS (lv_sub hl [1, 2, 3, 4, 5, 0] rfl)
    exact hlp_95 _ 0 c_h_sixteenths _ _ _ (Nat.lt_succ_self _) (by first | decide +kernel | omega) hP hD hS (lv_sub hl [1, 2, 3, 4, 0] rfl)
  · skip
    refine lv_iconst (v := 1) hx hb dX2_addFeature_37 (by decide) ?_
    refine lv_goto (tgt := 42) hx hb dX2_addFeature_38 (by decide) ?_
    refine z_callSNv (As := [.ref h_turnedFeatures, .int h_features, .int 1]) (rest := []) (wr := [(h, .inr (2, [.int h_features, .ref h_featureNames, .ref h_steps, .ref h_turnedFeatures, .ref h_sixteenths, .int h_keys, .ref h_keySteps, .int h_lent, .int h_rings, .ref h_on, .ref h_onMany, .int h_doors, .ref h_wanted, .ref h_openers, .ref h_seconds, .int h_turned, .int h_roundMany, .ref h_roundDoors])), (h_sixteenths, .inl (cA.1 0, 48, .inl c_h_sixteenths)), (h_featureNames, .inl (cA.1 1, 3, .inr (.inl nw0_1))), (h_steps, .inl (cA.1 0, 3, .inl nw0_4))]) ⟨hx, hb, hml, hown, hts⟩ hK hE hT hP hD hS hA (d_keepAt_3 l G cA h_turnedFeatures c_h_turnedFeatures h_features 1) lk_RX2_126 ⟨rfl, rfl⟩ ⟨Nat.le_of_ble_eq_true rfl, Nat.le_of_ble_eq_true rfl⟩ [1] [0, 2, 3, 4] rfl rfl (by decide) rfl hl.1 rfl (lv_room (Nat.le_of_ble_eq_true rfl)) dX2_addFeature_42 ⟨Nat.le_of_ble_eq_true rfl, Nat.le_of_ble_eq_true rfl⟩ (fun u_147 H locs hw hP hD hS => ?_)
    obtain ⟨nw0_145, rfl⟩ : ∃ z, z = u_147 := ⟨_, rfl⟩
    have hP : va_P G vwCl [(h, .inr (2, [.int h_features, .ref h_featureNames, .ref h_steps, .ref h_turnedFeatures, .ref h_sixteenths, .int h_keys, .ref h_keySteps, .int h_lent, .int h_rings, .ref h_on, .ref h_onMany, .int h_doors, .ref h_wanted, .ref h_openers, .ref h_seconds, .int h_turned, .int h_roundMany, .ref h_roundDoors])), (h_sixteenths, .inl (cA.1 0, 48, .inl c_h_sixteenths)), (h_featureNames, .inl (cA.1 1, 3, .inr (.inl nw0_1))), (h_steps, .inl (cA.1 0, 3, .inl nw0_4)), (h_turnedFeatures, .inl (cA.1 0, 3, .inl nw0_145))] H := hP
    have hD : va_D A [(h, .inr (2, [.int h_features, .ref h_featureNames, .ref h_steps, .ref h_turnedFeatures, .ref h_sixteenths, .int h_keys, .ref h_keySteps, .int h_lent, .int h_rings, .ref h_on, .ref h_onMany, .int h_doors, .ref h_wanted, .ref h_openers, .ref h_seconds, .int h_turned, .int h_roundMany, .ref h_roundDoors])), (h_sixteenths, .inl (cA.1 0, 48, .inl c_h_sixteenths)), (h_featureNames, .inl (cA.1 1, 3, .inr (.inl nw0_1))), (h_steps, .inl (cA.1 0, 3, .inl nw0_4)), (h_turnedFeatures, .inl (cA.1 0, 3, .inl nw0_145))] := hD
    refine lv_aload_n hx hb dX2_addFeature_45 rfl (lv_at hl 0 rfl) ?_
    refine lv_dup hx hb dX2_addFeature_46 rfl ?_
    refine va_get (D := G) (ci := 2) (v := .int h_features) (C := RX2) (T := TX2) (N := 18) hx hb hts inT2 hown hK hP 0 rfl rfl 0 (by decide) (hts _ tw_265) (fun _ h9 => h9) rfl dX2_addFeature_47 ?_
    refine lv_iconst (v := 1) hx hb dX2_addFeature_50 (by decide) ?_
    refine lv_iadd hx hb dX2_addFeature_51 ?_
    refine va_put (D := G) (ci := 2) (v := .int (h_features + 1)) (ty := .int) (C := RX2) (T := TX2) (N := 18) hx hb hts inT2 tyX2 tyX2_ok nmX2 hown hK hP hD hS 0 rfl rfl 0 (by decide) (hts _ tw_265) (fun _ h9 => h9) rfl (tyX2_ok 0 (by decide)) rfl rfl (Nat.le_of_ble_eq_true rfl) dX2_addFeature_52 (fun H locs hP hD hS => ?_)
    have hP : va_P G vwCl [(h, .inr (2, [.int (h_features + 1), .ref h_featureNames, .ref h_steps, .ref h_turnedFeatures, .ref h_sixteenths, .int h_keys, .ref h_keySteps, .int h_lent, .int h_rings, .ref h_on, .ref h_onMany, .int h_doors, .ref h_wanted, .ref h_openers, .ref h_seconds, .int h_turned, .int h_roundMany, .ref h_roundDoors])), (h_sixteenths, .inl (cA.1 0, 48, .inl c_h_sixteenths)), (h_featureNames, .inl (cA.1 1, 3, .inr (.inl nw0_1))), (h_steps, .inl (cA.1 0, 3, .inl nw0_4)), (h_turnedFeatures, .inl (cA.1 0, 3, .inl nw0_145))] H := hP
    have hD : va_D A [(h, .inr (2, [.int (h_features + 1), .ref h_featureNames, .ref h_steps, .ref h_turnedFeatures, .ref h_sixteenths, .int h_keys, .ref h_keySteps, .int h_lent, .int h_rings, .ref h_on, .ref h_onMany, .int h_doors, .ref h_wanted, .ref h_openers, .ref h_seconds, .int h_turned, .int h_roundMany, .ref h_roundDoors])), (h_sixteenths, .inl (cA.1 0, 48, .inl c_h_sixteenths)), (h_featureNames, .inl (cA.1 1, 3, .inr (.inl nw0_1))), (h_steps, .inl (cA.1 0, 3, .inl nw0_4)), (h_turnedFeatures, .inl (cA.1 0, 3, .inl nw0_145))] := hD
    refine lv_iconst (v := 0) hx hb dX2_addFeature_55 (by decide) ?_
    refine lv_istore (lv' := [(5, .int 0), (0, .ref h), (1, .long x), (3, .int y), (4, .int k)]) hx hb dX2_addFeature_56 hl (by decide) rfl (fun ls hl => ?_)
    have hlp_231 : ∀ (n : Nat) (v_229 : Int32) (g_230 : Nat → Int32) (H : Heap) (locs : List Loc) (ls : Array Slot), (2147483647 - v_229.toInt).toNat < n → (0 ≤ v_229.toInt) → va_P G vwCl [(h, .inr (2, [.int (h_features + 1), .ref h_featureNames, .ref h_steps, .ref h_turnedFeatures, .ref h_sixteenths, .int h_keys, .ref h_keySteps, .int h_lent, .int h_rings, .ref h_on, .ref h_onMany, .int h_doors, .ref h_wanted, .ref h_openers, .ref h_seconds, .int h_turned, .int h_roundMany, .ref h_roundDoors])), (h_sixteenths, .inl (cA.1 0, 48, .inl g_230)), (h_featureNames, .inl (cA.1 1, 3, .inr (.inl nw0_1))), (h_steps, .inl (cA.1 0, 3, .inl nw0_4)), (h_turnedFeatures, .inl (cA.1 0, 3, .inl nw0_145))] H → va_D A [(h, .inr (2, [.int (h_features + 1), .ref h_featureNames, .ref h_steps, .ref h_turnedFeatures, .ref h_sixteenths, .int h_keys, .ref h_keySteps, .int h_lent, .int h_rings, .ref h_on, .ref h_onMany, .int h_doors, .ref h_wanted, .ref h_openers, .ref h_seconds, .int h_turned, .int h_roundMany, .ref h_roundDoors])), (h_sixteenths, .inl (cA.1 0, 48, .inl g_230)), (h_featureNames, .inl (cA.1 1, 3, .inr (.inl nw0_1))), (h_steps, .inl (cA.1 0, 3, .inl nw0_4)), (h_turnedFeatures, .inl (cA.1 0, 3, .inl nw0_145))] → va_S A s.heap H locs → lv_has ls 7 [(0, .ref h), (1, .long x), (3, .int y), (4, .int k), (5, .int v_229)] → W p l e ({ frames := 2, cells := 0, slots := 0, locals := 46 }) s m args below meth c H locs 0 0 Q (F0 m 58 ls []) := by
      intro n
      induction n with
      | zero =>
        intro v_229 g_230 H locs ls hmu hi_232 hP hD hS hl
        exact absurd hmu (Nat.not_lt_zero _)
      | succ n ih_233 =>
        intro v_229 g_230 H locs ls hmu hi_232 hP hD hS hl
        refine lv_iload hx hb dX2_addFeature_58 (lv_at hl 4 rfl) ?_
        refine lv_iconst (v := 4) hx hb dX2_addFeature_60 (by decide) ?_
        refine lv_icmp_ge (tgt := 112) hx hb dX2_addFeature_61 (by decide) (fun c_234 => ?_) (fun c_234 => ?_)
        · have b_235 := z_b1 c_234 (K := 4) (by decide +kernel)
          exact hret _ _ _ _ _ ((h_features + 1), nw0_1, nw0_4, nw0_145, g_230) [0, 2, 3, 4, 1] hP hD hS rfl (by decide) dX2_addFeature_112 trivial
        · have b_236 := z_b2 c_234 (K := 4) (by decide +kernel)
          refine lv_iconst (v := 0) hx hb dX2_addFeature_64 (by decide) ?_
          refine lv_istore (lv' := [(6, .int 0), (0, .ref h), (1, .long x), (3, .int y), (4, .int k), (5, .int v_229)]) hx hb dX2_addFeature_65 hl (by decide) rfl (fun ls hl => ?_)
          have hlp_264 : ∀ (n : Nat) (v_262 : Int32) (g_263 : Nat → Int32) (H : Heap) (locs : List Loc) (ls : Array Slot), (2147483647 - v_262.toInt).toNat < n → (0 ≤ v_262.toInt) → va_P G vwCl [(h, .inr (2, [.int (h_features + 1), .ref h_featureNames, .ref h_steps, .ref h_turnedFeatures, .ref h_sixteenths, .int h_keys, .ref h_keySteps, .int h_lent, .int h_rings, .ref h_on, .ref h_onMany, .int h_doors, .ref h_wanted, .ref h_openers, .ref h_seconds, .int h_turned, .int h_roundMany, .ref h_roundDoors])), (h_sixteenths, .inl (cA.1 0, 48, .inl g_263)), (h_featureNames, .inl (cA.1 1, 3, .inr (.inl nw0_1))), (h_steps, .inl (cA.1 0, 3, .inl nw0_4)), (h_turnedFeatures, .inl (cA.1 0, 3, .inl nw0_145))] H → va_D A [(h, .inr (2, [.int (h_features + 1), .ref h_featureNames, .ref h_steps, .ref h_turnedFeatures, .ref h_sixteenths, .int h_keys, .ref h_keySteps, .int h_lent, .int h_rings, .ref h_on, .ref h_onMany, .int h_doors, .ref h_wanted, .ref h_openers, .ref h_seconds, .int h_turned, .int h_roundMany, .ref h_roundDoors])), (h_sixteenths, .inl (cA.1 0, 48, .inl g_263)), (h_featureNames, .inl (cA.1 1, 3, .inr (.inl nw0_1))), (h_steps, .inl (cA.1 0, 3, .inl nw0_4)), (h_turnedFeatures, .inl (cA.1 0, 3, .inl nw0_145))] → va_S A s.heap H locs → lv_has ls 7 [(0, .ref h), (1, .long x), (3, .int y), (4, .int k), (5, .int v_229), (6, .int v_262)] → W p l e ({ frames := 2, cells := 0, slots := 0, locals := 46 }) s m args below meth c H locs 0 0 Q (F0 m 67 ls []) := by
            intro n
            induction n with
            | zero =>
              intro v_262 g_263 H locs ls hmu hi_265 hP hD hS hl
              exact absurd hmu (Nat.not_lt_zero _)
            | succ n ih_266 =>
              intro v_262 g_263 H locs ls hmu hi_265 hP hD hS hl
              refine lv_iload hx hb dX2_addFeature_67 (lv_at hl 5 rfl) ?_
              refine lv_iconst (v := 4) hx hb dX2_addFeature_69 (by decide) ?_
              refine lv_icmp_ge (tgt := 106) hx hb dX2_addFeature_70 (by decide) (fun c_267 => ?_) (fun c_267 => ?_)
              · have b_268 := z_b1 c_267 (K := 4) (by decide +kernel)
                refine lv_iinc (v := (v_229 + 1)) (lv' := [(5, .int (v_229 + 1)), (0, .ref h), (1, .long x), (3, .int y), (4, .int k), (6, .int v_262)]) hx hb dX2_addFeature_106 hl (k := 4) rfl (z_ofi (by decide +kernel)) (by decide) rfl (fun ls hl => ?_)
                refine lv_goto (tgt := 58) hx hb dX2_addFeature_109 (by decide) ?_
                exact ih_233 (v_229 + 1) g_263 H locs ls (z_up hmu (by omega) (by omega)) (z_upc hi_232 (by omega) (by omega)) hP hD hS (lv_sub hl [1, 2, 3, 4, 0] rfl)
              · have b_269 := z_b2 c_267 (K := 4) (by decide +kernel)
                refine lv_aload_n hx hb dX2_addFeature_73 rfl (lv_at hl 0 rfl) ?_
                refine lv_aload_n hx hb dX2_addFeature_74 rfl (lv_at hl 0 rfl) ?_
                refine va_get (D := G) (ci := 2) (v := .int (h_features + 1)) (C := RX2) (T := TX2) (N := 18) hx hb hts inT2 hown hK hP 0 rfl rfl 0 (by decide) (hts _ tw_265) (fun _ h9 => h9) rfl dX2_addFeature_75 ?_
                refine lv_iconst (v := 1) hx hb dX2_addFeature_78 (by decide) ?_
                refine lv_isub hx hb dX2_addFeature_79 ?_
                refine lv_topi (fun x_270 _ => ?_)
                refine lv_iload hx hb dX2_addFeature_80 (lv_at hl 4 rfl) ?_
                refine lv_iload hx hb dX2_addFeature_82 (lv_at hl 5 rfl) ?_
                refine lv_iload hx hb dX2_addFeature_84 (lv_at hl 4 rfl) ?_
                refine lv_iload hx hb dX2_addFeature_86 (lv_at hl 5 rfl) ?_
                refine lv_icmp_ne (tgt := 96) hx hb dX2_addFeature_88 (by decide) (fun c_271 => ?_) (fun c_271 => ?_)
                · skip
                  refine lv_iconst (v := 0) hx hb dX2_addFeature_96 (by decide) ?_
                  refine z_callVv (As := [.int x_270, .int v_229, .int v_262, .int 0]) (rest := []) (wr := [(h_featureNames, .inl (cA.1 1, 3, .inr (.inl nw0_1))), (h_steps, .inl (cA.1 0, 3, .inl nw0_4)), (h_turnedFeatures, .inl (cA.1 0, 3, .inl nw0_145))]) ⟨hx, hb, hml, hown, hts⟩ hK hE hT hP hD hS hA (d_H_setFeltAs l G cA h (h_features + 1) h_featureNames h_steps h_turnedFeatures h_sixteenths h_keys h_keySteps h_lent h_rings h_on h_onMany h_doors h_wanted h_openers h_seconds h_turned h_roundMany h_roundDoors g_263 x_270 v_229 v_262 0) lk_RX2_141 ⟨rfl, rfl⟩ ⟨Nat.le_of_ble_eq_true rfl, Nat.le_of_ble_eq_true rfl⟩ 2 rfl rfl rfl [0, 1] [2, 3, 4] rfl rfl (by decide) rfl hl.1 rfl (lv_room (Nat.le_of_ble_eq_true rfl)) dX2_addFeature_97 ⟨Nat.le_of_ble_eq_true rfl, Nat.le_of_ble_eq_true rfl⟩ (fun u_275 H locs hw hP hD hS => ?_)
                  obtain ⟨nw0_273, rfl⟩ : ∃ z, z = u_275 := ⟨_, rfl⟩
                  have hP : va_P G vwCl [(h_featureNames, .inl (cA.1 1, 3, .inr (.inl nw0_1))), (h_steps, .inl (cA.1 0, 3, .inl nw0_4)), (h_turnedFeatures, .inl (cA.1 0, 3, .inl nw0_145)), (h, .inr (2, [.int (h_features + 1), .ref h_featureNames, .ref h_steps, .ref h_turnedFeatures, .ref h_sixteenths, .int h_keys, .ref h_keySteps, .int h_lent, .int h_rings, .ref h_on, .ref h_onMany, .int h_doors, .ref h_wanted, .ref h_openers, .ref h_seconds, .int h_turned, .int h_roundMany, .ref h_roundDoors])), (h_sixteenths, .inl (cA.1 0, 48, .inl nw0_273))] H := hP
                  have hD : va_D A [(h_featureNames, .inl (cA.1 1, 3, .inr (.inl nw0_1))), (h_steps, .inl (cA.1 0, 3, .inl nw0_4)), (h_turnedFeatures, .inl (cA.1 0, 3, .inl nw0_145)), (h, .inr (2, [.int (h_features + 1), .ref h_featureNames, .ref h_steps, .ref h_turnedFeatures, .ref h_sixteenths, .int h_keys, .ref h_keySteps, .int h_lent, .int h_rings, .ref h_on, .ref h_onMany, .int h_doors, .ref h_wanted, .ref h_openers, .ref h_seconds, .int h_turned, .int h_roundMany, .ref h_roundDoors])), (h_sixteenths, .inl (cA.1 0, 48, .inl nw0_273))] := hD
                  refine lv_iinc (v := (v_262 + 1)) (lv' := [(6, .int (v_262 + 1)), (0, .ref h), (1, .long x), (3, .int y), (4, .int k), (5, .int v_229)]) hx hb dX2_addFeature_100 hl (k := 5) rfl (z_ofi (by decide +kernel)) (by decide) rfl (fun ls hl => ?_)
                  refine lv_goto (tgt := 67) hx hb dX2_addFeature_103 (by decide) ?_
                  have hP := hP.sub (ws' := [(h, .inr (2, [.int (h_features + 1), .ref h_featureNames, .ref h_steps, .ref h_turnedFeatures, .ref h_sixteenths, .int h_keys, .ref h_keySteps, .int h_lent, .int h_rings, .ref h_on, .ref h_onMany, .int h_doors, .ref h_wanted, .ref h_openers, .ref h_seconds, .int h_turned, .int h_roundMany, .ref h_roundDoors])), (h_sixteenths, .inl (cA.1 0, 48, .inl nw0_273)), (h_featureNames, .inl (cA.1 1, 3, .inr (.inl nw0_1))), (h_steps, .inl (cA.1 0, 3, .inl nw0_4)), (h_turnedFeatures, .inl (cA.1 0, 3, .inl nw0_145))]) [3, 4, 0, 1, 2] rfl
                  have hD := hD.sub (ws' := [(h, .inr (2, [.int (h_features + 1), .ref h_featureNames, .ref h_steps, .ref h_turnedFeatures, .ref h_sixteenths, .int h_keys, .ref h_keySteps, .int h_lent, .int h_rings, .ref h_on, .ref h_onMany, .int h_doors, .ref h_wanted, .ref h_openers, .ref h_seconds, .int h_turned, .int h_roundMany, .ref h_roundDoors])), (h_sixteenths, .inl (cA.1 0, 48, .inl nw0_273)), (h_featureNames, .inl (cA.1 1, 3, .inr (.inl nw0_1))), (h_steps, .inl (cA.1 0, 3, .inl nw0_4)), (h_turnedFeatures, .inl (cA.1 0, 3, .inl nw0_145))]) [3, 4, 0, 1, 2] (by decide) rfl
                  exact ih_266 (v_262 + 1) nw0_273 H locs ls (z_up hmu (by omega) (by omega)) (z_upc hi_265 (by omega) (by omega)) hP hD hS (lv_sub hl [1, 2, 3, 4, 5, 0] rfl)
                · skip
                  refine lv_bipush (v := 16) hx hb dX2_addFeature_91 (by decide) ?_
                  refine lv_goto (tgt := 97) hx hb dX2_addFeature_93 (by decide) ?_
                  refine z_callVv (As := [.int x_270, .int v_229, .int v_262, .int 16]) (rest := []) (wr := [(h_featureNames, .inl (cA.1 1, 3, .inr (.inl nw0_1))), (h_steps, .inl (cA.1 0, 3, .inl nw0_4)), (h_turnedFeatures, .inl (cA.1 0, 3, .inl nw0_145))]) ⟨hx, hb, hml, hown, hts⟩ hK hE hT hP hD hS hA (d_H_setFeltAs l G cA h (h_features + 1) h_featureNames h_steps h_turnedFeatures h_sixteenths h_keys h_keySteps h_lent h_rings h_on h_onMany h_doors h_wanted h_openers h_seconds h_turned h_roundMany h_roundDoors g_263 x_270 v_229 v_262 16) lk_RX2_141 ⟨rfl, rfl⟩ ⟨Nat.le_of_ble_eq_true rfl, Nat.le_of_ble_eq_true rfl⟩ 2 rfl rfl rfl [0, 1] [2, 3, 4] rfl rfl (by decide) rfl hl.1 rfl (lv_room (Nat.le_of_ble_eq_true rfl)) dX2_addFeature_97 ⟨Nat.le_of_ble_eq_true rfl, Nat.le_of_ble_eq_true rfl⟩ (fun u_279 H locs hw hP hD hS => ?_)
                  obtain ⟨nw0_277, rfl⟩ : ∃ z, z = u_279 := ⟨_, rfl⟩
                  have hP : va_P G vwCl [(h_featureNames, .inl (cA.1 1, 3, .inr (.inl nw0_1))), (h_steps, .inl (cA.1 0, 3, .inl nw0_4)), (h_turnedFeatures, .inl (cA.1 0, 3, .inl nw0_145)), (h, .inr (2, [.int (h_features + 1), .ref h_featureNames, .ref h_steps, .ref h_turnedFeatures, .ref h_sixteenths, .int h_keys, .ref h_keySteps, .int h_lent, .int h_rings, .ref h_on, .ref h_onMany, .int h_doors, .ref h_wanted, .ref h_openers, .ref h_seconds, .int h_turned, .int h_roundMany, .ref h_roundDoors])), (h_sixteenths, .inl (cA.1 0, 48, .inl nw0_277))] H := hP
                  have hD : va_D A [(h_featureNames, .inl (cA.1 1, 3, .inr (.inl nw0_1))), (h_steps, .inl (cA.1 0, 3, .inl nw0_4)), (h_turnedFeatures, .inl (cA.1 0, 3, .inl nw0_145)), (h, .inr (2, [.int (h_features + 1), .ref h_featureNames, .ref h_steps, .ref h_turnedFeatures, .ref h_sixteenths, .int h_keys, .ref h_keySteps, .int h_lent, .int h_rings, .ref h_on, .ref h_onMany, .int h_doors, .ref h_wanted, .ref h_openers, .ref h_seconds, .int h_turned, .int h_roundMany, .ref h_roundDoors])), (h_sixteenths, .inl (cA.1 0, 48, .inl nw0_277))] := hD
                  refine lv_iinc (v := (v_262 + 1)) (lv' := [(6, .int (v_262 + 1)), (0, .ref h), (1, .long x), (3, .int y), (4, .int k), (5, .int v_229)]) hx hb dX2_addFeature_100 hl (k := 5) rfl (z_ofi (by decide +kernel)) (by decide) rfl (fun ls hl => ?_)
                  refine lv_goto (tgt := 67) hx hb dX2_addFeature_103 (by decide) ?_
                  have hP := hP.sub (ws' := [(h, .inr (2, [.int (h_features + 1), .ref h_featureNames, .ref h_steps, .ref h_turnedFeatures, .ref h_sixteenths, .int h_keys, .ref h_keySteps, .int h_lent, .int h_rings, .ref h_on, .ref h_onMany, .int h_doors, .ref h_wanted, .ref h_openers, .ref h_seconds, .int h_turned, .int h_roundMany, .ref h_roundDoors])), (h_sixteenths, .inl (cA.1 0, 48, .inl nw0_277)), (h_featureNames, .inl (cA.1 1, 3, .inr (.inl nw0_1))), (h_steps, .inl (cA.1 0, 3, .inl nw0_4)), (h_turnedFeatures, .inl (cA.1 0, 3, .inl nw0_145))]) [3, 4, 0, 1, 2] rfl
                  have hD := hD.sub (ws' := [(h, .inr (2, [.int (h_features + 1), .ref h_featureNames, .ref h_steps, .ref h_turnedFeatures, .ref h_sixteenths, .int h_keys, .ref h_keySteps, .int h_lent, .int h_rings, .ref h_on, .ref h_onMany, .int h_doors, .ref h_wanted, .ref h_openers, .ref h_seconds, .int h_turned, .int h_roundMany, .ref h_roundDoors])), (h_sixteenths, .inl (cA.1 0, 48, .inl nw0_277)), (h_featureNames, .inl (cA.1 1, 3, .inr (.inl nw0_1))), (h_steps, .inl (cA.1 0, 3, .inl nw0_4)), (h_turnedFeatures, .inl (cA.1 0, 3, .inl nw0_145))]) [3, 4, 0, 1, 2] (by decide) rfl
                  exact ih_266 (v_262 + 1) nw0_277 H locs ls (z_up hmu (by omega) (by omega)) (z_upc hi_265 (by omega) (by omega)) hP hD hS (lv_sub hl [1, 2, 3, 4, 5, 0] rfl)
          exact hlp_264 _ 0 g_230 _ _ _ (Nat.lt_succ_self _) (by first | decide +kernel | omega) hP hD hS (lv_sub hl [1, 2, 3, 4, 5, 0] rfl)
    exact hlp_231 _ 0 c_h_sixteenths _ _ _ (Nat.lt_succ_self _) (by first | decide +kernel | omega) hP hD hS (lv_sub hl [1, 2, 3, 4, 0] rfl)
set_option maxHeartbeats 4000000 in
set_option maxRecDepth 100000 in
theorem d_H_setLent (l : Launch) (G : va_G) (cA : zCA) (h : Nat) (h_features : Int32) (h_featureNames : Nat) (h_steps : Nat) (h_turnedFeatures : Nat) (h_sixteenths : Nat) (h_keys : Int32) (h_keySteps : Nat) (h_lent : Int32) (h_rings : Int32) (h_on : Nat) (h_onMany : Nat) (h_doors : Int32) (h_wanted : Nat) (h_openers : Nat) (h_seconds : Nat) (h_turned : Int32) (h_roundMany : Int32) (h_roundDoors : Nat) (x : Int32) (y : Int32) : zCv l yX2_setLent cX2_setLent 3 none ({ frames := 1, cells := 0, slots := 0, locals := 21 }) G cA [.ref h, .int x, .int y] [(h, .inr (2, [.int h_features, .ref h_featureNames, .ref h_steps, .ref h_turnedFeatures, .ref h_sixteenths, .int h_keys, .ref h_keySteps, .int h_lent, .int h_rings, .ref h_on, .ref h_onMany, .int h_doors, .ref h_wanted, .ref h_openers, .ref h_seconds, .int h_turned, .int h_roundMany, .ref h_roundDoors]))] (S := Int32) (fun (u : Int32) => True) (fun (u : Int32) => [(h, .inr (2, [.int h_features, .ref h_featureNames, .ref h_steps, .ref h_turnedFeatures, .ref h_sixteenths, .int h_keys, .ref h_keySteps, .int u, .int h_rings, .ref h_on, .ref h_onMany, .int h_doors, .ref h_wanted, .ref h_openers, .ref h_seconds, .int h_turned, .int h_roundMany, .ref h_roundDoors]))]) 0 0 := by
  refine z_start2v (own := RX2) (by decide) (Nat.le_of_ble_eq_true rfl) rfl ?_
  intro p e s m args below meth c A ls Q hx hb hml hts hown hK hE hT hP hD hS hA hl hret
  have hl : lv_has ls 3 [(0, .ref h), (1, .int x), (2, .int y)] := hl
  refine lv_aload_n hx hb dX2_setLent_0 rfl (lv_at hl 0 rfl) ?_
  refine lv_iload_n hx hb dX2_setLent_1 rfl (lv_at hl 1 rfl) ?_
  refine z_callVi (As := [.int x]) (rest := []) (wr := []) ⟨hx, hb, hml, hown, hts⟩ hK hE hT hP hD hS hA (d_H_hasKey l G cA h h_features h_featureNames h_steps h_turnedFeatures h_sixteenths h_keys h_keySteps h_lent h_rings h_on h_onMany h_doors h_wanted h_openers h_seconds h_turned h_roundMany h_roundDoors x) lk_RX2_97 ⟨rfl, rfl⟩ ⟨Nat.le_of_ble_eq_true rfl, Nat.le_of_ble_eq_true rfl⟩ 2 rfl rfl rfl [0] [] rfl rfl (by decide) rfl hl.1 rfl (lv_room (Nat.le_of_ble_eq_true rfl)) dX2_setLent_2 ⟨Nat.le_of_ble_eq_true rfl, Nat.le_of_ble_eq_true rfl⟩ (fun r_1 u_2 H locs hw hP hD hS => ?_)
  have hP : va_P G vwCl [(h, .inr (2, [.int h_features, .ref h_featureNames, .ref h_steps, .ref h_turnedFeatures, .ref h_sixteenths, .int h_keys, .ref h_keySteps, .int h_lent, .int h_rings, .ref h_on, .ref h_onMany, .int h_doors, .ref h_wanted, .ref h_openers, .ref h_seconds, .int h_turned, .int h_roundMany, .ref h_roundDoors]))] H := hP
  have hD : va_D A [(h, .inr (2, [.int h_features, .ref h_featureNames, .ref h_steps, .ref h_turnedFeatures, .ref h_sixteenths, .int h_keys, .ref h_keySteps, .int h_lent, .int h_rings, .ref h_on, .ref h_onMany, .int h_doors, .ref h_wanted, .ref h_openers, .ref h_seconds, .int h_turned, .int h_roundMany, .ref h_roundDoors]))] := hD
  have hz_r_1 := hw
  refine lv_if_ne (tgt := 9) hx hb dX2_setLent_5 (by decide) (fun c_3 => ?_) (fun c_3 => ?_)
  · skip
    refine lv_aload_n hx hb dX2_setLent_9 rfl (lv_at hl 0 rfl) ?_
    refine lv_iload_n hx hb dX2_setLent_10 rfl (lv_at hl 2 rfl) ?_
    refine lv_if_eq (tgt := 25) hx hb dX2_setLent_11 (by decide) (fun c_5 => ?_) (fun c_5 => ?_)
    · skip
      refine lv_aload_n hx hb dX2_setLent_25 rfl (lv_at hl 0 rfl) ?_
      refine va_get (D := G) (ci := 2) (v := .int h_lent) (C := RX2) (T := TX2) (N := 18) hx hb hts inT2 hown hK hP 0 rfl rfl 7 (by decide) (hts _ tw_278) (fun _ h9 => h9) rfl dX2_setLent_26 ?_
      refine lv_iconst (v := 1) hx hb dX2_setLent_29 (by decide) ?_
      refine lv_iload_n hx hb dX2_setLent_30 rfl (lv_at hl 1 rfl) ?_
      refine lv_ishl hx hb dX2_setLent_31 ?_
      refine lv_topi (fun x_7 _ => ?_)
      refine lv_iconst (v := (-1)) hx hb dX2_setLent_32 (by decide) ?_
      refine lv_ixor hx hb dX2_setLent_33 ?_
      refine lv_topi (fun x_8 _ => ?_)
      refine lv_iand hx hb dX2_setLent_34 ?_
      refine lv_topi (fun x_9 _ => ?_)
      refine va_put (D := G) (ci := 2) (v := .int x_9) (ty := .int) (C := RX2) (T := TX2) (N := 18) hx hb hts inT2 tyX2 tyX2_ok nmX2 hown hK hP hD hS 0 rfl rfl 7 (by decide) (hts _ tw_278) (fun _ h9 => h9) rfl (tyX2_ok 7 (by decide)) rfl rfl (Nat.le_of_ble_eq_true rfl) dX2_setLent_35 (fun H locs hP hD hS => ?_)
      have hP : va_P G vwCl [(h, .inr (2, [.int h_features, .ref h_featureNames, .ref h_steps, .ref h_turnedFeatures, .ref h_sixteenths, .int h_keys, .ref h_keySteps, .int x_9, .int h_rings, .ref h_on, .ref h_onMany, .int h_doors, .ref h_wanted, .ref h_openers, .ref h_seconds, .int h_turned, .int h_roundMany, .ref h_roundDoors]))] H := hP
      have hD : va_D A [(h, .inr (2, [.int h_features, .ref h_featureNames, .ref h_steps, .ref h_turnedFeatures, .ref h_sixteenths, .int h_keys, .ref h_keySteps, .int x_9, .int h_rings, .ref h_on, .ref h_onMany, .int h_doors, .ref h_wanted, .ref h_openers, .ref h_seconds, .int h_turned, .int h_roundMany, .ref h_roundDoors]))] := hD
      exact hret _ _ _ _ _ x_9 [0] hP hD hS rfl (by decide) dX2_setLent_38 trivial
    · skip
      refine lv_aload_n hx hb dX2_setLent_14 rfl (lv_at hl 0 rfl) ?_
      refine va_get (D := G) (ci := 2) (v := .int h_lent) (C := RX2) (T := TX2) (N := 18) hx hb hts inT2 hown hK hP 0 rfl rfl 7 (by decide) (hts _ tw_278) (fun _ h9 => h9) rfl dX2_setLent_15 ?_
      refine lv_iconst (v := 1) hx hb dX2_setLent_18 (by decide) ?_
      refine lv_iload_n hx hb dX2_setLent_19 rfl (lv_at hl 1 rfl) ?_
      refine lv_ishl hx hb dX2_setLent_20 ?_
      refine lv_topi (fun x_11 _ => ?_)
      refine lv_ior hx hb dX2_setLent_21 ?_
      refine lv_topi (fun x_12 _ => ?_)
      refine lv_goto (tgt := 35) hx hb dX2_setLent_22 (by decide) ?_
      refine va_put (D := G) (ci := 2) (v := .int x_12) (ty := .int) (C := RX2) (T := TX2) (N := 18) hx hb hts inT2 tyX2 tyX2_ok nmX2 hown hK hP hD hS 0 rfl rfl 7 (by decide) (hts _ tw_278) (fun _ h9 => h9) rfl (tyX2_ok 7 (by decide)) rfl rfl (Nat.le_of_ble_eq_true rfl) dX2_setLent_35 (fun H locs hP hD hS => ?_)
      have hP : va_P G vwCl [(h, .inr (2, [.int h_features, .ref h_featureNames, .ref h_steps, .ref h_turnedFeatures, .ref h_sixteenths, .int h_keys, .ref h_keySteps, .int x_12, .int h_rings, .ref h_on, .ref h_onMany, .int h_doors, .ref h_wanted, .ref h_openers, .ref h_seconds, .int h_turned, .int h_roundMany, .ref h_roundDoors]))] H := hP
      have hD : va_D A [(h, .inr (2, [.int h_features, .ref h_featureNames, .ref h_steps, .ref h_turnedFeatures, .ref h_sixteenths, .int h_keys, .ref h_keySteps, .int x_12, .int h_rings, .ref h_on, .ref h_onMany, .int h_doors, .ref h_wanted, .ref h_openers, .ref h_seconds, .int h_turned, .int h_roundMany, .ref h_roundDoors]))] := hD
      exact hret _ _ _ _ _ x_12 [0] hP hD hS rfl (by decide) dX2_setLent_38 trivial
  · skip
    exact hret _ _ _ _ _ h_lent [0] hP hD hS rfl (by decide) dX2_setLent_8 trivial
set_option maxHeartbeats 4000000 in
set_option maxRecDepth 100000 in
theorem d_H_addRing (l : Launch) (G : va_G) (cA : zCA) (h : Nat) (h_features : Int32) (h_featureNames : Nat) (h_steps : Nat) (h_turnedFeatures : Nat) (h_sixteenths : Nat) (h_keys : Int32) (h_keySteps : Nat) (h_lent : Int32) (h_rings : Int32) (h_on : Nat) (h_onMany : Nat) (h_doors : Int32) (h_wanted : Nat) (h_openers : Nat) (h_seconds : Nat) (h_turned : Int32) (h_roundMany : Int32) (h_roundDoors : Nat) (c_h_onMany : Nat → Int32) : zCv l yX2_addRing cX2_addRing 1 none ({ frames := 1, cells := 0, slots := 0, locals := 22 }) G cA [.ref h] [(h, .inr (2, [.int h_features, .ref h_featureNames, .ref h_steps, .ref h_turnedFeatures, .ref h_sixteenths, .int h_keys, .ref h_keySteps, .int h_lent, .int h_rings, .ref h_on, .ref h_onMany, .int h_doors, .ref h_wanted, .ref h_openers, .ref h_seconds, .int h_turned, .int h_roundMany, .ref h_roundDoors])), (h_onMany, .inl (cA.1 0, 3, .inl c_h_onMany))] (S := Int32 × (Nat → Int32)) (fun (u : Int32 × (Nat → Int32)) => True) (fun (u : Int32 × (Nat → Int32)) => [(h, .inr (2, [.int h_features, .ref h_featureNames, .ref h_steps, .ref h_turnedFeatures, .ref h_sixteenths, .int h_keys, .ref h_keySteps, .int h_lent, .int u.1, .ref h_on, .ref h_onMany, .int h_doors, .ref h_wanted, .ref h_openers, .ref h_seconds, .int h_turned, .int h_roundMany, .ref h_roundDoors])), (h_onMany, .inl (cA.1 0, 3, .inl u.2))]) 0 0 := by
  refine z_start2v (own := RX2) (by decide) (Nat.le_of_ble_eq_true rfl) rfl ?_
  intro p e s m args below meth c A ls Q hx hb hml hts hown hK hE hT hP hD hS hA hl hret
  have hl : lv_has ls 1 [(0, .ref h)] := hl
  refine lv_aload_n hx hb dX2_addRing_0 rfl (lv_at hl 0 rfl) ?_
  refine va_get (D := G) (ci := 2) (v := .ref h_onMany) (C := RX2) (T := TX2) (N := 18) hx hb hts inT2 hown hK hP 0 rfl rfl 10 (by decide) (hts _ tw_284) (fun _ h9 => h9) rfl dX2_addRing_1 ?_
  refine lv_aload_n hx hb dX2_addRing_4 rfl (lv_at hl 0 rfl) ?_
  refine va_get (D := G) (ci := 2) (v := .int h_rings) (C := RX2) (T := TX2) (N := 18) hx hb hts inT2 hown hK hP 0 rfl rfl 8 (by decide) (hts _ tw_279) (fun _ h9 => h9) rfl dX2_addRing_5 ?_
  refine lv_iconst (v := 0) hx hb dX2_addRing_8 (by decide) ?_
  refine z_callSNv (As := [.ref h_onMany, .int h_rings, .int 0]) (rest := []) (wr := [(h, .inr (2, [.int h_features, .ref h_featureNames, .ref h_steps, .ref h_turnedFeatures, .ref h_sixteenths, .int h_keys, .ref h_keySteps, .int h_lent, .int h_rings, .ref h_on, .ref h_onMany, .int h_doors, .ref h_wanted, .ref h_openers, .ref h_seconds, .int h_turned, .int h_roundMany, .ref h_roundDoors]))]) ⟨hx, hb, hml, hown, hts⟩ hK hE hT hP hD hS hA (d_keepAt_3 l G cA h_onMany c_h_onMany h_rings 0) lk_RX2_126 ⟨rfl, rfl⟩ ⟨Nat.le_of_ble_eq_true rfl, Nat.le_of_ble_eq_true rfl⟩ [1] [0] rfl rfl (by decide) rfl hl.1 rfl (lv_room (Nat.le_of_ble_eq_true rfl)) dX2_addRing_9 ⟨Nat.le_of_ble_eq_true rfl, Nat.le_of_ble_eq_true rfl⟩ (fun u_3 H locs hw hP hD hS => ?_)
  obtain ⟨nw0_1, rfl⟩ : ∃ z, z = u_3 := ⟨_, rfl⟩
  have hP : va_P G vwCl [(h, .inr (2, [.int h_features, .ref h_featureNames, .ref h_steps, .ref h_turnedFeatures, .ref h_sixteenths, .int h_keys, .ref h_keySteps, .int h_lent, .int h_rings, .ref h_on, .ref h_onMany, .int h_doors, .ref h_wanted, .ref h_openers, .ref h_seconds, .int h_turned, .int h_roundMany, .ref h_roundDoors])), (h_onMany, .inl (cA.1 0, 3, .inl nw0_1))] H := hP
  have hD : va_D A [(h, .inr (2, [.int h_features, .ref h_featureNames, .ref h_steps, .ref h_turnedFeatures, .ref h_sixteenths, .int h_keys, .ref h_keySteps, .int h_lent, .int h_rings, .ref h_on, .ref h_onMany, .int h_doors, .ref h_wanted, .ref h_openers, .ref h_seconds, .int h_turned, .int h_roundMany, .ref h_roundDoors])), (h_onMany, .inl (cA.1 0, 3, .inl nw0_1))] := hD
  refine lv_aload_n hx hb dX2_addRing_12 rfl (lv_at hl 0 rfl) ?_
  refine lv_dup hx hb dX2_addRing_13 rfl ?_
  refine va_get (D := G) (ci := 2) (v := .int h_rings) (C := RX2) (T := TX2) (N := 18) hx hb hts inT2 hown hK hP 0 rfl rfl 8 (by decide) (hts _ tw_279) (fun _ h9 => h9) rfl dX2_addRing_14 ?_
  refine lv_iconst (v := 1) hx hb dX2_addRing_17 (by decide) ?_
  refine lv_iadd hx hb dX2_addRing_18 ?_
  refine va_put (D := G) (ci := 2) (v := .int (h_rings + 1)) (ty := .int) (C := RX2) (T := TX2) (N := 18) hx hb hts inT2 tyX2 tyX2_ok nmX2 hown hK hP hD hS 0 rfl rfl 8 (by decide) (hts _ tw_279) (fun _ h9 => h9) rfl (tyX2_ok 8 (by decide)) rfl rfl (Nat.le_of_ble_eq_true rfl) dX2_addRing_19 (fun H locs hP hD hS => ?_)
  have hP : va_P G vwCl [(h, .inr (2, [.int h_features, .ref h_featureNames, .ref h_steps, .ref h_turnedFeatures, .ref h_sixteenths, .int h_keys, .ref h_keySteps, .int h_lent, .int (h_rings + 1), .ref h_on, .ref h_onMany, .int h_doors, .ref h_wanted, .ref h_openers, .ref h_seconds, .int h_turned, .int h_roundMany, .ref h_roundDoors])), (h_onMany, .inl (cA.1 0, 3, .inl nw0_1))] H := hP
  have hD : va_D A [(h, .inr (2, [.int h_features, .ref h_featureNames, .ref h_steps, .ref h_turnedFeatures, .ref h_sixteenths, .int h_keys, .ref h_keySteps, .int h_lent, .int (h_rings + 1), .ref h_on, .ref h_onMany, .int h_doors, .ref h_wanted, .ref h_openers, .ref h_seconds, .int h_turned, .int h_roundMany, .ref h_roundDoors])), (h_onMany, .inl (cA.1 0, 3, .inl nw0_1))] := hD
  exact hret _ _ _ _ _ ((h_rings + 1), nw0_1) [0, 1] hP hD hS rfl (by decide) dX2_addRing_22 trivial
set_option maxHeartbeats 4000000 in
set_option maxRecDepth 100000 in
theorem d_H_addDoor (l : Launch) (G : va_G) (cA : zCA) (h : Nat) (h_features : Int32) (h_featureNames : Nat) (h_steps : Nat) (h_turnedFeatures : Nat) (h_sixteenths : Nat) (h_keys : Int32) (h_keySteps : Nat) (h_lent : Int32) (h_rings : Int32) (h_on : Nat) (h_onMany : Nat) (h_doors : Int32) (h_wanted : Nat) (h_openers : Nat) (h_seconds : Nat) (h_turned : Int32) (h_roundMany : Int32) (h_roundDoors : Nat) (c_h_wanted : Nat → Int32) (c_h_openers : Nat → Int32) (x : Int32) : zCv l yX2_addDoor cX2_addDoor 2 none ({ frames := 1, cells := 0, slots := 0, locals := 22 }) G cA [.ref h, .int x] [(h, .inr (2, [.int h_features, .ref h_featureNames, .ref h_steps, .ref h_turnedFeatures, .ref h_sixteenths, .int h_keys, .ref h_keySteps, .int h_lent, .int h_rings, .ref h_on, .ref h_onMany, .int h_doors, .ref h_wanted, .ref h_openers, .ref h_seconds, .int h_turned, .int h_roundMany, .ref h_roundDoors])), (h_wanted, .inl (cA.1 0, 5, .inl c_h_wanted)), (h_openers, .inl (cA.1 0, 5, .inl c_h_openers))] (S := Int32 × (Nat → Int32) × (Nat → Int32)) (fun (u : Int32 × (Nat → Int32) × (Nat → Int32)) => True) (fun (u : Int32 × (Nat → Int32) × (Nat → Int32)) => [(h, .inr (2, [.int h_features, .ref h_featureNames, .ref h_steps, .ref h_turnedFeatures, .ref h_sixteenths, .int h_keys, .ref h_keySteps, .int h_lent, .int h_rings, .ref h_on, .ref h_onMany, .int u.1, .ref h_wanted, .ref h_openers, .ref h_seconds, .int h_turned, .int h_roundMany, .ref h_roundDoors])), (h_wanted, .inl (cA.1 0, 5, .inl u.2.1)), (h_openers, .inl (cA.1 0, 5, .inl u.2.2))]) 0 0 := by
  refine z_start2v (own := RX2) (by decide) (Nat.le_of_ble_eq_true rfl) rfl ?_
  intro p e s m args below meth c A ls Q hx hb hml hts hown hK hE hT hP hD hS hA hl hret
  have hl : lv_has ls 2 [(0, .ref h), (1, .int x)] := hl
  refine lv_aload_n hx hb dX2_addDoor_0 rfl (lv_at hl 0 rfl) ?_
  refine va_get (D := G) (ci := 2) (v := .ref h_wanted) (C := RX2) (T := TX2) (N := 18) hx hb hts inT2 hown hK hP 0 rfl rfl 12 (by decide) (hts _ tw_289) (fun _ h9 => h9) rfl dX2_addDoor_1 ?_
  refine lv_aload_n hx hb dX2_addDoor_4 rfl (lv_at hl 0 rfl) ?_
  refine va_get (D := G) (ci := 2) (v := .int h_doors) (C := RX2) (T := TX2) (N := 18) hx hb hts inT2 hown hK hP 0 rfl rfl 11 (by decide) (hts _ tw_285) (fun _ h9 => h9) rfl dX2_addDoor_5 ?_
  refine lv_iload_n hx hb dX2_addDoor_8 rfl (lv_at hl 1 rfl) ?_
  refine z_callSNv (As := [.ref h_wanted, .int h_doors, .int x]) (rest := []) (wr := [(h, .inr (2, [.int h_features, .ref h_featureNames, .ref h_steps, .ref h_turnedFeatures, .ref h_sixteenths, .int h_keys, .ref h_keySteps, .int h_lent, .int h_rings, .ref h_on, .ref h_onMany, .int h_doors, .ref h_wanted, .ref h_openers, .ref h_seconds, .int h_turned, .int h_roundMany, .ref h_roundDoors])), (h_openers, .inl (cA.1 0, 5, .inl c_h_openers))]) ⟨hx, hb, hml, hown, hts⟩ hK hE hT hP hD hS hA (d_keepAt_5 l G cA h_wanted c_h_wanted h_doors x) lk_RX2_126 ⟨rfl, rfl⟩ ⟨Nat.le_of_ble_eq_true rfl, Nat.le_of_ble_eq_true rfl⟩ [1] [0, 2] rfl rfl (by decide) rfl hl.1 rfl (lv_room (Nat.le_of_ble_eq_true rfl)) dX2_addDoor_9 ⟨Nat.le_of_ble_eq_true rfl, Nat.le_of_ble_eq_true rfl⟩ (fun u_3 H locs hw hP hD hS => ?_)
  obtain ⟨nw0_1, rfl⟩ : ∃ z, z = u_3 := ⟨_, rfl⟩
  have hP : va_P G vwCl [(h, .inr (2, [.int h_features, .ref h_featureNames, .ref h_steps, .ref h_turnedFeatures, .ref h_sixteenths, .int h_keys, .ref h_keySteps, .int h_lent, .int h_rings, .ref h_on, .ref h_onMany, .int h_doors, .ref h_wanted, .ref h_openers, .ref h_seconds, .int h_turned, .int h_roundMany, .ref h_roundDoors])), (h_openers, .inl (cA.1 0, 5, .inl c_h_openers)), (h_wanted, .inl (cA.1 0, 5, .inl nw0_1))] H := hP
  have hD : va_D A [(h, .inr (2, [.int h_features, .ref h_featureNames, .ref h_steps, .ref h_turnedFeatures, .ref h_sixteenths, .int h_keys, .ref h_keySteps, .int h_lent, .int h_rings, .ref h_on, .ref h_onMany, .int h_doors, .ref h_wanted, .ref h_openers, .ref h_seconds, .int h_turned, .int h_roundMany, .ref h_roundDoors])), (h_openers, .inl (cA.1 0, 5, .inl c_h_openers)), (h_wanted, .inl (cA.1 0, 5, .inl nw0_1))] := hD
  refine lv_aload_n hx hb dX2_addDoor_12 rfl (lv_at hl 0 rfl) ?_
  refine va_get (D := G) (ci := 2) (v := .ref h_openers) (C := RX2) (T := TX2) (N := 18) hx hb hts inT2 hown hK hP 0 rfl rfl 13 (by decide) (hts _ tw_290) (fun _ h9 => h9) rfl dX2_addDoor_13 ?_
  refine lv_aload_n hx hb dX2_addDoor_16 rfl (lv_at hl 0 rfl) ?_
  refine va_get (D := G) (ci := 2) (v := .int h_doors) (C := RX2) (T := TX2) (N := 18) hx hb hts inT2 hown hK hP 0 rfl rfl 11 (by decide) (hts _ tw_285) (fun _ h9 => h9) rfl dX2_addDoor_17 ?_
  refine lv_iconst (v := 0) hx hb dX2_addDoor_20 (by decide) ?_
  refine z_callSNv (As := [.ref h_openers, .int h_doors, .int 0]) (rest := []) (wr := [(h, .inr (2, [.int h_features, .ref h_featureNames, .ref h_steps, .ref h_turnedFeatures, .ref h_sixteenths, .int h_keys, .ref h_keySteps, .int h_lent, .int h_rings, .ref h_on, .ref h_onMany, .int h_doors, .ref h_wanted, .ref h_openers, .ref h_seconds, .int h_turned, .int h_roundMany, .ref h_roundDoors])), (h_wanted, .inl (cA.1 0, 5, .inl nw0_1))]) ⟨hx, hb, hml, hown, hts⟩ hK hE hT hP hD hS hA (d_keepAt_5 l G cA h_openers c_h_openers h_doors 0) lk_RX2_126 ⟨rfl, rfl⟩ ⟨Nat.le_of_ble_eq_true rfl, Nat.le_of_ble_eq_true rfl⟩ [1] [0, 2] rfl rfl (by decide) rfl hl.1 rfl (lv_room (Nat.le_of_ble_eq_true rfl)) dX2_addDoor_21 ⟨Nat.le_of_ble_eq_true rfl, Nat.le_of_ble_eq_true rfl⟩ (fun u_6 H locs hw hP hD hS => ?_)
  obtain ⟨nw0_4, rfl⟩ : ∃ z, z = u_6 := ⟨_, rfl⟩
  have hP : va_P G vwCl [(h, .inr (2, [.int h_features, .ref h_featureNames, .ref h_steps, .ref h_turnedFeatures, .ref h_sixteenths, .int h_keys, .ref h_keySteps, .int h_lent, .int h_rings, .ref h_on, .ref h_onMany, .int h_doors, .ref h_wanted, .ref h_openers, .ref h_seconds, .int h_turned, .int h_roundMany, .ref h_roundDoors])), (h_wanted, .inl (cA.1 0, 5, .inl nw0_1)), (h_openers, .inl (cA.1 0, 5, .inl nw0_4))] H := hP
  have hD : va_D A [(h, .inr (2, [.int h_features, .ref h_featureNames, .ref h_steps, .ref h_turnedFeatures, .ref h_sixteenths, .int h_keys, .ref h_keySteps, .int h_lent, .int h_rings, .ref h_on, .ref h_onMany, .int h_doors, .ref h_wanted, .ref h_openers, .ref h_seconds, .int h_turned, .int h_roundMany, .ref h_roundDoors])), (h_wanted, .inl (cA.1 0, 5, .inl nw0_1)), (h_openers, .inl (cA.1 0, 5, .inl nw0_4))] := hD
  refine lv_aload_n hx hb dX2_addDoor_24 rfl (lv_at hl 0 rfl) ?_
  refine lv_dup hx hb dX2_addDoor_25 rfl ?_
  refine va_get (D := G) (ci := 2) (v := .int h_doors) (C := RX2) (T := TX2) (N := 18) hx hb hts inT2 hown hK hP 0 rfl rfl 11 (by decide) (hts _ tw_285) (fun _ h9 => h9) rfl dX2_addDoor_26 ?_
  refine lv_iconst (v := 1) hx hb dX2_addDoor_29 (by decide) ?_
  refine lv_iadd hx hb dX2_addDoor_30 ?_
  refine va_put (D := G) (ci := 2) (v := .int (h_doors + 1)) (ty := .int) (C := RX2) (T := TX2) (N := 18) hx hb hts inT2 tyX2 tyX2_ok nmX2 hown hK hP hD hS 0 rfl rfl 11 (by decide) (hts _ tw_285) (fun _ h9 => h9) rfl (tyX2_ok 11 (by decide)) rfl rfl (Nat.le_of_ble_eq_true rfl) dX2_addDoor_31 (fun H locs hP hD hS => ?_)
  have hP : va_P G vwCl [(h, .inr (2, [.int h_features, .ref h_featureNames, .ref h_steps, .ref h_turnedFeatures, .ref h_sixteenths, .int h_keys, .ref h_keySteps, .int h_lent, .int h_rings, .ref h_on, .ref h_onMany, .int (h_doors + 1), .ref h_wanted, .ref h_openers, .ref h_seconds, .int h_turned, .int h_roundMany, .ref h_roundDoors])), (h_wanted, .inl (cA.1 0, 5, .inl nw0_1)), (h_openers, .inl (cA.1 0, 5, .inl nw0_4))] H := hP
  have hD : va_D A [(h, .inr (2, [.int h_features, .ref h_featureNames, .ref h_steps, .ref h_turnedFeatures, .ref h_sixteenths, .int h_keys, .ref h_keySteps, .int h_lent, .int h_rings, .ref h_on, .ref h_onMany, .int (h_doors + 1), .ref h_wanted, .ref h_openers, .ref h_seconds, .int h_turned, .int h_roundMany, .ref h_roundDoors])), (h_wanted, .inl (cA.1 0, 5, .inl nw0_1)), (h_openers, .inl (cA.1 0, 5, .inl nw0_4))] := hD
  exact hret _ _ _ _ _ ((h_doors + 1), nw0_1, nw0_4) [0, 1, 2] hP hD hS rfl (by decide) dX2_addDoor_34 trivial
set_option maxHeartbeats 4000000 in
set_option maxRecDepth 100000 in
theorem d_H_addOpener (l : Launch) (G : va_G) (cA : zCA) (h : Nat) (h_features : Int32) (h_featureNames : Nat) (h_steps : Nat) (h_turnedFeatures : Nat) (h_sixteenths : Nat) (h_keys : Int32) (h_keySteps : Nat) (h_lent : Int32) (h_rings : Int32) (h_on : Nat) (h_onMany : Nat) (h_doors : Int32) (h_wanted : Nat) (h_openers : Nat) (h_seconds : Nat) (h_turned : Int32) (h_roundMany : Int32) (h_roundDoors : Nat) (c_h_openers : Nat → Int32) (x : Int32) (y : Int32) : zCv l yX2_addOpener cX2_addOpener 3 none ({ frames := 2, cells := 0, slots := 0, locals := 42 }) G cA [.ref h, .int x, .int y] [(h, .inr (2, [.int h_features, .ref h_featureNames, .ref h_steps, .ref h_turnedFeatures, .ref h_sixteenths, .int h_keys, .ref h_keySteps, .int h_lent, .int h_rings, .ref h_on, .ref h_onMany, .int h_doors, .ref h_wanted, .ref h_openers, .ref h_seconds, .int h_turned, .int h_roundMany, .ref h_roundDoors])), (h_openers, .inl (cA.1 0, 5, .inl c_h_openers))] (S := (Nat → Int32)) (fun (u : (Nat → Int32)) => True) (fun (u : (Nat → Int32)) => [(h, .inr (2, [.int h_features, .ref h_featureNames, .ref h_steps, .ref h_turnedFeatures, .ref h_sixteenths, .int h_keys, .ref h_keySteps, .int h_lent, .int h_rings, .ref h_on, .ref h_onMany, .int h_doors, .ref h_wanted, .ref h_openers, .ref h_seconds, .int h_turned, .int h_roundMany, .ref h_roundDoors])), (h_openers, .inl (cA.1 0, 5, .inl u))]) 0 0 := by
  refine z_start2v (own := RX2) (by decide) (Nat.le_of_ble_eq_true rfl) rfl ?_
  intro p e s m args below meth c A ls Q hx hb hml hts hown hK hE hT hP hD hS hA hl hret
  have hl : lv_has ls 3 [(0, .ref h), (1, .int x), (2, .int y)] := hl
  refine lv_aload_n hx hb dX2_addOpener_0 rfl (lv_at hl 0 rfl) ?_
  refine va_get (D := G) (ci := 2) (v := .ref h_openers) (C := RX2) (T := TX2) (N := 18) hx hb hts inT2 hown hK hP 0 rfl rfl 13 (by decide) (hts _ tw_290) (fun _ h9 => h9) rfl dX2_addOpener_1 ?_
  refine lv_iload_n hx hb dX2_addOpener_4 rfl (lv_at hl 1 rfl) ?_
  refine lv_aload_n hx hb dX2_addOpener_5 rfl (lv_at hl 0 rfl) ?_
  refine lv_iload_n hx hb dX2_addOpener_6 rfl (lv_at hl 1 rfl) ?_
  refine z_callVi (As := [.int x]) (rest := [.int x, .ref h_openers]) (wr := []) ⟨hx, hb, hml, hown, hts⟩ hK hE hT hP hD hS hA (d_H_openersOf l G cA h h_features h_featureNames h_steps h_turnedFeatures h_sixteenths h_keys h_keySteps h_lent h_rings h_on h_onMany h_doors h_wanted h_openers h_seconds h_turned h_roundMany h_roundDoors c_h_openers x) lk_RX2_145 ⟨rfl, rfl⟩ ⟨Nat.le_of_ble_eq_true rfl, Nat.le_of_ble_eq_true rfl⟩ 2 rfl rfl rfl [0, 1] [] rfl rfl (by decide) rfl hl.1 rfl (lv_room (Nat.le_of_ble_eq_true rfl)) dX2_addOpener_7 ⟨Nat.le_of_ble_eq_true rfl, Nat.le_of_ble_eq_true rfl⟩ (fun r_1 u_2 H locs hw hP hD hS => ?_)
  have hP : va_P G vwCl [(h, .inr (2, [.int h_features, .ref h_featureNames, .ref h_steps, .ref h_turnedFeatures, .ref h_sixteenths, .int h_keys, .ref h_keySteps, .int h_lent, .int h_rings, .ref h_on, .ref h_onMany, .int h_doors, .ref h_wanted, .ref h_openers, .ref h_seconds, .int h_turned, .int h_roundMany, .ref h_roundDoors])), (h_openers, .inl (cA.1 0, 5, .inl c_h_openers))] H := hP
  have hD : va_D A [(h, .inr (2, [.int h_features, .ref h_featureNames, .ref h_steps, .ref h_turnedFeatures, .ref h_sixteenths, .int h_keys, .ref h_keySteps, .int h_lent, .int h_rings, .ref h_on, .ref h_onMany, .int h_doors, .ref h_wanted, .ref h_openers, .ref h_seconds, .int h_turned, .int h_roundMany, .ref h_roundDoors])), (h_openers, .inl (cA.1 0, 5, .inl c_h_openers))] := hD
  refine lv_iconst (v := 1) hx hb dX2_addOpener_10 (by decide) ?_
  refine lv_iload_n hx hb dX2_addOpener_11 rfl (lv_at hl 2 rfl) ?_
  refine lv_ishl hx hb dX2_addOpener_12 ?_
  refine lv_topi (fun x_3 _ => ?_)
  refine lv_ior hx hb dX2_addOpener_13 ?_
  refine lv_topi (fun x_4 _ => ?_)
  refine z_callSNv (As := [.ref h_openers, .int x, .int x_4]) (rest := []) (wr := [(h, .inr (2, [.int h_features, .ref h_featureNames, .ref h_steps, .ref h_turnedFeatures, .ref h_sixteenths, .int h_keys, .ref h_keySteps, .int h_lent, .int h_rings, .ref h_on, .ref h_onMany, .int h_doors, .ref h_wanted, .ref h_openers, .ref h_seconds, .int h_turned, .int h_roundMany, .ref h_roundDoors]))]) ⟨hx, hb, hml, hown, hts⟩ hK hE hT hP hD hS hA (d_keepAt_5 l G cA h_openers c_h_openers x x_4) lk_RX2_126 ⟨rfl, rfl⟩ ⟨Nat.le_of_ble_eq_true rfl, Nat.le_of_ble_eq_true rfl⟩ [1] [0] rfl rfl (by decide) rfl hl.1 rfl (lv_room (Nat.le_of_ble_eq_true rfl)) dX2_addOpener_14 ⟨Nat.le_of_ble_eq_true rfl, Nat.le_of_ble_eq_true rfl⟩ (fun u_7 H locs hw hP hD hS => ?_)
  obtain ⟨nw0_5, rfl⟩ : ∃ z, z = u_7 := ⟨_, rfl⟩
  have hP : va_P G vwCl [(h, .inr (2, [.int h_features, .ref h_featureNames, .ref h_steps, .ref h_turnedFeatures, .ref h_sixteenths, .int h_keys, .ref h_keySteps, .int h_lent, .int h_rings, .ref h_on, .ref h_onMany, .int h_doors, .ref h_wanted, .ref h_openers, .ref h_seconds, .int h_turned, .int h_roundMany, .ref h_roundDoors])), (h_openers, .inl (cA.1 0, 5, .inl nw0_5))] H := hP
  have hD : va_D A [(h, .inr (2, [.int h_features, .ref h_featureNames, .ref h_steps, .ref h_turnedFeatures, .ref h_sixteenths, .int h_keys, .ref h_keySteps, .int h_lent, .int h_rings, .ref h_on, .ref h_onMany, .int h_doors, .ref h_wanted, .ref h_openers, .ref h_seconds, .int h_turned, .int h_roundMany, .ref h_roundDoors])), (h_openers, .inl (cA.1 0, 5, .inl nw0_5))] := hD
  exact hret _ _ _ _ _ nw0_5 [0, 1] hP hD hS rfl (by decide) dX2_addOpener_17 trivial
set_option maxHeartbeats 4000000 in
set_option maxRecDepth 100000 in
theorem d_H_addToRound (l : Launch) (G : va_G) (cA : zCA) (h : Nat) (h_features : Int32) (h_featureNames : Nat) (h_steps : Nat) (h_turnedFeatures : Nat) (h_sixteenths : Nat) (h_keys : Int32) (h_keySteps : Nat) (h_lent : Int32) (h_rings : Int32) (h_on : Nat) (h_onMany : Nat) (h_doors : Int32) (h_wanted : Nat) (h_openers : Nat) (h_seconds : Nat) (h_turned : Int32) (h_roundMany : Int32) (h_roundDoors : Nat) (c_h_roundDoors : Nat → Int32) (x : Int32) : zCv l yX2_addToRound cX2_addToRound 2 none ({ frames := 1, cells := 0, slots := 0, locals := 22 }) G cA [.ref h, .int x] [(h, .inr (2, [.int h_features, .ref h_featureNames, .ref h_steps, .ref h_turnedFeatures, .ref h_sixteenths, .int h_keys, .ref h_keySteps, .int h_lent, .int h_rings, .ref h_on, .ref h_onMany, .int h_doors, .ref h_wanted, .ref h_openers, .ref h_seconds, .int h_turned, .int h_roundMany, .ref h_roundDoors])), (h_roundDoors, .inl (cA.1 0, 12, .inl c_h_roundDoors))] (S := Int32 × (Nat → Int32)) (fun (u : Int32 × (Nat → Int32)) => True) (fun (u : Int32 × (Nat → Int32)) => [(h, .inr (2, [.int h_features, .ref h_featureNames, .ref h_steps, .ref h_turnedFeatures, .ref h_sixteenths, .int h_keys, .ref h_keySteps, .int h_lent, .int h_rings, .ref h_on, .ref h_onMany, .int h_doors, .ref h_wanted, .ref h_openers, .ref h_seconds, .int h_turned, .int u.1, .ref h_roundDoors])), (h_roundDoors, .inl (cA.1 0, 12, .inl u.2))]) 0 0 := by
  refine z_start2v (own := RX2) (by decide) (Nat.le_of_ble_eq_true rfl) rfl ?_
  intro p e s m args below meth c A ls Q hx hb hml hts hown hK hE hT hP hD hS hA hl hret
  have hl : lv_has ls 2 [(0, .ref h), (1, .int x)] := hl
  refine lv_aload_n hx hb dX2_addToRound_0 rfl (lv_at hl 0 rfl) ?_
  refine va_get (D := G) (ci := 2) (v := .ref h_roundDoors) (C := RX2) (T := TX2) (N := 18) hx hb hts inT2 hown hK hP 0 rfl rfl 17 (by decide) (hts _ tw_301) (fun _ h9 => h9) rfl dX2_addToRound_1 ?_
  refine lv_aload_n hx hb dX2_addToRound_4 rfl (lv_at hl 0 rfl) ?_
  refine va_get (D := G) (ci := 2) (v := .int h_roundMany) (C := RX2) (T := TX2) (N := 18) hx hb hts inT2 hown hK hP 0 rfl rfl 16 (by decide) (hts _ tw_297) (fun _ h9 => h9) rfl dX2_addToRound_5 ?_
  refine lv_iload_n hx hb dX2_addToRound_8 rfl (lv_at hl 1 rfl) ?_
  refine z_callSNv (As := [.ref h_roundDoors, .int h_roundMany, .int x]) (rest := []) (wr := [(h, .inr (2, [.int h_features, .ref h_featureNames, .ref h_steps, .ref h_turnedFeatures, .ref h_sixteenths, .int h_keys, .ref h_keySteps, .int h_lent, .int h_rings, .ref h_on, .ref h_onMany, .int h_doors, .ref h_wanted, .ref h_openers, .ref h_seconds, .int h_turned, .int h_roundMany, .ref h_roundDoors]))]) ⟨hx, hb, hml, hown, hts⟩ hK hE hT hP hD hS hA (d_keepAt_12 l G cA h_roundDoors c_h_roundDoors h_roundMany x) lk_RX2_126 ⟨rfl, rfl⟩ ⟨Nat.le_of_ble_eq_true rfl, Nat.le_of_ble_eq_true rfl⟩ [1] [0] rfl rfl (by decide) rfl hl.1 rfl (lv_room (Nat.le_of_ble_eq_true rfl)) dX2_addToRound_9 ⟨Nat.le_of_ble_eq_true rfl, Nat.le_of_ble_eq_true rfl⟩ (fun u_3 H locs hw hP hD hS => ?_)
  obtain ⟨nw0_1, rfl⟩ : ∃ z, z = u_3 := ⟨_, rfl⟩
  have hP : va_P G vwCl [(h, .inr (2, [.int h_features, .ref h_featureNames, .ref h_steps, .ref h_turnedFeatures, .ref h_sixteenths, .int h_keys, .ref h_keySteps, .int h_lent, .int h_rings, .ref h_on, .ref h_onMany, .int h_doors, .ref h_wanted, .ref h_openers, .ref h_seconds, .int h_turned, .int h_roundMany, .ref h_roundDoors])), (h_roundDoors, .inl (cA.1 0, 12, .inl nw0_1))] H := hP
  have hD : va_D A [(h, .inr (2, [.int h_features, .ref h_featureNames, .ref h_steps, .ref h_turnedFeatures, .ref h_sixteenths, .int h_keys, .ref h_keySteps, .int h_lent, .int h_rings, .ref h_on, .ref h_onMany, .int h_doors, .ref h_wanted, .ref h_openers, .ref h_seconds, .int h_turned, .int h_roundMany, .ref h_roundDoors])), (h_roundDoors, .inl (cA.1 0, 12, .inl nw0_1))] := hD
  refine lv_aload_n hx hb dX2_addToRound_12 rfl (lv_at hl 0 rfl) ?_
  refine lv_dup hx hb dX2_addToRound_13 rfl ?_
  refine va_get (D := G) (ci := 2) (v := .int h_roundMany) (C := RX2) (T := TX2) (N := 18) hx hb hts inT2 hown hK hP 0 rfl rfl 16 (by decide) (hts _ tw_297) (fun _ h9 => h9) rfl dX2_addToRound_14 ?_
  refine lv_iconst (v := 1) hx hb dX2_addToRound_17 (by decide) ?_
  refine lv_iadd hx hb dX2_addToRound_18 ?_
  refine va_put (D := G) (ci := 2) (v := .int (h_roundMany + 1)) (ty := .int) (C := RX2) (T := TX2) (N := 18) hx hb hts inT2 tyX2 tyX2_ok nmX2 hown hK hP hD hS 0 rfl rfl 16 (by decide) (hts _ tw_297) (fun _ h9 => h9) rfl (tyX2_ok 16 (by decide)) rfl rfl (Nat.le_of_ble_eq_true rfl) dX2_addToRound_19 (fun H locs hP hD hS => ?_)
  have hP : va_P G vwCl [(h, .inr (2, [.int h_features, .ref h_featureNames, .ref h_steps, .ref h_turnedFeatures, .ref h_sixteenths, .int h_keys, .ref h_keySteps, .int h_lent, .int h_rings, .ref h_on, .ref h_onMany, .int h_doors, .ref h_wanted, .ref h_openers, .ref h_seconds, .int h_turned, .int (h_roundMany + 1), .ref h_roundDoors])), (h_roundDoors, .inl (cA.1 0, 12, .inl nw0_1))] H := hP
  have hD : va_D A [(h, .inr (2, [.int h_features, .ref h_featureNames, .ref h_steps, .ref h_turnedFeatures, .ref h_sixteenths, .int h_keys, .ref h_keySteps, .int h_lent, .int h_rings, .ref h_on, .ref h_onMany, .int h_doors, .ref h_wanted, .ref h_openers, .ref h_seconds, .int h_turned, .int (h_roundMany + 1), .ref h_roundDoors])), (h_roundDoors, .inl (cA.1 0, 12, .inl nw0_1))] := hD
  exact hret _ _ _ _ _ ((h_roundMany + 1), nw0_1) [0, 1] hP hD hS rfl (by decide) dX2_addToRound_22 trivial
set_option maxHeartbeats 4000000 in
set_option maxRecDepth 100000 in
theorem d_H_layAt (l : Launch) (G : va_G) (cA : zCA) (h : Nat) (h_features : Int32) (h_featureNames : Nat) (h_steps : Nat) (h_turnedFeatures : Nat) (h_sixteenths : Nat) (h_keys : Int32) (h_keySteps : Nat) (h_lent : Int32) (h_rings : Int32) (h_on : Nat) (h_onMany : Nat) (h_doors : Int32) (h_wanted : Nat) (h_openers : Nat) (h_seconds : Nat) (h_turned : Int32) (h_roundMany : Int32) (h_roundDoors : Nat) (c_h_on : Nat → Int32) (c_h_onMany : Nat → Int32) (x : Int32) (y : Int32) (k : Int32) : zCv l yX2_layAt cX2_layAt 4 none ({ frames := 2, cells := 0, slots := 0, locals := 42 }) G cA [.ref h, .int x, .int y, .int k] [(h, .inr (2, [.int h_features, .ref h_featureNames, .ref h_steps, .ref h_turnedFeatures, .ref h_sixteenths, .int h_keys, .ref h_keySteps, .int h_lent, .int h_rings, .ref h_on, .ref h_onMany, .int h_doors, .ref h_wanted, .ref h_openers, .ref h_seconds, .int h_turned, .int h_roundMany, .ref h_roundDoors])), (h_on, .inl (cA.1 0, 30, .inl c_h_on)), (h_onMany, .inl (cA.1 0, 3, .inl c_h_onMany))] (S := (Nat → Int32)) (fun (u : (Nat → Int32)) => True) (fun (u : (Nat → Int32)) => [(h, .inr (2, [.int h_features, .ref h_featureNames, .ref h_steps, .ref h_turnedFeatures, .ref h_sixteenths, .int h_keys, .ref h_keySteps, .int h_lent, .int h_rings, .ref h_on, .ref h_onMany, .int h_doors, .ref h_wanted, .ref h_openers, .ref h_seconds, .int h_turned, .int h_roundMany, .ref h_roundDoors])), (h_on, .inl (cA.1 0, 30, .inl u)), (h_onMany, .inl (cA.1 0, 3, .inl c_h_onMany))]) 0 0 := by
  refine z_start2v (own := RX2) (by decide) (Nat.le_of_ble_eq_true rfl) rfl ?_
  intro p e s m args below meth c A ls Q hx hb hml hts hown hK hE hT hP hD hS hA hl hret
  have hl : lv_has ls 4 [(0, .ref h), (1, .int x), (2, .int y), (3, .int k)] := hl
  refine lv_iload_n hx hb dX2_layAt_0 rfl (lv_at hl 2 rfl) ?_
  refine lv_if_lt (tgt := 27) hx hb dX2_layAt_1 (by decide) (fun c_1 => ?_) (fun c_1 => ?_)
  · have b_2 := z_b3 c_1 (K := 0) (by decide +kernel)
    exact hret _ _ _ _ _ c_h_on [0, 1, 2] hP hD hS rfl (by decide) dX2_layAt_27 trivial
  · have b_3 := z_b4 c_1 (K := 0) (by decide +kernel)
    refine lv_iload_n hx hb dX2_layAt_4 rfl (lv_at hl 2 rfl) ?_
    refine lv_aload_n hx hb dX2_layAt_5 rfl (lv_at hl 0 rfl) ?_
    refine lv_iload_n hx hb dX2_layAt_6 rfl (lv_at hl 1 rfl) ?_
    refine z_callVi (As := [.int x]) (rest := [.int y]) (wr := [(h_on, .inl (cA.1 0, 30, .inl c_h_on))]) ⟨hx, hb, hml, hown, hts⟩ hK hE hT hP hD hS hA (d_H_manyOn l G cA h h_features h_featureNames h_steps h_turnedFeatures h_sixteenths h_keys h_keySteps h_lent h_rings h_on h_onMany h_doors h_wanted h_openers h_seconds h_turned h_roundMany h_roundDoors c_h_onMany x) lk_RX2_113 ⟨rfl, rfl⟩ ⟨Nat.le_of_ble_eq_true rfl, Nat.le_of_ble_eq_true rfl⟩ 2 rfl rfl rfl [0, 2] [1] rfl rfl (by decide) rfl hl.1 rfl (lv_room (Nat.le_of_ble_eq_true rfl)) dX2_layAt_7 ⟨Nat.le_of_ble_eq_true rfl, Nat.le_of_ble_eq_true rfl⟩ (fun r_4 u_5 H locs hw hP hD hS => ?_)
    have hP : va_P G vwCl [(h_on, .inl (cA.1 0, 30, .inl c_h_on)), (h, .inr (2, [.int h_features, .ref h_featureNames, .ref h_steps, .ref h_turnedFeatures, .ref h_sixteenths, .int h_keys, .ref h_keySteps, .int h_lent, .int h_rings, .ref h_on, .ref h_onMany, .int h_doors, .ref h_wanted, .ref h_openers, .ref h_seconds, .int h_turned, .int h_roundMany, .ref h_roundDoors])), (h_onMany, .inl (cA.1 0, 3, .inl c_h_onMany))] H := hP
    have hD : va_D A [(h_on, .inl (cA.1 0, 30, .inl c_h_on)), (h, .inr (2, [.int h_features, .ref h_featureNames, .ref h_steps, .ref h_turnedFeatures, .ref h_sixteenths, .int h_keys, .ref h_keySteps, .int h_lent, .int h_rings, .ref h_on, .ref h_onMany, .int h_doors, .ref h_wanted, .ref h_openers, .ref h_seconds, .int h_turned, .int h_roundMany, .ref h_roundDoors])), (h_onMany, .inl (cA.1 0, 3, .inl c_h_onMany))] := hD
    refine lv_icmp_ge (tgt := 27) hx hb dX2_layAt_10 (by decide) (fun c_6 => ?_) (fun c_6 => ?_)
    · have b_7 := z_s1 c_6
      exact hret _ _ _ _ _ c_h_on [1, 0, 2] hP hD hS rfl (by decide) dX2_layAt_27 trivial
    · have b_8 := z_s2 c_6
      refine lv_aload_n hx hb dX2_layAt_13 rfl (lv_at hl 0 rfl) ?_
      refine va_get (D := G) (ci := 2) (v := .ref h_on) (C := RX2) (T := TX2) (N := 18) hx hb hts inT2 hown hK hP 1 rfl rfl 9 (by decide) (hts _ tw_283) (fun _ h9 => h9) rfl dX2_layAt_14 ?_
      refine lv_iload_n hx hb dX2_layAt_17 rfl (lv_at hl 1 rfl) ?_
      refine lv_bipush (v := 10) hx hb dX2_layAt_18 (by decide) ?_
      refine lv_imul hx hb dX2_layAt_20 ?_
      refine lv_topi (fun x_9 _ => ?_)
      refine lv_iload_n hx hb dX2_layAt_21 rfl (lv_at hl 2 rfl) ?_
      refine lv_iadd hx hb dX2_layAt_22 ?_
      refine lv_topi (fun x_10 _ => ?_)
      refine lv_iload_n hx hb dX2_layAt_23 rfl (lv_at hl 3 rfl) ?_
      refine z_callSNv (As := [.ref h_on, .int x_10, .int k]) (rest := []) (wr := [(h, .inr (2, [.int h_features, .ref h_featureNames, .ref h_steps, .ref h_turnedFeatures, .ref h_sixteenths, .int h_keys, .ref h_keySteps, .int h_lent, .int h_rings, .ref h_on, .ref h_onMany, .int h_doors, .ref h_wanted, .ref h_openers, .ref h_seconds, .int h_turned, .int h_roundMany, .ref h_roundDoors])), (h_onMany, .inl (cA.1 0, 3, .inl c_h_onMany))]) ⟨hx, hb, hml, hown, hts⟩ hK hE hT hP hD hS hA (d_keepAt_30 l G cA h_on c_h_on x_10 k) lk_RX2_126 ⟨rfl, rfl⟩ ⟨Nat.le_of_ble_eq_true rfl, Nat.le_of_ble_eq_true rfl⟩ [0] [1, 2] rfl rfl (by decide) rfl hl.1 rfl (lv_room (Nat.le_of_ble_eq_true rfl)) dX2_layAt_24 ⟨Nat.le_of_ble_eq_true rfl, Nat.le_of_ble_eq_true rfl⟩ (fun u_13 H locs hw hP hD hS => ?_)
      obtain ⟨nw0_11, rfl⟩ : ∃ z, z = u_13 := ⟨_, rfl⟩
      have hP : va_P G vwCl [(h, .inr (2, [.int h_features, .ref h_featureNames, .ref h_steps, .ref h_turnedFeatures, .ref h_sixteenths, .int h_keys, .ref h_keySteps, .int h_lent, .int h_rings, .ref h_on, .ref h_onMany, .int h_doors, .ref h_wanted, .ref h_openers, .ref h_seconds, .int h_turned, .int h_roundMany, .ref h_roundDoors])), (h_onMany, .inl (cA.1 0, 3, .inl c_h_onMany)), (h_on, .inl (cA.1 0, 30, .inl nw0_11))] H := hP
      have hD : va_D A [(h, .inr (2, [.int h_features, .ref h_featureNames, .ref h_steps, .ref h_turnedFeatures, .ref h_sixteenths, .int h_keys, .ref h_keySteps, .int h_lent, .int h_rings, .ref h_on, .ref h_onMany, .int h_doors, .ref h_wanted, .ref h_openers, .ref h_seconds, .int h_turned, .int h_roundMany, .ref h_roundDoors])), (h_onMany, .inl (cA.1 0, 3, .inl c_h_onMany)), (h_on, .inl (cA.1 0, 30, .inl nw0_11))] := hD
      exact hret _ _ _ _ _ nw0_11 [0, 2, 1] hP hD hS rfl (by decide) dX2_layAt_27 trivial
set_option maxHeartbeats 4000000 in
set_option maxRecDepth 100000 in
theorem d_H_putOn (l : Launch) (G : va_G) (cA : zCA) (h : Nat) (h_features : Int32) (h_featureNames : Nat) (h_steps : Nat) (h_turnedFeatures : Nat) (h_sixteenths : Nat) (h_keys : Int32) (h_keySteps : Nat) (h_lent : Int32) (h_rings : Int32) (h_on : Nat) (h_onMany : Nat) (h_doors : Int32) (h_wanted : Nat) (h_openers : Nat) (h_seconds : Nat) (h_turned : Int32) (h_roundMany : Int32) (h_roundDoors : Nat) (c_h_on : Nat → Int32) (c_h_onMany : Nat → Int32) (x : Int32) (y : Int32) (k : Int32) : zCv l yX2_putOn cX2_putOn 6 none ({ frames := 3, cells := 0, slots := 0, locals := 65 }) G cA [.ref h, .int x, .int y, .int k] [(h, .inr (2, [.int h_features, .ref h_featureNames, .ref h_steps, .ref h_turnedFeatures, .ref h_sixteenths, .int h_keys, .ref h_keySteps, .int h_lent, .int h_rings, .ref h_on, .ref h_onMany, .int h_doors, .ref h_wanted, .ref h_openers, .ref h_seconds, .int h_turned, .int h_roundMany, .ref h_roundDoors])), (h_on, .inl (cA.1 0, 30, .inl c_h_on)), (h_onMany, .inl (cA.1 0, 3, .inl c_h_onMany))] (S := (Nat → Int32) × (Nat → Int32)) (fun (u : (Nat → Int32) × (Nat → Int32)) => True) (fun (u : (Nat → Int32) × (Nat → Int32)) => [(h, .inr (2, [.int h_features, .ref h_featureNames, .ref h_steps, .ref h_turnedFeatures, .ref h_sixteenths, .int h_keys, .ref h_keySteps, .int h_lent, .int h_rings, .ref h_on, .ref h_onMany, .int h_doors, .ref h_wanted, .ref h_openers, .ref h_seconds, .int h_turned, .int h_roundMany, .ref h_roundDoors])), (h_on, .inl (cA.1 0, 30, .inl u.1)), (h_onMany, .inl (cA.1 0, 3, .inl u.2))]) 0 0 := by
  refine z_start2v (own := RX2) (by decide) (Nat.le_of_ble_eq_true rfl) rfl ?_
  intro p e s m args below meth c A ls Q hx hb hml hts hown hK hE hT hP hD hS hA hl hret
  have hl : lv_has ls 6 [(0, .ref h), (1, .int x), (2, .int y), (3, .int k)] := hl
  refine lv_aload_n hx hb dX2_putOn_0 rfl (lv_at hl 0 rfl) ?_
  refine lv_iload_n hx hb dX2_putOn_1 rfl (lv_at hl 2 rfl) ?_
  refine z_callVi (As := [.int y]) (rest := []) (wr := [(h_on, .inl (cA.1 0, 30, .inl c_h_on))]) ⟨hx, hb, hml, hown, hts⟩ hK hE hT hP hD hS hA (d_H_manyOn l G cA h h_features h_featureNames h_steps h_turnedFeatures h_sixteenths h_keys h_keySteps h_lent h_rings h_on h_onMany h_doors h_wanted h_openers h_seconds h_turned h_roundMany h_roundDoors c_h_onMany y) lk_RX2_113 ⟨rfl, rfl⟩ ⟨Nat.le_of_ble_eq_true rfl, Nat.le_of_ble_eq_true rfl⟩ 2 rfl rfl rfl [0, 2] [1] rfl rfl (by decide) rfl hl.1 rfl (lv_room (Nat.le_of_ble_eq_true rfl)) dX2_putOn_2 ⟨Nat.le_of_ble_eq_true rfl, Nat.le_of_ble_eq_true rfl⟩ (fun r_1 u_2 H locs hw hP hD hS => ?_)
  have hP : va_P G vwCl [(h_on, .inl (cA.1 0, 30, .inl c_h_on)), (h, .inr (2, [.int h_features, .ref h_featureNames, .ref h_steps, .ref h_turnedFeatures, .ref h_sixteenths, .int h_keys, .ref h_keySteps, .int h_lent, .int h_rings, .ref h_on, .ref h_onMany, .int h_doors, .ref h_wanted, .ref h_openers, .ref h_seconds, .int h_turned, .int h_roundMany, .ref h_roundDoors])), (h_onMany, .inl (cA.1 0, 3, .inl c_h_onMany))] H := hP
  have hD : va_D A [(h_on, .inl (cA.1 0, 30, .inl c_h_on)), (h, .inr (2, [.int h_features, .ref h_featureNames, .ref h_steps, .ref h_turnedFeatures, .ref h_sixteenths, .int h_keys, .ref h_keySteps, .int h_lent, .int h_rings, .ref h_on, .ref h_onMany, .int h_doors, .ref h_wanted, .ref h_openers, .ref h_seconds, .int h_turned, .int h_roundMany, .ref h_roundDoors])), (h_onMany, .inl (cA.1 0, 3, .inl c_h_onMany))] := hD
  refine lv_istore (lv' := [(4, .int r_1), (0, .ref h), (1, .int x), (2, .int y), (3, .int k)]) hx hb dX2_putOn_5 hl (by decide) rfl (fun ls hl => ?_)
  refine lv_aload_n hx hb dX2_putOn_7 rfl (lv_at hl 1 rfl) ?_
  refine lv_iload_n hx hb dX2_putOn_8 rfl (lv_at hl 3 rfl) ?_
  refine z_callVi (As := [.int y]) (rest := []) (wr := [(h_on, .inl (cA.1 0, 30, .inl c_h_on)), (h_onMany, .inl (cA.1 0, 3, .inl c_h_onMany))]) ⟨hx, hb, hml, hown, hts⟩ hK hE hT hP hD hS hA (d_H_hasRing l G cA h h_features h_featureNames h_steps h_turnedFeatures h_sixteenths h_keys h_keySteps h_lent h_rings h_on h_onMany h_doors h_wanted h_openers h_seconds h_turned h_roundMany h_roundDoors y) lk_RX2_110 ⟨rfl, rfl⟩ ⟨Nat.le_of_ble_eq_true rfl, Nat.le_of_ble_eq_true rfl⟩ 2 rfl rfl rfl [1] [0, 2] rfl rfl (by decide) rfl hl.1 rfl (lv_room (Nat.le_of_ble_eq_true rfl)) dX2_putOn_9 ⟨Nat.le_of_ble_eq_true rfl, Nat.le_of_ble_eq_true rfl⟩ (fun r_3 u_4 H locs hw hP hD hS => ?_)
  have hP : va_P G vwCl [(h_on, .inl (cA.1 0, 30, .inl c_h_on)), (h_onMany, .inl (cA.1 0, 3, .inl c_h_onMany)), (h, .inr (2, [.int h_features, .ref h_featureNames, .ref h_steps, .ref h_turnedFeatures, .ref h_sixteenths, .int h_keys, .ref h_keySteps, .int h_lent, .int h_rings, .ref h_on, .ref h_onMany, .int h_doors, .ref h_wanted, .ref h_openers, .ref h_seconds, .int h_turned, .int h_roundMany, .ref h_roundDoors]))] H := hP
  have hD : va_D A [(h_on, .inl (cA.1 0, 30, .inl c_h_on)), (h_onMany, .inl (cA.1 0, 3, .inl c_h_onMany)), (h, .inr (2, [.int h_features, .ref h_featureNames, .ref h_steps, .ref h_turnedFeatures, .ref h_sixteenths, .int h_keys, .ref h_keySteps, .int h_lent, .int h_rings, .ref h_on, .ref h_onMany, .int h_doors, .ref h_wanted, .ref h_openers, .ref h_seconds, .int h_turned, .int h_roundMany, .ref h_roundDoors]))] := hD
  have hz_r_3 := hw
  refine lv_if_eq (tgt := 22) hx hb dX2_putOn_12 (by decide) (fun c_5 => ?_) (fun c_5 => ?_)
  · skip
    exact hret _ _ _ _ _ (c_h_on, c_h_onMany) [2, 0, 1] hP hD hS rfl (by decide) dX2_putOn_22 trivial
  · skip
    refine lv_iload hx hb dX2_putOn_15 (lv_at hl 0 rfl) ?_
    refine lv_bipush (v := 10) hx hb dX2_putOn_17 (by decide) ?_
    refine lv_icmp_lt (tgt := 23) hx hb dX2_putOn_19 (by decide) (fun c_8 => ?_) (fun c_8 => ?_)
    · have b_9 := z_b3 c_8 (K := 10) (by decide +kernel)
      refine lv_aload_n hx hb dX2_putOn_23 rfl (lv_at hl 1 rfl) ?_
      refine va_get (D := G) (ci := 2) (v := .ref h_onMany) (C := RX2) (T := TX2) (N := 18) hx hb hts inT2 hown hK hP 2 rfl rfl 10 (by decide) (hts _ tw_284) (fun _ h9 => h9) rfl dX2_putOn_24 ?_
      refine lv_iload_n hx hb dX2_putOn_27 rfl (lv_at hl 3 rfl) ?_
      refine lv_iload hx hb dX2_putOn_28 (lv_at hl 0 rfl) ?_
      refine lv_iconst (v := 1) hx hb dX2_putOn_30 (by decide) ?_
      refine lv_iadd hx hb dX2_putOn_31 ?_
      refine z_callSNv (As := [.ref h_onMany, .int y, .int (r_1 + 1)]) (rest := []) (wr := [(h_on, .inl (cA.1 0, 30, .inl c_h_on)), (h, .inr (2, [.int h_features, .ref h_featureNames, .ref h_steps, .ref h_turnedFeatures, .ref h_sixteenths, .int h_keys, .ref h_keySteps, .int h_lent, .int h_rings, .ref h_on, .ref h_onMany, .int h_doors, .ref h_wanted, .ref h_openers, .ref h_seconds, .int h_turned, .int h_roundMany, .ref h_roundDoors]))]) ⟨hx, hb, hml, hown, hts⟩ hK hE hT hP hD hS hA (d_keepAt_3 l G cA h_onMany c_h_onMany y (r_1 + 1)) lk_RX2_126 ⟨rfl, rfl⟩ ⟨Nat.le_of_ble_eq_true rfl, Nat.le_of_ble_eq_true rfl⟩ [1] [0, 2] rfl rfl (by decide) rfl hl.1 rfl (lv_room (Nat.le_of_ble_eq_true rfl)) dX2_putOn_32 ⟨Nat.le_of_ble_eq_true rfl, Nat.le_of_ble_eq_true rfl⟩ (fun u_12 H locs hw hP hD hS => ?_)
      obtain ⟨nw0_10, rfl⟩ : ∃ z, z = u_12 := ⟨_, rfl⟩
      have hP : va_P G vwCl [(h_on, .inl (cA.1 0, 30, .inl c_h_on)), (h, .inr (2, [.int h_features, .ref h_featureNames, .ref h_steps, .ref h_turnedFeatures, .ref h_sixteenths, .int h_keys, .ref h_keySteps, .int h_lent, .int h_rings, .ref h_on, .ref h_onMany, .int h_doors, .ref h_wanted, .ref h_openers, .ref h_seconds, .int h_turned, .int h_roundMany, .ref h_roundDoors])), (h_onMany, .inl (cA.1 0, 3, .inl nw0_10))] H := hP
      have hD : va_D A [(h_on, .inl (cA.1 0, 30, .inl c_h_on)), (h, .inr (2, [.int h_features, .ref h_featureNames, .ref h_steps, .ref h_turnedFeatures, .ref h_sixteenths, .int h_keys, .ref h_keySteps, .int h_lent, .int h_rings, .ref h_on, .ref h_onMany, .int h_doors, .ref h_wanted, .ref h_openers, .ref h_seconds, .int h_turned, .int h_roundMany, .ref h_roundDoors])), (h_onMany, .inl (cA.1 0, 3, .inl nw0_10))] := hD
      refine lv_iload hx hb dX2_putOn_35 (lv_at hl 0 rfl) ?_
      refine lv_istore (lv' := [(5, .int r_1), (4, .int r_1), (0, .ref h), (1, .int x), (2, .int y), (3, .int k)]) hx hb dX2_putOn_37 hl (by decide) rfl (fun ls hl => ?_)
      have hlp_33 : ∀ (n : Nat) (v_31 : Int32) (g_32 : Nat → Int32) (H : Heap) (locs : List Loc) (ls : Array Slot), (v_31.toInt + 2147483648).toNat < n → va_P G vwCl [(h_on, .inl (cA.1 0, 30, .inl g_32)), (h, .inr (2, [.int h_features, .ref h_featureNames, .ref h_steps, .ref h_turnedFeatures, .ref h_sixteenths, .int h_keys, .ref h_keySteps, .int h_lent, .int h_rings, .ref h_on, .ref h_onMany, .int h_doors, .ref h_wanted, .ref h_openers, .ref h_seconds, .int h_turned, .int h_roundMany, .ref h_roundDoors])), (h_onMany, .inl (cA.1 0, 3, .inl nw0_10))] H → va_D A [(h_on, .inl (cA.1 0, 30, .inl g_32)), (h, .inr (2, [.int h_features, .ref h_featureNames, .ref h_steps, .ref h_turnedFeatures, .ref h_sixteenths, .int h_keys, .ref h_keySteps, .int h_lent, .int h_rings, .ref h_on, .ref h_onMany, .int h_doors, .ref h_wanted, .ref h_openers, .ref h_seconds, .int h_turned, .int h_roundMany, .ref h_roundDoors])), (h_onMany, .inl (cA.1 0, 3, .inl nw0_10))] → va_S A s.heap H locs → lv_has ls 6 [(0, .ref h), (1, .int x), (2, .int y), (3, .int k), (4, .int r_1), (5, .int v_31)] → W p l e ({ frames := 3, cells := 0, slots := 0, locals := 65 }) s m args below meth c H locs 0 0 Q (F0 m 39 ls []) := by
        intro n
        induction n with
        | zero =>
          intro v_31 g_32 H locs ls hmu hP hD hS hl
          exact absurd hmu (Nat.not_lt_zero _)
        | succ n ih_34 =>
          intro v_31 g_32 H locs ls hmu hP hD hS hl
          refine lv_iload hx hb dX2_putOn_39 (lv_at hl 5 rfl) ?_
          refine lv_iload_n hx hb dX2_putOn_41 rfl (lv_at hl 3 rfl) ?_
          refine lv_icmp_le (tgt := 67) hx hb dX2_putOn_42 (by decide) (fun c_35 => ?_) (fun c_35 => ?_)
          · have b_36 := z_s5 c_35
            refine lv_aload_n hx hb dX2_putOn_67 rfl (lv_at hl 0 rfl) ?_
            refine lv_iload_n hx hb dX2_putOn_68 rfl (lv_at hl 2 rfl) ?_
            refine lv_iload_n hx hb dX2_putOn_69 rfl (lv_at hl 3 rfl) ?_
            refine lv_iload_n hx hb dX2_putOn_70 rfl (lv_at hl 1 rfl) ?_
            refine z_callVv (As := [.int y, .int k, .int x]) (rest := []) (wr := []) ⟨hx, hb, hml, hown, hts⟩ hK hE hT hP hD hS hA (d_H_layAt l G cA h h_features h_featureNames h_steps h_turnedFeatures h_sixteenths h_keys h_keySteps h_lent h_rings h_on h_onMany h_doors h_wanted h_openers h_seconds h_turned h_roundMany h_roundDoors g_32 nw0_10 y k x) lk_RX2_148 ⟨rfl, rfl⟩ ⟨Nat.le_of_ble_eq_true rfl, Nat.le_of_ble_eq_true rfl⟩ 2 rfl rfl rfl [1, 0, 2] [] rfl rfl (by decide) rfl hl.1 rfl (lv_room (Nat.le_of_ble_eq_true rfl)) dX2_putOn_71 ⟨Nat.le_of_ble_eq_true rfl, Nat.le_of_ble_eq_true rfl⟩ (fun u_39 H locs hw hP hD hS => ?_)
            obtain ⟨nw0_37, rfl⟩ : ∃ z, z = u_39 := ⟨_, rfl⟩
            have hP : va_P G vwCl [(h, .inr (2, [.int h_features, .ref h_featureNames, .ref h_steps, .ref h_turnedFeatures, .ref h_sixteenths, .int h_keys, .ref h_keySteps, .int h_lent, .int h_rings, .ref h_on, .ref h_onMany, .int h_doors, .ref h_wanted, .ref h_openers, .ref h_seconds, .int h_turned, .int h_roundMany, .ref h_roundDoors])), (h_on, .inl (cA.1 0, 30, .inl nw0_37)), (h_onMany, .inl (cA.1 0, 3, .inl nw0_10))] H := hP
            have hD : va_D A [(h, .inr (2, [.int h_features, .ref h_featureNames, .ref h_steps, .ref h_turnedFeatures, .ref h_sixteenths, .int h_keys, .ref h_keySteps, .int h_lent, .int h_rings, .ref h_on, .ref h_onMany, .int h_doors, .ref h_wanted, .ref h_openers, .ref h_seconds, .int h_turned, .int h_roundMany, .ref h_roundDoors])), (h_on, .inl (cA.1 0, 30, .inl nw0_37)), (h_onMany, .inl (cA.1 0, 3, .inl nw0_10))] := hD
            exact hret _ _ _ _ _ (nw0_37, nw0_10) [0, 1, 2] hP hD hS rfl (by decide) dX2_putOn_74 trivial
          · have b_40 := z_s6 c_35
            refine lv_aload_n hx hb dX2_putOn_45 rfl (lv_at hl 0 rfl) ?_
            refine lv_iload_n hx hb dX2_putOn_46 rfl (lv_at hl 2 rfl) ?_
            refine lv_iload hx hb dX2_putOn_47 (lv_at hl 5 rfl) ?_
            refine lv_aload_n hx hb dX2_putOn_49 rfl (lv_at hl 0 rfl) ?_
            refine lv_iload_n hx hb dX2_putOn_50 rfl (lv_at hl 2 rfl) ?_
            refine lv_iload hx hb dX2_putOn_51 (lv_at hl 5 rfl) ?_
            refine lv_iconst (v := 1) hx hb dX2_putOn_53 (by decide) ?_
            refine lv_isub hx hb dX2_putOn_54 ?_
            refine z_callVi (As := [.int y, .int (v_31 - 1)]) (rest := [.int v_31, .int y, .ref h]) (wr := []) ⟨hx, hb, hml, hown, hts⟩ hK hE hT hP hD hS hA (d_H_keyOn l G cA h h_features h_featureNames h_steps h_turnedFeatures h_sixteenths h_keys h_keySteps h_lent h_rings h_on h_onMany h_doors h_wanted h_openers h_seconds h_turned h_roundMany h_roundDoors g_32 nw0_10 y (v_31 - 1)) lk_RX2_116 ⟨rfl, rfl⟩ ⟨Nat.le_of_ble_eq_true rfl, Nat.le_of_ble_eq_true rfl⟩ 2 rfl rfl rfl [1, 0, 2] [] rfl rfl (by decide) rfl hl.1 rfl (lv_room (Nat.le_of_ble_eq_true rfl)) dX2_putOn_55 ⟨Nat.le_of_ble_eq_true rfl, Nat.le_of_ble_eq_true rfl⟩ (fun r_41 u_42 H locs hw hP hD hS => ?_)
            have hP : va_P G vwCl [(h, .inr (2, [.int h_features, .ref h_featureNames, .ref h_steps, .ref h_turnedFeatures, .ref h_sixteenths, .int h_keys, .ref h_keySteps, .int h_lent, .int h_rings, .ref h_on, .ref h_onMany, .int h_doors, .ref h_wanted, .ref h_openers, .ref h_seconds, .int h_turned, .int h_roundMany, .ref h_roundDoors])), (h_on, .inl (cA.1 0, 30, .inl g_32)), (h_onMany, .inl (cA.1 0, 3, .inl nw0_10))] H := hP
            have hD : va_D A [(h, .inr (2, [.int h_features, .ref h_featureNames, .ref h_steps, .ref h_turnedFeatures, .ref h_sixteenths, .int h_keys, .ref h_keySteps, .int h_lent, .int h_rings, .ref h_on, .ref h_onMany, .int h_doors, .ref h_wanted, .ref h_openers, .ref h_seconds, .int h_turned, .int h_roundMany, .ref h_roundDoors])), (h_on, .inl (cA.1 0, 30, .inl g_32)), (h_onMany, .inl (cA.1 0, 3, .inl nw0_10))] := hD
            refine z_callVv (As := [.int y, .int v_31, .int r_41]) (rest := []) (wr := []) ⟨hx, hb, hml, hown, hts⟩ hK hE hT hP hD hS hA (d_H_layAt l G cA h h_features h_featureNames h_steps h_turnedFeatures h_sixteenths h_keys h_keySteps h_lent h_rings h_on h_onMany h_doors h_wanted h_openers h_seconds h_turned h_roundMany h_roundDoors g_32 nw0_10 y v_31 r_41) lk_RX2_148 ⟨rfl, rfl⟩ ⟨Nat.le_of_ble_eq_true rfl, Nat.le_of_ble_eq_true rfl⟩ 2 rfl rfl rfl [0, 1, 2] [] rfl rfl (by decide) rfl hl.1 rfl (lv_room (Nat.le_of_ble_eq_true rfl)) dX2_putOn_58 ⟨Nat.le_of_ble_eq_true rfl, Nat.le_of_ble_eq_true rfl⟩ (fun u_45 H locs hw hP hD hS => ?_)
            obtain ⟨nw0_43, rfl⟩ : ∃ z, z = u_45 := ⟨_, rfl⟩
            have hP : va_P G vwCl [(h, .inr (2, [.int h_features, .ref h_featureNames, .ref h_steps, .ref h_turnedFeatures, .ref h_sixteenths, .int h_keys, .ref h_keySteps, .int h_lent, .int h_rings, .ref h_on, .ref h_onMany, .int h_doors, .ref h_wanted, .ref h_openers, .ref h_seconds, .int h_turned, .int h_roundMany, .ref h_roundDoors])), (h_on, .inl (cA.1 0, 30, .inl nw0_43)), (h_onMany, .inl (cA.1 0, 3, .inl nw0_10))] H := hP
            have hD : va_D A [(h, .inr (2, [.int h_features, .ref h_featureNames, .ref h_steps, .ref h_turnedFeatures, .ref h_sixteenths, .int h_keys, .ref h_keySteps, .int h_lent, .int h_rings, .ref h_on, .ref h_onMany, .int h_doors, .ref h_wanted, .ref h_openers, .ref h_seconds, .int h_turned, .int h_roundMany, .ref h_roundDoors])), (h_on, .inl (cA.1 0, 30, .inl nw0_43)), (h_onMany, .inl (cA.1 0, 3, .inl nw0_10))] := hD
            refine lv_iinc (v := (v_31 + (-1))) (lv' := [(5, .int (v_31 + (-1))), (0, .ref h), (1, .int x), (2, .int y), (3, .int k), (4, .int r_1)]) hx hb dX2_putOn_61 hl (k := 5) rfl (z_ofi (by decide +kernel)) (by decide) rfl (fun ls hl => ?_)
            refine lv_goto (tgt := 39) hx hb dX2_putOn_64 (by decide) ?_
            have hP := hP.sub (ws' := [(h_on, .inl (cA.1 0, 30, .inl nw0_43)), (h, .inr (2, [.int h_features, .ref h_featureNames, .ref h_steps, .ref h_turnedFeatures, .ref h_sixteenths, .int h_keys, .ref h_keySteps, .int h_lent, .int h_rings, .ref h_on, .ref h_onMany, .int h_doors, .ref h_wanted, .ref h_openers, .ref h_seconds, .int h_turned, .int h_roundMany, .ref h_roundDoors])), (h_onMany, .inl (cA.1 0, 3, .inl nw0_10))]) [1, 0, 2] rfl
            have hD := hD.sub (ws' := [(h_on, .inl (cA.1 0, 30, .inl nw0_43)), (h, .inr (2, [.int h_features, .ref h_featureNames, .ref h_steps, .ref h_turnedFeatures, .ref h_sixteenths, .int h_keys, .ref h_keySteps, .int h_lent, .int h_rings, .ref h_on, .ref h_onMany, .int h_doors, .ref h_wanted, .ref h_openers, .ref h_seconds, .int h_turned, .int h_roundMany, .ref h_roundDoors])), (h_onMany, .inl (cA.1 0, 3, .inl nw0_10))]) [1, 0, 2] (by decide) rfl
            exact ih_34 (v_31 + (-1)) nw0_43 H locs ls (z_dn hmu (by omega) (by omega)) hP hD hS (lv_sub hl [1, 2, 3, 4, 5, 0] rfl)
      exact hlp_33 _ r_1 c_h_on _ _ _ (Nat.lt_succ_self _) hP hD hS (lv_sub hl [2, 3, 4, 5, 1, 0] rfl)
    · have b_46 := z_b4 c_8 (K := 10) (by decide +kernel)
      exact hret _ _ _ _ _ (c_h_on, c_h_onMany) [2, 0, 1] hP hD hS rfl (by decide) dX2_putOn_22 trivial
set_option maxHeartbeats 4000000 in
set_option maxRecDepth 100000 in
theorem d_H_takeOff (l : Launch) (G : va_G) (cA : zCA) (h : Nat) (h_features : Int32) (h_featureNames : Nat) (h_steps : Nat) (h_turnedFeatures : Nat) (h_sixteenths : Nat) (h_keys : Int32) (h_keySteps : Nat) (h_lent : Int32) (h_rings : Int32) (h_on : Nat) (h_onMany : Nat) (h_doors : Int32) (h_wanted : Nat) (h_openers : Nat) (h_seconds : Nat) (h_turned : Int32) (h_roundMany : Int32) (h_roundDoors : Nat) (c_h_on : Nat → Int32) (c_h_onMany : Nat → Int32) (x : Int32) (y : Int32) : zCv l yX2_takeOff cX2_takeOff 6 none ({ frames := 4, cells := 0, slots := 0, locals := 87 }) G cA [.ref h, .int x, .int y] [(h, .inr (2, [.int h_features, .ref h_featureNames, .ref h_steps, .ref h_turnedFeatures, .ref h_sixteenths, .int h_keys, .ref h_keySteps, .int h_lent, .int h_rings, .ref h_on, .ref h_onMany, .int h_doors, .ref h_wanted, .ref h_openers, .ref h_seconds, .int h_turned, .int h_roundMany, .ref h_roundDoors])), (h_on, .inl (cA.1 0, 30, .inl c_h_on)), (h_onMany, .inl (cA.1 0, 3, .inl c_h_onMany))] (S := (Nat → Int32) × (Nat → Int32)) (fun (u : (Nat → Int32) × (Nat → Int32)) => True) (fun (u : (Nat → Int32) × (Nat → Int32)) => [(h, .inr (2, [.int h_features, .ref h_featureNames, .ref h_steps, .ref h_turnedFeatures, .ref h_sixteenths, .int h_keys, .ref h_keySteps, .int h_lent, .int h_rings, .ref h_on, .ref h_onMany, .int h_doors, .ref h_wanted, .ref h_openers, .ref h_seconds, .int h_turned, .int h_roundMany, .ref h_roundDoors])), (h_on, .inl (cA.1 0, 30, .inl u.1)), (h_onMany, .inl (cA.1 0, 3, .inl u.2))]) 0 0 := by
  refine z_start2v (own := RX2) (by decide) (Nat.le_of_ble_eq_true rfl) rfl ?_
  intro p e s m args below meth c A ls Q hx hb hml hts hown hK hE hT hP hD hS hA hl hret
  have hl : lv_has ls 6 [(0, .ref h), (1, .int x), (2, .int y)] := hl
  refine lv_aload_n hx hb dX2_takeOff_0 rfl (lv_at hl 0 rfl) ?_
  refine lv_iload_n hx hb dX2_takeOff_1 rfl (lv_at hl 2 rfl) ?_
  refine lv_iload_n hx hb dX2_takeOff_2 rfl (lv_at hl 1 rfl) ?_
  refine z_callVi (As := [.int y, .int x]) (rest := []) (wr := []) ⟨hx, hb, hml, hown, hts⟩ hK hE hT hP hD hS hA (d_H_placeOn l G cA h h_features h_featureNames h_steps h_turnedFeatures h_sixteenths h_keys h_keySteps h_lent h_rings h_on h_onMany h_doors h_wanted h_openers h_seconds h_turned h_roundMany h_roundDoors c_h_on c_h_onMany y x) lk_RX2_120 ⟨rfl, rfl⟩ ⟨Nat.le_of_ble_eq_true rfl, Nat.le_of_ble_eq_true rfl⟩ 2 rfl rfl rfl [0, 1, 2] [] rfl rfl (by decide) rfl hl.1 rfl (lv_room (Nat.le_of_ble_eq_true rfl)) dX2_takeOff_3 ⟨Nat.le_of_ble_eq_true rfl, Nat.le_of_ble_eq_true rfl⟩ (fun r_1 u_2 H locs hw hP hD hS => ?_)
  have hP : va_P G vwCl [(h, .inr (2, [.int h_features, .ref h_featureNames, .ref h_steps, .ref h_turnedFeatures, .ref h_sixteenths, .int h_keys, .ref h_keySteps, .int h_lent, .int h_rings, .ref h_on, .ref h_onMany, .int h_doors, .ref h_wanted, .ref h_openers, .ref h_seconds, .int h_turned, .int h_roundMany, .ref h_roundDoors])), (h_on, .inl (cA.1 0, 30, .inl c_h_on)), (h_onMany, .inl (cA.1 0, 3, .inl c_h_onMany))] H := hP
  have hD : va_D A [(h, .inr (2, [.int h_features, .ref h_featureNames, .ref h_steps, .ref h_turnedFeatures, .ref h_sixteenths, .int h_keys, .ref h_keySteps, .int h_lent, .int h_rings, .ref h_on, .ref h_onMany, .int h_doors, .ref h_wanted, .ref h_openers, .ref h_seconds, .int h_turned, .int h_roundMany, .ref h_roundDoors])), (h_on, .inl (cA.1 0, 30, .inl c_h_on)), (h_onMany, .inl (cA.1 0, 3, .inl c_h_onMany))] := hD
  refine lv_istore_n (lv' := [(3, .int r_1), (0, .ref h), (1, .int x), (2, .int y)]) hx hb dX2_takeOff_6 rfl hl (by decide) rfl (fun ls hl => ?_)
  refine lv_iload_n hx hb dX2_takeOff_7 rfl (lv_at hl 0 rfl) ?_
  refine lv_iconst (v := (-1)) hx hb dX2_takeOff_8 (by decide) ?_
  refine lv_icmp_ne (tgt := 13) hx hb dX2_takeOff_9 (by decide) (fun c_3 => ?_) (fun c_3 => ?_)
  · skip
    refine lv_aload_n hx hb dX2_takeOff_13 rfl (lv_at hl 1 rfl) ?_
    refine lv_iload_n hx hb dX2_takeOff_14 rfl (lv_at hl 3 rfl) ?_
    refine z_callVi (As := [.int y]) (rest := []) (wr := [(h_on, .inl (cA.1 0, 30, .inl c_h_on))]) ⟨hx, hb, hml, hown, hts⟩ hK hE hT hP hD hS hA (d_H_manyOn l G cA h h_features h_featureNames h_steps h_turnedFeatures h_sixteenths h_keys h_keySteps h_lent h_rings h_on h_onMany h_doors h_wanted h_openers h_seconds h_turned h_roundMany h_roundDoors c_h_onMany y) lk_RX2_113 ⟨rfl, rfl⟩ ⟨Nat.le_of_ble_eq_true rfl, Nat.le_of_ble_eq_true rfl⟩ 2 rfl rfl rfl [0, 2] [1] rfl rfl (by decide) rfl hl.1 rfl (lv_room (Nat.le_of_ble_eq_true rfl)) dX2_takeOff_15 ⟨Nat.le_of_ble_eq_true rfl, Nat.le_of_ble_eq_true rfl⟩ (fun r_5 u_6 H locs hw hP hD hS => ?_)
    have hP : va_P G vwCl [(h_on, .inl (cA.1 0, 30, .inl c_h_on)), (h, .inr (2, [.int h_features, .ref h_featureNames, .ref h_steps, .ref h_turnedFeatures, .ref h_sixteenths, .int h_keys, .ref h_keySteps, .int h_lent, .int h_rings, .ref h_on, .ref h_onMany, .int h_doors, .ref h_wanted, .ref h_openers, .ref h_seconds, .int h_turned, .int h_roundMany, .ref h_roundDoors])), (h_onMany, .inl (cA.1 0, 3, .inl c_h_onMany))] H := hP
    have hD : va_D A [(h_on, .inl (cA.1 0, 30, .inl c_h_on)), (h, .inr (2, [.int h_features, .ref h_featureNames, .ref h_steps, .ref h_turnedFeatures, .ref h_sixteenths, .int h_keys, .ref h_keySteps, .int h_lent, .int h_rings, .ref h_on, .ref h_onMany, .int h_doors, .ref h_wanted, .ref h_openers, .ref h_seconds, .int h_turned, .int h_roundMany, .ref h_roundDoors])), (h_onMany, .inl (cA.1 0, 3, .inl c_h_onMany))] := hD
    refine lv_iconst (v := 1) hx hb dX2_takeOff_18 (by decide) ?_
    refine lv_isub hx hb dX2_takeOff_19 ?_
    refine lv_istore (lv' := [(4, .int (r_5 - 1)), (3, .int r_1), (0, .ref h), (1, .int x), (2, .int y)]) hx hb dX2_takeOff_20 hl (by decide) rfl (fun ls hl => ?_)
    refine lv_iload_n hx hb dX2_takeOff_22 rfl (lv_at hl 1 rfl) ?_
    refine lv_istore (lv' := [(5, .int r_1), (4, .int (r_5 - 1)), (3, .int r_1), (0, .ref h), (1, .int x), (2, .int y)]) hx hb dX2_takeOff_23 hl (by decide) rfl (fun ls hl => ?_)
    have hlp_27 : ∀ (n : Nat) (v_25 : Int32) (g_26 : Nat → Int32) (H : Heap) (locs : List Loc) (ls : Array Slot), (2147483647 - v_25.toInt).toNat < n → va_P G vwCl [(h_on, .inl (cA.1 0, 30, .inl g_26)), (h, .inr (2, [.int h_features, .ref h_featureNames, .ref h_steps, .ref h_turnedFeatures, .ref h_sixteenths, .int h_keys, .ref h_keySteps, .int h_lent, .int h_rings, .ref h_on, .ref h_onMany, .int h_doors, .ref h_wanted, .ref h_openers, .ref h_seconds, .int h_turned, .int h_roundMany, .ref h_roundDoors])), (h_onMany, .inl (cA.1 0, 3, .inl c_h_onMany))] H → va_D A [(h_on, .inl (cA.1 0, 30, .inl g_26)), (h, .inr (2, [.int h_features, .ref h_featureNames, .ref h_steps, .ref h_turnedFeatures, .ref h_sixteenths, .int h_keys, .ref h_keySteps, .int h_lent, .int h_rings, .ref h_on, .ref h_onMany, .int h_doors, .ref h_wanted, .ref h_openers, .ref h_seconds, .int h_turned, .int h_roundMany, .ref h_roundDoors])), (h_onMany, .inl (cA.1 0, 3, .inl c_h_onMany))] → va_S A s.heap H locs → lv_has ls 6 [(0, .ref h), (1, .int x), (2, .int y), (3, .int r_1), (4, .int (r_5 - 1)), (5, .int v_25)] → W p l e ({ frames := 4, cells := 0, slots := 0, locals := 87 }) s m args below meth c H locs 0 0 Q (F0 m 25 ls []) := by
      intro n
      induction n with
      | zero =>
        intro v_25 g_26 H locs ls hmu hP hD hS hl
        exact absurd hmu (Nat.not_lt_zero _)
      | succ n ih_28 =>
        intro v_25 g_26 H locs ls hmu hP hD hS hl
        refine lv_iload hx hb dX2_takeOff_25 (lv_at hl 5 rfl) ?_
        refine lv_iload hx hb dX2_takeOff_27 (lv_at hl 4 rfl) ?_
        refine lv_icmp_ge (tgt := 54) hx hb dX2_takeOff_29 (by decide) (fun c_29 => ?_) (fun c_29 => ?_)
        · have b_30 := z_s1 c_29
          refine lv_aload_n hx hb dX2_takeOff_54 rfl (lv_at hl 0 rfl) ?_
          refine va_get (D := G) (ci := 2) (v := .ref h_onMany) (C := RX2) (T := TX2) (N := 18) hx hb hts inT2 hown hK hP 1 rfl rfl 10 (by decide) (hts _ tw_284) (fun _ h9 => h9) rfl dX2_takeOff_55 ?_
          refine lv_iload_n hx hb dX2_takeOff_58 rfl (lv_at hl 2 rfl) ?_
          refine lv_iload hx hb dX2_takeOff_59 (lv_at hl 4 rfl) ?_
          refine z_callSNv (As := [.ref h_onMany, .int y, .int (r_5 - 1)]) (rest := []) (wr := [(h_on, .inl (cA.1 0, 30, .inl g_26)), (h, .inr (2, [.int h_features, .ref h_featureNames, .ref h_steps, .ref h_turnedFeatures, .ref h_sixteenths, .int h_keys, .ref h_keySteps, .int h_lent, .int h_rings, .ref h_on, .ref h_onMany, .int h_doors, .ref h_wanted, .ref h_openers, .ref h_seconds, .int h_turned, .int h_roundMany, .ref h_roundDoors]))]) ⟨hx, hb, hml, hown, hts⟩ hK hE hT hP hD hS hA (d_keepAt_3 l G cA h_onMany c_h_onMany y (r_5 - 1)) lk_RX2_126 ⟨rfl, rfl⟩ ⟨Nat.le_of_ble_eq_true rfl, Nat.le_of_ble_eq_true rfl⟩ [2] [0, 1] rfl rfl (by decide) rfl hl.1 rfl (lv_room (Nat.le_of_ble_eq_true rfl)) dX2_takeOff_61 ⟨Nat.le_of_ble_eq_true rfl, Nat.le_of_ble_eq_true rfl⟩ (fun u_33 H locs hw hP hD hS => ?_)
          obtain ⟨nw0_31, rfl⟩ : ∃ z, z = u_33 := ⟨_, rfl⟩
          have hP : va_P G vwCl [(h_on, .inl (cA.1 0, 30, .inl g_26)), (h, .inr (2, [.int h_features, .ref h_featureNames, .ref h_steps, .ref h_turnedFeatures, .ref h_sixteenths, .int h_keys, .ref h_keySteps, .int h_lent, .int h_rings, .ref h_on, .ref h_onMany, .int h_doors, .ref h_wanted, .ref h_openers, .ref h_seconds, .int h_turned, .int h_roundMany, .ref h_roundDoors])), (h_onMany, .inl (cA.1 0, 3, .inl nw0_31))] H := hP
          have hD : va_D A [(h_on, .inl (cA.1 0, 30, .inl g_26)), (h, .inr (2, [.int h_features, .ref h_featureNames, .ref h_steps, .ref h_turnedFeatures, .ref h_sixteenths, .int h_keys, .ref h_keySteps, .int h_lent, .int h_rings, .ref h_on, .ref h_onMany, .int h_doors, .ref h_wanted, .ref h_openers, .ref h_seconds, .int h_turned, .int h_roundMany, .ref h_roundDoors])), (h_onMany, .inl (cA.1 0, 3, .inl nw0_31))] := hD
          exact hret _ _ _ _ _ (g_26, nw0_31) [1, 0, 2] hP hD hS rfl (by decide) dX2_takeOff_64 trivial
        · have b_34 := z_s2 c_29
          refine lv_aload_n hx hb dX2_takeOff_32 rfl (lv_at hl 0 rfl) ?_
          refine lv_iload_n hx hb dX2_takeOff_33 rfl (lv_at hl 2 rfl) ?_
          refine lv_iload hx hb dX2_takeOff_34 (lv_at hl 5 rfl) ?_
          refine lv_aload_n hx hb dX2_takeOff_36 rfl (lv_at hl 0 rfl) ?_
          refine lv_iload_n hx hb dX2_takeOff_37 rfl (lv_at hl 2 rfl) ?_
          refine lv_iload hx hb dX2_takeOff_38 (lv_at hl 5 rfl) ?_
          refine lv_iconst (v := 1) hx hb dX2_takeOff_40 (by decide) ?_
          refine lv_iadd hx hb dX2_takeOff_41 ?_
          refine z_callVi (As := [.int y, .int (v_25 + 1)]) (rest := [.int v_25, .int y, .ref h]) (wr := []) ⟨hx, hb, hml, hown, hts⟩ hK hE hT hP hD hS hA (d_H_keyOn l G cA h h_features h_featureNames h_steps h_turnedFeatures h_sixteenths h_keys h_keySteps h_lent h_rings h_on h_onMany h_doors h_wanted h_openers h_seconds h_turned h_roundMany h_roundDoors g_26 c_h_onMany y (v_25 + 1)) lk_RX2_116 ⟨rfl, rfl⟩ ⟨Nat.le_of_ble_eq_true rfl, Nat.le_of_ble_eq_true rfl⟩ 2 rfl rfl rfl [1, 0, 2] [] rfl rfl (by decide) rfl hl.1 rfl (lv_room (Nat.le_of_ble_eq_true rfl)) dX2_takeOff_42 ⟨Nat.le_of_ble_eq_true rfl, Nat.le_of_ble_eq_true rfl⟩ (fun r_35 u_36 H locs hw hP hD hS => ?_)
          have hP : va_P G vwCl [(h, .inr (2, [.int h_features, .ref h_featureNames, .ref h_steps, .ref h_turnedFeatures, .ref h_sixteenths, .int h_keys, .ref h_keySteps, .int h_lent, .int h_rings, .ref h_on, .ref h_onMany, .int h_doors, .ref h_wanted, .ref h_openers, .ref h_seconds, .int h_turned, .int h_roundMany, .ref h_roundDoors])), (h_on, .inl (cA.1 0, 30, .inl g_26)), (h_onMany, .inl (cA.1 0, 3, .inl c_h_onMany))] H := hP
          have hD : va_D A [(h, .inr (2, [.int h_features, .ref h_featureNames, .ref h_steps, .ref h_turnedFeatures, .ref h_sixteenths, .int h_keys, .ref h_keySteps, .int h_lent, .int h_rings, .ref h_on, .ref h_onMany, .int h_doors, .ref h_wanted, .ref h_openers, .ref h_seconds, .int h_turned, .int h_roundMany, .ref h_roundDoors])), (h_on, .inl (cA.1 0, 30, .inl g_26)), (h_onMany, .inl (cA.1 0, 3, .inl c_h_onMany))] := hD
          refine z_callVv (As := [.int y, .int v_25, .int r_35]) (rest := []) (wr := []) ⟨hx, hb, hml, hown, hts⟩ hK hE hT hP hD hS hA (d_H_layAt l G cA h h_features h_featureNames h_steps h_turnedFeatures h_sixteenths h_keys h_keySteps h_lent h_rings h_on h_onMany h_doors h_wanted h_openers h_seconds h_turned h_roundMany h_roundDoors g_26 c_h_onMany y v_25 r_35) lk_RX2_148 ⟨rfl, rfl⟩ ⟨Nat.le_of_ble_eq_true rfl, Nat.le_of_ble_eq_true rfl⟩ 2 rfl rfl rfl [0, 1, 2] [] rfl rfl (by decide) rfl hl.1 rfl (lv_room (Nat.le_of_ble_eq_true rfl)) dX2_takeOff_45 ⟨Nat.le_of_ble_eq_true rfl, Nat.le_of_ble_eq_true rfl⟩ (fun u_39 H locs hw hP hD hS => ?_)
          obtain ⟨nw0_37, rfl⟩ : ∃ z, z = u_39 := ⟨_, rfl⟩
          have hP : va_P G vwCl [(h, .inr (2, [.int h_features, .ref h_featureNames, .ref h_steps, .ref h_turnedFeatures, .ref h_sixteenths, .int h_keys, .ref h_keySteps, .int h_lent, .int h_rings, .ref h_on, .ref h_onMany, .int h_doors, .ref h_wanted, .ref h_openers, .ref h_seconds, .int h_turned, .int h_roundMany, .ref h_roundDoors])), (h_on, .inl (cA.1 0, 30, .inl nw0_37)), (h_onMany, .inl (cA.1 0, 3, .inl c_h_onMany))] H := hP
          have hD : va_D A [(h, .inr (2, [.int h_features, .ref h_featureNames, .ref h_steps, .ref h_turnedFeatures, .ref h_sixteenths, .int h_keys, .ref h_keySteps, .int h_lent, .int h_rings, .ref h_on, .ref h_onMany, .int h_doors, .ref h_wanted, .ref h_openers, .ref h_seconds, .int h_turned, .int h_roundMany, .ref h_roundDoors])), (h_on, .inl (cA.1 0, 30, .inl nw0_37)), (h_onMany, .inl (cA.1 0, 3, .inl c_h_onMany))] := hD
          refine lv_iinc (v := (v_25 + 1)) (lv' := [(5, .int (v_25 + 1)), (0, .ref h), (1, .int x), (2, .int y), (3, .int r_1), (4, .int (r_5 - 1))]) hx hb dX2_takeOff_48 hl (k := 5) rfl (z_ofi (by decide +kernel)) (by decide) rfl (fun ls hl => ?_)
          refine lv_goto (tgt := 25) hx hb dX2_takeOff_51 (by decide) ?_
          have hP := hP.sub (ws' := [(h_on, .inl (cA.1 0, 30, .inl nw0_37)), (h, .inr (2, [.int h_features, .ref h_featureNames, .ref h_steps, .ref h_turnedFeatures, .ref h_sixteenths, .int h_keys, .ref h_keySteps, .int h_lent, .int h_rings, .ref h_on, .ref h_onMany, .int h_doors, .ref h_wanted, .ref h_openers, .ref h_seconds, .int h_turned, .int h_roundMany, .ref h_roundDoors])), (h_onMany, .inl (cA.1 0, 3, .inl c_h_onMany))]) [1, 0, 2] rfl
          have hD := hD.sub (ws' := [(h_on, .inl (cA.1 0, 30, .inl nw0_37)), (h, .inr (2, [.int h_features, .ref h_featureNames, .ref h_steps, .ref h_turnedFeatures, .ref h_sixteenths, .int h_keys, .ref h_keySteps, .int h_lent, .int h_rings, .ref h_on, .ref h_onMany, .int h_doors, .ref h_wanted, .ref h_openers, .ref h_seconds, .int h_turned, .int h_roundMany, .ref h_roundDoors])), (h_onMany, .inl (cA.1 0, 3, .inl c_h_onMany))]) [1, 0, 2] (by decide) rfl
          exact ih_28 (v_25 + 1) nw0_37 H locs ls (z_up hmu (by omega) (by omega)) hP hD hS (lv_sub hl [1, 2, 3, 4, 5, 0] rfl)
    exact hlp_27 _ r_1 c_h_on _ _ _ (Nat.lt_succ_self _) hP hD hS (lv_sub hl [3, 4, 5, 2, 1, 0] rfl)
  · skip
    exact hret _ _ _ _ _ (c_h_on, c_h_onMany) [0, 1, 2] hP hD hS rfl (by decide) dX2_takeOff_12 trivial
set_option maxHeartbeats 4000000 in
set_option maxRecDepth 100000 in
theorem d_Pre_checkIndex_n (l : Launch) (G : va_G) (cA : zCA) (j : Int32) (n : Int32) (hj0 : 0 ≤ j.toInt) (hj1 : j.toInt < n.toInt) : zCi l yJ3_checkIndex_8e157 cJ3_checkIndex_8e157 3 (some .int) ({ frames := 0, cells := 0, slots := 0, locals := 0 }) G cA [.int j, .int n, .null] [] (S := Unit) (fun (r : Int32) (u : Unit) => True) (fun (u : Unit) => []) 0 0 := by
  refine z_start2i (own := RJ3) (by decide) (Nat.le_of_ble_eq_true rfl) rfl ?_
  intro p e s m args below meth c A ls Q hx hb hml hts hown hK hE hT hP hD hS hA hl hret
  have hl : lv_has ls 3 [(0, .int j), (1, .int n), (2, .null)] := hl
  refine lv_iload_n hx hb dJ3_checkIndex_8e157_0 rfl (lv_at hl 0 rfl) ?_
  refine lv_if_lt (tgt := 9) hx hb dJ3_checkIndex_8e157_1 (by decide) (fun h9 => absurd h9 (fun h8 => absurd (z_b3 h8 (K := 0) (by decide +kernel)) (by omega))) (fun _ => ?_)
  refine lv_iload_n hx hb dJ3_checkIndex_8e157_4 rfl (lv_at hl 0 rfl) ?_
  refine lv_iload_n hx hb dJ3_checkIndex_8e157_5 rfl (lv_at hl 1 rfl) ?_
  refine lv_icmp_lt (tgt := 16) hx hb dJ3_checkIndex_8e157_6 (by decide) (fun _ => ?_) (fun h9 => absurd (Int32.lt_iff_toInt_lt.mpr (by omega)) h9)
  refine lv_iload_n hx hb dJ3_checkIndex_8e157_16 rfl (lv_at hl 0 rfl) ?_
  exact hret _ _ _ _ _ _ () [] hP hD hS rfl (by decide) dJ3_checkIndex_8e157_17 trivial
set_option maxHeartbeats 4000000 in
set_option maxRecDepth 100000 in
theorem d_Pre_checkIndex_r (l : Launch) (G : va_G) (cA : zCA) (j : Int32) (n : Int32) (t9 : Nat) (hj0 : 0 ≤ j.toInt) (hj1 : j.toInt < n.toInt) : zCi l yJ3_checkIndex_8e157 cJ3_checkIndex_8e157 3 (some .int) ({ frames := 0, cells := 0, slots := 0, locals := 0 }) G cA [.int j, .int n, .ref t9] [] (S := Unit) (fun (r : Int32) (u : Unit) => True) (fun (u : Unit) => []) 0 0 := by
  refine z_start2i (own := RJ3) (by decide) (Nat.le_of_ble_eq_true rfl) rfl ?_
  intro p e s m args below meth c A ls Q hx hb hml hts hown hK hE hT hP hD hS hA hl hret
  have hl : lv_has ls 3 [(0, .int j), (1, .int n), (2, .ref t9)] := hl
  refine lv_iload_n hx hb dJ3_checkIndex_8e157_0 rfl (lv_at hl 0 rfl) ?_
  refine lv_if_lt (tgt := 9) hx hb dJ3_checkIndex_8e157_1 (by decide) (fun h9 => absurd h9 (fun h8 => absurd (z_b3 h8 (K := 0) (by decide +kernel)) (by omega))) (fun _ => ?_)
  refine lv_iload_n hx hb dJ3_checkIndex_8e157_4 rfl (lv_at hl 0 rfl) ?_
  refine lv_iload_n hx hb dJ3_checkIndex_8e157_5 rfl (lv_at hl 1 rfl) ?_
  refine lv_icmp_lt (tgt := 16) hx hb dJ3_checkIndex_8e157_6 (by decide) (fun _ => ?_) (fun h9 => absurd (Int32.lt_iff_toInt_lt.mpr (by omega)) h9)
  refine lv_iload_n hx hb dJ3_checkIndex_8e157_16 rfl (lv_at hl 0 rfl) ?_
  exact hret _ _ _ _ _ _ () [] hP hD hS rfl (by decide) dJ3_checkIndex_8e157_17 trivial
set_option maxHeartbeats 4000000 in
set_option maxRecDepth 100000 in
theorem d_St_checkIndex (l : Launch) (G : va_G) (cA : zCA) (j : Int32) (n : Int32) (hj0 : 0 ≤ j.toInt) (hj1 : j.toInt < n.toInt) : zCv l yJ0_checkIndex_df160 cJ0_checkIndex_df160 2 none ({ frames := 1, cells := 0, slots := 0, locals := 22 }) G cA [.int j, .int n] [] (S := Unit) (fun (u : Unit) => True) (fun (u : Unit) => []) 0 0 := by
  refine z_start2v (own := RJ0) (by decide) (Nat.le_of_ble_eq_true rfl) rfl ?_
  intro p e s m args below meth c A ls Q hx hb hml hts hown hK hE hT hP hD hS hA hl hret
  have hl : lv_has ls 2 [(0, .int j), (1, .int n)] := hl
  refine lv_iload_n hx hb dJ0_checkIndex_df160_0 rfl (lv_at hl 0 rfl) ?_
  refine lv_iload_n hx hb dJ0_checkIndex_df160_1 rfl (lv_at hl 1 rfl) ?_
  rcases hT.2.2 with hZ | ⟨t9, hZ⟩
  · refine va_gets hx hb hZ hS hown (hts _ tw_892) (fun _ h9 => h9) dJ0_checkIndex_df160_2 ?_
    refine z_callSi (As := [.int j, .int n, .null]) (rest := []) (wr := []) ⟨hx, hb, hml, hown, hts⟩ hK hE hT hP hD hS hA (d_Pre_checkIndex_n l G cA j n hj0 hj1) lk_RJ0_1059 ⟨rfl, rfl⟩ ⟨Nat.le_of_ble_eq_true rfl, Nat.le_of_ble_eq_true rfl⟩ [] [] rfl rfl (by decide) rfl hl.1 rfl (lv_room (Nat.le_of_ble_eq_true rfl)) dJ0_checkIndex_df160_5 ⟨Nat.le_of_ble_eq_true rfl, Nat.le_of_ble_eq_true rfl⟩ (fun r_1 u_2 H locs hw hP hD hS => ?_)
    have hP : va_P G vwCl [] H := hP
    have hD : va_D A [] := hD
    refine lv_pop hx hb dJ0_checkIndex_df160_8 rfl ?_
    exact hret _ _ _ _ _ () [] hP hD hS rfl (by decide) dJ0_checkIndex_df160_9 trivial
  · refine va_gets hx hb hZ hS hown (hts _ tw_892) (fun _ h9 => h9) dJ0_checkIndex_df160_2 ?_
    refine z_callSi (As := [.int j, .int n, .ref t9]) (rest := []) (wr := []) ⟨hx, hb, hml, hown, hts⟩ hK hE hT hP hD hS hA (d_Pre_checkIndex_r l G cA j n t9 hj0 hj1) lk_RJ0_1059 ⟨rfl, rfl⟩ ⟨Nat.le_of_ble_eq_true rfl, Nat.le_of_ble_eq_true rfl⟩ [] [] rfl rfl (by decide) rfl hl.1 rfl (lv_room (Nat.le_of_ble_eq_true rfl)) dJ0_checkIndex_df160_5 ⟨Nat.le_of_ble_eq_true rfl, Nat.le_of_ble_eq_true rfl⟩ (fun r_3 u_4 H locs hw hP hD hS => ?_)
    have hP : va_P G vwCl [] H := hP
    have hD : va_D A [] := hD
    refine lv_pop hx hb dJ0_checkIndex_df160_8 rfl ?_
    exact hret _ _ _ _ _ () [] hP hD hS rfl (by decide) dJ0_checkIndex_df160_9 trivial
set_option maxHeartbeats 4000000 in
set_option maxRecDepth 100000 in
theorem d_St_coder (l : Launch) (G : va_G) (cA : zCA) (i : Nat) (hi_i : i < 42) : zCi l yJ0_coder_7d493 cJ0_coder_7d493 1 (some .byte) ({ frames := 0, cells := 0, slots := 0, locals := 0 }) G cA [.ref (cA.2.1 i)] [] (S := Unit) (fun (r : Int32) (u : Unit) => r = 0) (fun (u : Unit) => []) 0 0 := by
  refine z_start2b (own := RJ0) (by decide) (Nat.le_of_ble_eq_true rfl) rfl ?_
  intro p e s m args below meth c A ls Q hx hb hml hts hown hK hE hT hP hD hS hA hl hret
  have hl : lv_has ls 1 [(0, .ref (cA.2.1 i))] := hl
  refine va_gets hx hb hT.2.1 hS hown (hts _ tw_876) (fun _ h9 => h9) dJ0_coder_7d493_0 ?_
  refine lv_if_eq (tgt := 13) hx hb dJ0_coder_7d493_3 (by decide) (fun h9 => absurd h9 (by decide +kernel)) (fun _ => ?_)
  refine lv_aload_n hx hb dJ0_coder_7d493_6 rfl (lv_at hl 0 rfl) ?_
  refine vk_getf hx hb (hT.1 i hi_i).2.2.1 hS hown (hts _ tw_2743) (fun _ h9 => h9) dJ0_coder_7d493_7 ?_
  refine lv_goto (tgt := 14) hx hb dJ0_coder_7d493_10 (by decide) ?_
  exact hret _ _ _ _ _ _ () [] hP hD hS rfl (by decide) dJ0_coder_7d493_14 (by decide +kernel) rfl
set_option maxHeartbeats 4000000 in
set_option maxRecDepth 100000 in
theorem d_St_isLatin1 (l : Launch) (G : va_G) (cA : zCA) (i : Nat) (hi_i : i < 42) : zCi l yJ0_isLatin1_aae02 cJ0_isLatin1_aae02 1 (some .boolean) ({ frames := 0, cells := 0, slots := 0, locals := 0 }) G cA [.ref (cA.2.1 i)] [] (S := Unit) (fun (r : Int32) (u : Unit) => (r = 1) ∧ (r = 0 ∨ r = 1)) (fun (u : Unit) => []) 0 0 := by
  refine z_start2z (own := RJ0) (by decide) (Nat.le_of_ble_eq_true rfl) rfl ?_
  intro p e s m args below meth c A ls Q hx hb hml hts hown hK hE hT hP hD hS hA hl hret
  have hl : lv_has ls 1 [(0, .ref (cA.2.1 i))] := hl
  refine va_gets hx hb hT.2.1 hS hown (hts _ tw_876) (fun _ h9 => h9) dJ0_isLatin1_aae02_0 ?_
  refine lv_if_eq (tgt := 17) hx hb dJ0_isLatin1_aae02_3 (by decide) (fun h9 => absurd h9 (by decide +kernel)) (fun _ => ?_)
  refine lv_aload_n hx hb dJ0_isLatin1_aae02_6 rfl (lv_at hl 0 rfl) ?_
  refine vk_getf hx hb (hT.1 i hi_i).2.2.1 hS hown (hts _ tw_2743) (fun _ h9 => h9) dJ0_isLatin1_aae02_7 ?_
  refine lv_if_ne (tgt := 17) hx hb dJ0_isLatin1_aae02_10 (by decide) (fun h9 => absurd (by decide +kernel) h9) (fun _ => ?_)
  refine lv_iconst (v := 1) hx hb dJ0_isLatin1_aae02_13 (by decide) ?_
  refine lv_goto (tgt := 18) hx hb dJ0_isLatin1_aae02_14 (by decide) ?_
  exact hret _ _ _ _ _ _ () [] hP hD hS rfl (by decide) dJ0_isLatin1_aae02_18 (Or.inr rfl) ⟨rfl, (Or.inr rfl)⟩
set_option maxHeartbeats 4000000 in
set_option maxRecDepth 100000 in
theorem d_St_length (l : Launch) (G : va_G) (cA : zCA) (i : Nat) (hi_i : i < 42) : zCi l yJ0_length_8abf5 cJ0_length_8abf5 1 (some .int) ({ frames := 1, cells := 0, slots := 0, locals := 20 }) G cA [.ref (cA.2.1 i)] [] (S := Unit) (fun (r : Int32) (u : Unit) => r = nI (zlb i).length) (fun (u : Unit) => []) 0 0 := by
  refine z_start2i (own := RJ0) (by decide) (Nat.le_of_ble_eq_true rfl) rfl ?_
  intro p e s m args below meth c A ls Q hx hb hml hts hown hK hE hT hP hD hS hA hl hret
  have hl : lv_has ls 1 [(0, .ref (cA.2.1 i))] := hl
  refine lv_aload_n hx hb dJ0_length_8abf5_0 rfl (lv_at hl 0 rfl) ?_
  refine vk_getf hx hb (hT.1 i hi_i).2.2.2.1 hS hown (hts _ tw_2742) (fun _ h9 => h9) dJ0_length_8abf5_1 ?_
  refine va_tlen (v := nI (zlb i).length) hx hb (hT.1 i hi_i).2.2.2.2 hS rfl dJ0_length_8abf5_4 ?_
  refine lv_aload_n hx hb dJ0_length_8abf5_5 rfl (lv_at hl 0 rfl) ?_
  refine z_callWi (As := []) (rest := [.int (nI (zlb i).length)]) (wr := []) ⟨hx, hb, hml, hown, hts⟩ hK hE hT hP hD hS hA (d_St_coder l G cA i hi_i) lk_RJ0_335 ⟨rfl, rfl⟩ ⟨Nat.le_of_ble_eq_true rfl, Nat.le_of_ble_eq_true rfl⟩ (z_rc hT hi_i hS) [] [] rfl rfl (by decide) rfl hl.1 rfl (lv_room (Nat.le_of_ble_eq_true rfl)) dJ0_length_8abf5_6 ⟨Nat.le_of_ble_eq_true rfl, Nat.le_of_ble_eq_true rfl⟩ (fun r_1 u_2 H locs hw hP hD hS => ?_)
  have hP : va_P G vwCl [] H := hP
  have hD : va_D A [] := hD
  obtain rfl : r_1 = 0 := hw
  refine lv_ishr hx hb dJ0_length_8abf5_9 ?_
  refine z_topi (y := (nI (zlb i).length)) (z_shr0 _) ?_
  exact hret _ _ _ _ _ _ () [] hP hD hS rfl (by decide) dJ0_length_8abf5_10 rfl
set_option maxHeartbeats 4000000 in
set_option maxRecDepth 100000 in
theorem d_SL_charAt (l : Launch) (G : va_G) (cA : zCA) (i : Nat) (j : Int32) (hi_i : i < 42) (hj0 : 0 ≤ j.toInt) (hj1 : j.toInt < ((zlb i).length : Int)) : zCi l yJ1_charAt_3b067 cJ1_charAt_3b067 2 (some .char) ({ frames := 2, cells := 0, slots := 0, locals := 43 }) G cA [.ref (cA.2.2 i), .int j] [] (S := Unit) (fun (r : Int32) (u : Unit) => True) (fun (u : Unit) => []) 0 0 := by
  refine z_start2c (own := RJ1) (by decide) (Nat.le_of_ble_eq_true rfl) rfl ?_
  intro p e s m args below meth c A ls Q hx hb hml hts hown hK hE hT hP hD hS hA hl hret
  have hl : lv_has ls 2 [(0, .ref (cA.2.2 i)), (1, .int j)] := hl
  refine lv_iload_n hx hb dJ1_charAt_3b067_0 rfl (lv_at hl 1 rfl) ?_
  refine lv_aload_n hx hb dJ1_charAt_3b067_1 rfl (lv_at hl 0 rfl) ?_
  refine va_tlen (v := nI (zlb i).length) hx hb (hT.1 i hi_i).2.2.2.2 hS rfl dJ1_charAt_3b067_2 ?_
  refine z_callSv (As := [.int j, .int (nI (zlb i).length)]) (rest := []) (wr := []) ⟨hx, hb, hml, hown, hts⟩ hK hE hT hP hD hS hA (d_St_checkIndex l G cA j (nI (zlb i).length) (by omega) (by omega)) lk_RJ1_9 ⟨rfl, rfl⟩ ⟨Nat.le_of_ble_eq_true rfl, Nat.le_of_ble_eq_true rfl⟩ [] [] rfl rfl (by decide) rfl hl.1 rfl (lv_room (Nat.le_of_ble_eq_true rfl)) dJ1_charAt_3b067_3 ⟨Nat.le_of_ble_eq_true rfl, Nat.le_of_ble_eq_true rfl⟩ (fun u_2 H locs hw hP hD hS => ?_)
  have hP : va_P G vwCl [] H := hP
  have hD : va_D A [] := hD
  refine lv_aload_n hx hb dJ1_charAt_3b067_6 rfl (lv_at hl 0 rfl) ?_
  refine lv_iload_n hx hb dJ1_charAt_3b067_7 rfl (lv_at hl 1 rfl) ?_
  refine va_tb hx hb (hT.1 i hi_i).2.2.2.2 hS (z_inN (by omega) (by omega)) rfl dJ1_charAt_3b067_8 ?_
  refine lv_topi (fun x_3 _ => ?_)
  refine lv_sipush (v := 255) hx hb dJ1_charAt_3b067_9 (by decide) ?_
  refine lv_iand hx hb dJ1_charAt_3b067_12 ?_
  refine lv_topi (fun x_4 _ => ?_)
  refine lv_i2c (v := ((x_4 : Int32).toUInt32 % 65536).toInt32) hx hb dJ1_charAt_3b067_13 rfl ?_
  obtain ⟨x_5, hc_x_5, he_x_5⟩ : ∃ z : Int32, narrow .char (.int z) = .int z ∧ ((x_4 : Int32).toUInt32 % 65536).toInt32 = z := ⟨_, pk_nc _, rfl⟩
  refine z_topi he_x_5 ?_
  exact hret _ _ _ _ _ _ () [] hP hD hS rfl (by decide) dJ1_charAt_3b067_14 hc_x_5 trivial
