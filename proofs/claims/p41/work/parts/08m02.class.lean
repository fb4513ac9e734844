set_option maxHeartbeats 40000000 in
set_option maxRecDepth 100000 in
theorem d_Te_byteAt (l : Launch) (G : va_G) (cA : zCA) (t : Nat) (tape : Nat) (t_fed : Int32) (t_length : Int32) (t_kind : Int32) (t_start : Int32) (t_end : Int32) (t_number : Int32) (t_sign : Int32) (t_letters : Int64) (t_fault : Int32) (t_faultPlace : Int32) (c_tape : Nat → Int32) (k : Int32) : zCi l yX8_byteAt cX8_byteAt 2 (some .int) ({ frames := 0, cells := 0, slots := 0, locals := 0 }) G cA [.ref t, .int k] [(t, .inr (8, [.ref tape, .int t_fed, .int t_length, .int t_kind, .int t_start, .int t_end, .int t_number, .int t_sign, .long t_letters, .int t_fault, .int t_faultPlace])), (tape, .inl (cA.1 2, 900, .inl c_tape))] (S := Unit) (fun (r : Int32) (u : Unit) => (r = (F_Te_byteAt t_length c_tape k)) ∧ (True)) (fun (u : Unit) => [(t, .inr (8, [.ref tape, .int t_fed, .int t_length, .int t_kind, .int t_start, .int t_end, .int t_number, .int t_sign, .long t_letters, .int t_fault, .int t_faultPlace])), (tape, .inl (cA.1 2, 900, .inl c_tape))]) 0 0 := by
  refine z_start2i (own := RX8) (by decide) (Nat.le_of_ble_eq_true rfl) rfl ?_
  intro p e s m args below meth c A ls Q hx hb hml hts hown hK hE hT hP hD hS hA hl hret
  have hl : lv_has ls 2 [(0, .ref t), (1, .int k)] := hl
  refine lv_iload_n hx hb dX8_byteAt_0 rfl (lv_at hl 1 rfl) ?_
  refine lv_if_lt (tgt := 32) hx hb dX8_byteAt_1 (by decide) (fun c_1 => ?_) (fun c_1 => ?_)
  · have b_2 := z_b3 c_1 (K := 0) (by decide +kernel)
    refine lv_iconst (v := (-1)) hx hb dX8_byteAt_32 (by decide) ?_
    have hX_3 : F_Te_byteAt t_length c_tape k = ((-1 : Int32) : Int32) := by
      refine (F_Te_byteAt_s ..).trans ?_
      refine (if_pos c_1).trans ?_
      exact rfl
    exact hret _ _ _ _ _ _ () [0, 1] hP hD hS rfl (by decide) dX8_byteAt_33 ⟨(congrArg (fun z9 => z9) hX_3).symm, trivial⟩
  · have b_4 := z_b4 c_1 (K := 0) (by decide +kernel)
    refine lv_iload_n hx hb dX8_byteAt_4 rfl (lv_at hl 1 rfl) ?_
    refine lv_aload_n hx hb dX8_byteAt_5 rfl (lv_at hl 0 rfl) ?_
    refine va_get (D := G) (ci := 8) (v := .int t_length) (C := RX8) (T := TX8) (N := 11) hx hb hts inT8 hown hK hP 0 rfl rfl 2 (by decide) (hts _ tw_208) (fun _ h9 => h9) rfl dX8_byteAt_6 ?_
    refine lv_icmp_ge (tgt := 32) hx hb dX8_byteAt_9 (by decide) (fun c_5 => ?_) (fun c_5 => ?_)
    · have b_6 := z_s1 c_5
      refine lv_iconst (v := (-1)) hx hb dX8_byteAt_32 (by decide) ?_
      have hX_7 : F_Te_byteAt t_length c_tape k = ((-1 : Int32) : Int32) := by
        refine (F_Te_byteAt_s ..).trans ?_
        refine (if_neg c_1).trans ?_
        refine (if_pos c_5).trans ?_
        exact rfl
      exact hret _ _ _ _ _ _ () [0, 1] hP hD hS rfl (by decide) dX8_byteAt_33 ⟨(congrArg (fun z9 => z9) hX_7).symm, trivial⟩
    · have b_8 := z_t2 c_5
      refine lv_iload_n hx hb dX8_byteAt_12 rfl (lv_at hl 1 rfl) ?_
      refine lv_sipush (v := 900) hx hb dX8_byteAt_13 (by decide) ?_
      refine lv_icmp_ge (tgt := 32) hx hb dX8_byteAt_16 (by decide) (fun c_9 => ?_) (fun c_9 => ?_)
      · have b_10 := z_b1 c_9 (K := 900) (by decide +kernel)
        refine lv_iconst (v := (-1)) hx hb dX8_byteAt_32 (by decide) ?_
        have hX_11 : F_Te_byteAt t_length c_tape k = ((-1 : Int32) : Int32) := by
          refine (F_Te_byteAt_s ..).trans ?_
          refine (if_neg c_1).trans ?_
          refine (if_neg c_5).trans ?_
          refine (if_pos c_9).trans ?_
          exact rfl
        exact hret _ _ _ _ _ _ () [0, 1] hP hD hS rfl (by decide) dX8_byteAt_33 ⟨(congrArg (fun z9 => z9) hX_11).symm, trivial⟩
      · have b_12 := z_b2 c_9 (K := 900) (by decide +kernel)
        refine lv_aload_n hx hb dX8_byteAt_19 rfl (lv_at hl 0 rfl) ?_
        refine va_get (D := G) (ci := 8) (v := .ref tape) (C := RX8) (T := TX8) (N := 11) hx hb hts inT8 hown hK hP 0 rfl rfl 0 (by decide) (hts _ tw_205) (fun _ h9 => h9) rfl dX8_byteAt_20 ?_
        refine lv_iload_n hx hb dX8_byteAt_23 rfl (lv_at hl 1 rfl) ?_
        refine va_bald hx hb hK hP 1 2 rfl rfl (z_inN (by omega) (by omega)) dX8_byteAt_24 ?_
        refine lv_topi (fun x_13 he_x_13 => ?_)
        refine lv_sipush (v := 255) hx hb dX8_byteAt_25 (by decide) ?_
        refine lv_iand hx hb dX8_byteAt_28 ?_
        refine lv_topi (fun x_14 he_x_14 => ?_)
        refine lv_goto (tgt := 33) hx hb dX8_byteAt_29 (by decide) ?_
        have hX_15 : F_Te_byteAt t_length c_tape k = (x_14 : Int32) := by
          refine (F_Te_byteAt_s ..).trans ?_
          refine (if_neg c_1).trans ?_
          refine (if_neg c_5).trans ?_
          refine (if_neg c_9).trans ?_
          try (extract_lets -merge -useContext +onlyGivenNames y9; have e9 : x_13 = y9 := (by first | exact he_x_13 | exact he_x_13.symm); clear_value y9; subst e9)
          try (extract_lets -merge -useContext +onlyGivenNames y9; have e9 : x_14 = y9 := (by first | exact he_x_14 | exact he_x_14.symm); clear_value y9; subst e9)
          exact rfl
        exact hret _ _ _ _ _ _ () [0, 1] hP hD hS rfl (by decide) dX8_byteAt_33 ⟨(congrArg (fun z9 => z9) hX_15).symm, trivial⟩
set_option maxHeartbeats 40000000 in
set_option maxRecDepth 100000 in
theorem d_Te_goesOn (l : Launch) (G : va_G) (cA : zCA) (t : Nat) (tape : Nat) (t_fed : Int32) (t_length : Int32) (t_kind : Int32) (t_start : Int32) (t_end : Int32) (t_number : Int32) (t_sign : Int32) (t_letters : Int64) (t_fault : Int32) (t_faultPlace : Int32) : zCi l yX8_goesOn cX8_goesOn 1 (some .boolean) ({ frames := 0, cells := 0, slots := 0, locals := 0 }) G cA [.ref t] [(t, .inr (8, [.ref tape, .int t_fed, .int t_length, .int t_kind, .int t_start, .int t_end, .int t_number, .int t_sign, .long t_letters, .int t_fault, .int t_faultPlace]))] (S := Unit) (fun (r : Int32) (u : Unit) => (r = (F_Te_goesOn t_kind t_fault)) ∧ (r = 0 ∨ r = 1)) (fun (u : Unit) => [(t, .inr (8, [.ref tape, .int t_fed, .int t_length, .int t_kind, .int t_start, .int t_end, .int t_number, .int t_sign, .long t_letters, .int t_fault, .int t_faultPlace]))]) 0 0 := by
  refine z_start2z (own := RX8) (by decide) (Nat.le_of_ble_eq_true rfl) rfl ?_
  intro p e s m args below meth c A ls Q hx hb hml hts hown hK hE hT hP hD hS hA hl hret
  have hl : lv_has ls 1 [(0, .ref t)] := hl
  refine lv_aload_n hx hb dX8_goesOn_0 rfl (lv_at hl 0 rfl) ?_
  refine va_get (D := G) (ci := 8) (v := .int t_fault) (C := RX8) (T := TX8) (N := 11) hx hb hts inT8 hown hK hP 0 rfl rfl 9 (by decide) (hts _ tw_218) (fun _ h9 => h9) rfl dX8_goesOn_1 ?_
  refine lv_if_ne (tgt := 18) hx hb dX8_goesOn_4 (by decide) (fun c_1 => ?_) (fun c_1 => ?_)
  · skip
    refine lv_iconst (v := 0) hx hb dX8_goesOn_18 (by decide) ?_
    have hX_3 : F_Te_goesOn t_kind t_fault = ((0 : Int32) : Int32) := by
      refine (F_Te_goesOn_s ..).trans ?_
      refine (if_neg c_1).trans ?_
      exact rfl
    exact hret _ _ _ _ _ _ () [0] hP hD hS rfl (by decide) dX8_goesOn_19 (Or.inl rfl) ⟨(congrArg (fun z9 => z9) hX_3).symm, (Or.inl rfl)⟩
  · skip
    refine lv_aload_n hx hb dX8_goesOn_7 rfl (lv_at hl 0 rfl) ?_
    refine va_get (D := G) (ci := 8) (v := .int t_kind) (C := RX8) (T := TX8) (N := 11) hx hb hts inT8 hown hK hP 0 rfl rfl 3 (by decide) (hts _ tw_209) (fun _ h9 => h9) rfl dX8_goesOn_8 ?_
    refine lv_if_eq (tgt := 18) hx hb dX8_goesOn_11 (by decide) (fun c_5 => ?_) (fun c_5 => ?_)
    · skip
      refine lv_iconst (v := 0) hx hb dX8_goesOn_18 (by decide) ?_
      have hX_7 : F_Te_goesOn t_kind t_fault = ((0 : Int32) : Int32) := by
        refine (F_Te_goesOn_s ..).trans ?_
        refine (if_pos c_1).trans ?_
        refine (if_pos c_5).trans ?_
        exact rfl
      exact hret _ _ _ _ _ _ () [0] hP hD hS rfl (by decide) dX8_goesOn_19 (Or.inl rfl) ⟨(congrArg (fun z9 => z9) hX_7).symm, (Or.inl rfl)⟩
    · skip
      refine lv_iconst (v := 1) hx hb dX8_goesOn_14 (by decide) ?_
      refine lv_goto (tgt := 19) hx hb dX8_goesOn_15 (by decide) ?_
      have hX_9 : F_Te_goesOn t_kind t_fault = ((1 : Int32) : Int32) := by
        refine (F_Te_goesOn_s ..).trans ?_
        refine (if_pos c_1).trans ?_
        refine (if_neg c_5).trans ?_
        exact rfl
      exact hret _ _ _ _ _ _ () [0] hP hD hS rfl (by decide) dX8_goesOn_19 (Or.inr rfl) ⟨(congrArg (fun z9 => z9) hX_9).symm, (Or.inr rfl)⟩
set_option maxHeartbeats 40000000 in
set_option maxRecDepth 100000 in
theorem d_Te_hasRoom (l : Launch) (G : va_G) (cA : zCA) (t : Nat) (tape : Nat) (t_fed : Int32) (t_length : Int32) (t_kind : Int32) (t_start : Int32) (t_end : Int32) (t_number : Int32) (t_sign : Int32) (t_letters : Int64) (t_fault : Int32) (t_faultPlace : Int32) (k : Int32) : zCi l yX8_hasRoom cX8_hasRoom 2 (some .boolean) ({ frames := 0, cells := 0, slots := 0, locals := 0 }) G cA [.ref t, .int k] [(t, .inr (8, [.ref tape, .int t_fed, .int t_length, .int t_kind, .int t_start, .int t_end, .int t_number, .int t_sign, .long t_letters, .int t_fault, .int t_faultPlace]))] (S := Unit) (fun (r : Int32) (u : Unit) => (r = (F_Te_hasRoom t_fed k)) ∧ (r = 0 ∨ r = 1)) (fun (u : Unit) => [(t, .inr (8, [.ref tape, .int t_fed, .int t_length, .int t_kind, .int t_start, .int t_end, .int t_number, .int t_sign, .long t_letters, .int t_fault, .int t_faultPlace]))]) 0 0 := by
  refine z_start2z (own := RX8) (by decide) (Nat.le_of_ble_eq_true rfl) rfl ?_
  intro p e s m args below meth c A ls Q hx hb hml hts hown hK hE hT hP hD hS hA hl hret
  have hl : lv_has ls 2 [(0, .ref t), (1, .int k)] := hl
  refine lv_aload_n hx hb dX8_hasRoom_0 rfl (lv_at hl 0 rfl) ?_
  refine va_get (D := G) (ci := 8) (v := .int t_fed) (C := RX8) (T := TX8) (N := 11) hx hb hts inT8 hown hK hP 0 rfl rfl 1 (by decide) (hts _ tw_206) (fun _ h9 => h9) rfl dX8_hasRoom_1 ?_
  refine lv_iload_n hx hb dX8_hasRoom_4 rfl (lv_at hl 1 rfl) ?_
  refine lv_iadd hx hb dX8_hasRoom_5 ?_
  refine lv_topi (fun x_1 he_x_1 => ?_)
  refine lv_sipush (v := 900) hx hb dX8_hasRoom_6 (by decide) ?_
  refine lv_icmp_gt (tgt := 16) hx hb dX8_hasRoom_9 (by decide) (fun c_2 => ?_) (fun c_2 => ?_)
  · have b_3 := z_b7 c_2 (K := 900) (by decide +kernel)
    refine lv_iconst (v := 0) hx hb dX8_hasRoom_16 (by decide) ?_
    have hX_4 : F_Te_hasRoom t_fed k = ((0 : Int32) : Int32) := by
      refine (F_Te_hasRoom_s ..).trans ?_
      try (extract_lets -merge -useContext +onlyGivenNames y9; have e9 : x_1 = y9 := (by first | exact he_x_1 | exact he_x_1.symm); clear_value y9; subst e9)
      refine (if_pos c_2).trans ?_
      exact rfl
    exact hret _ _ _ _ _ _ () [0] hP hD hS rfl (by decide) dX8_hasRoom_17 (Or.inl rfl) ⟨(congrArg (fun z9 => z9) hX_4).symm, (Or.inl rfl)⟩
  · have b_5 := z_b8 c_2 (K := 900) (by decide +kernel)
    refine lv_iconst (v := 1) hx hb dX8_hasRoom_12 (by decide) ?_
    refine lv_goto (tgt := 17) hx hb dX8_hasRoom_13 (by decide) ?_
    have hX_6 : F_Te_hasRoom t_fed k = ((1 : Int32) : Int32) := by
      refine (F_Te_hasRoom_s ..).trans ?_
      try (extract_lets -merge -useContext +onlyGivenNames y9; have e9 : x_1 = y9 := (by first | exact he_x_1 | exact he_x_1.symm); clear_value y9; subst e9)
      refine (if_neg c_2).trans ?_
      exact rfl
    exact hret _ _ _ _ _ _ () [0] hP hD hS rfl (by decide) dX8_hasRoom_17 (Or.inr rfl) ⟨(congrArg (fun z9 => z9) hX_6).symm, (Or.inr rfl)⟩
set_option maxHeartbeats 40000000 in
set_option maxRecDepth 100000 in
theorem d_Te_append (l : Launch) (G : va_G) (cA : zCA) (t : Nat) (tape : Nat) (t_fed : Int32) (t_length : Int32) (t_kind : Int32) (t_start : Int32) (t_end : Int32) (t_number : Int32) (t_sign : Int32) (t_letters : Int64) (t_fault : Int32) (t_faultPlace : Int32) (c_tape : Nat → Int32) (k : Int32) : zCv l yX8_append cX8_append 3 none ({ frames := 0, cells := 0, slots := 0, locals := 0 }) G cA [.ref t, .int k] [(t, .inr (8, [.ref tape, .int t_fed, .int t_length, .int t_kind, .int t_start, .int t_end, .int t_number, .int t_sign, .long t_letters, .int t_fault, .int t_faultPlace])), (tape, .inl (cA.1 2, 900, .inl c_tape))] (S := Int32 × (Nat → Int32)) (fun (u : Int32 × (Nat → Int32)) => (u.1 = (F_Te_append t_fed c_tape k).1) ∧ (u.2 = (F_Te_append t_fed c_tape k).2) ∧ (True)) (fun (u : Int32 × (Nat → Int32)) => [(t, .inr (8, [.ref tape, .int u.1, .int t_length, .int t_kind, .int t_start, .int t_end, .int t_number, .int t_sign, .long t_letters, .int t_fault, .int t_faultPlace])), (tape, .inl (cA.1 2, 900, .inl u.2))]) 0 0 := by
  refine z_start2v (own := RX8) (by decide) (Nat.le_of_ble_eq_true rfl) rfl ?_
  intro p e s m args below meth c A ls Q hx hb hml hts hown hK hE hT hP hD hS hA hl hret
  have hl : lv_has ls 3 [(0, .ref t), (1, .int k)] := hl
  refine lv_bipush (v := 24) hx hb dX8_append_0 (by decide) ?_
  refine lv_istore_n (lv' := [(2, .int 24), (0, .ref t), (1, .int k)]) hx hb dX8_append_2 rfl hl (by decide) rfl (fun ls hl => ?_)
  have hlp_40 : ∀ (n_L3a : Nat) (v_25 : Int32) (v_26 : Int32) (g_27 : Nat → Int32) (H : Heap) (locs : List Loc) (ls : Array Slot), (v_25.toInt + 2147483648).toNat < n_L3a → (24 ≥ v_25.toInt) → (F_Te_append t_fed c_tape k = F_Te_append_L3a k n_L3a v_25 v_26 g_27) → va_P G vwCl [(t, .inr (8, [.ref tape, .int v_26, .int t_length, .int t_kind, .int t_start, .int t_end, .int t_number, .int t_sign, .long t_letters, .int t_fault, .int t_faultPlace])), (tape, .inl (cA.1 2, 900, .inl g_27))] H → va_D A [(t, .inr (8, [.ref tape, .int v_26, .int t_length, .int t_kind, .int t_start, .int t_end, .int t_number, .int t_sign, .long t_letters, .int t_fault, .int t_faultPlace])), (tape, .inl (cA.1 2, 900, .inl g_27))] → va_S A s.heap H locs → lv_has ls 3 [(0, .ref t), (1, .int k), (2, .int v_25)] → W p l e ({ frames := 0, cells := 0, slots := 0, locals := 0 }) s m args below meth c H locs 0 0 Q (F0 m 3 ls []) := by
    intro n_L3a
    induction n_L3a with
    | zero =>
      intro v_25 v_26 g_27 H locs ls hmu_hlp_40 hi_41 hF_L3a hP hD hS hl
      exact absurd hmu_hlp_40 (Nat.not_lt_zero _)
    | succ n_L3a ih_42 =>
      intro v_25 v_26 g_27 H locs ls hmu_hlp_40 hi_41 hF_L3a hP hD hS hl
      refine lv_iload_n hx hb dX8_append_3 rfl (lv_at hl 2 rfl) ?_
      refine lv_if_lt (tgt := 53) hx hb dX8_append_4 (by decide) (fun c_43 => ?_) (fun c_43 => ?_)
      · have b_44 := z_b3 c_43 (K := 0) (by decide +kernel)
        have hX_45 : F_Te_append t_fed c_tape k = ((v_26, g_27) : Int32 × (Nat → Int32)) := by
          refine hF_L3a.trans ?_
          refine (F_Te_append_L3a_s ..).trans ?_
          refine (if_pos c_43).trans ?_
          exact rfl
        exact hret _ _ _ _ _ (v_26, g_27) [0, 1] hP hD hS rfl (by decide) dX8_append_53 ⟨(congrArg (fun z9 => z9.1) hX_45).symm, (congrArg (fun z9 => z9.2) hX_45).symm, trivial⟩
      · have b_46 := z_b4 c_43 (K := 0) (by decide +kernel)
        refine lv_aload_n hx hb dX8_append_7 rfl (lv_at hl 0 rfl) ?_
        refine va_get (D := G) (ci := 8) (v := .int v_26) (C := RX8) (T := TX8) (N := 11) hx hb hts inT8 hown hK hP 0 rfl rfl 1 (by decide) (hts _ tw_206) (fun _ h9 => h9) rfl dX8_append_8 ?_
        refine lv_if_lt (tgt := 47) hx hb dX8_append_11 (by decide) (fun c_47 => ?_) (fun c_47 => ?_)
        · have b_48 := z_b3 c_47 (K := 0) (by decide +kernel)
          refine lv_iinc (v := (v_25 + (-8))) (lv' := [(2, .int (v_25 + (-8))), (0, .ref t), (1, .int k)]) hx hb dX8_append_47 hl (k := 2) rfl (z_ofi (by decide +kernel)) (by decide) rfl (fun ls hl => ?_)
          refine lv_goto (tgt := 3) hx hb dX8_append_50 (by decide) ?_
          have hX_49 : F_Te_append t_fed c_tape k = F_Te_append_L3a k n_L3a (v_25 + (-8)) v_26 g_27 := by
            refine hF_L3a.trans ?_
            refine (F_Te_append_L3a_s ..).trans ?_
            refine (if_neg c_43).trans ?_
            refine (if_pos c_47).trans ?_
            exact rfl
          exact ih_42 (v_25 + (-8)) v_26 g_27 H locs ls (z_dnk (K := -8) (by decide +kernel) (by omega) hmu_hlp_40 (by omega) (by omega)) (z_dnck (K := -8) (by decide +kernel) (by omega) hi_41 (by omega)) hX_49 hP hD hS (lv_sub hl [1, 2, 0] rfl)
        · have b_50 := z_b4 c_47 (K := 0) (by decide +kernel)
          refine lv_aload_n hx hb dX8_append_14 rfl (lv_at hl 0 rfl) ?_
          refine va_get (D := G) (ci := 8) (v := .int v_26) (C := RX8) (T := TX8) (N := 11) hx hb hts inT8 hown hK hP 0 rfl rfl 1 (by decide) (hts _ tw_206) (fun _ h9 => h9) rfl dX8_append_15 ?_
          refine lv_sipush (v := 900) hx hb dX8_append_18 (by decide) ?_
          refine lv_icmp_ge (tgt := 47) hx hb dX8_append_21 (by decide) (fun c_51 => ?_) (fun c_51 => ?_)
          · have b_52 := z_b1 c_51 (K := 900) (by decide +kernel)
            refine lv_iinc (v := (v_25 + (-8))) (lv' := [(2, .int (v_25 + (-8))), (0, .ref t), (1, .int k)]) hx hb dX8_append_47 hl (k := 2) rfl (z_ofi (by decide +kernel)) (by decide) rfl (fun ls hl => ?_)
            refine lv_goto (tgt := 3) hx hb dX8_append_50 (by decide) ?_
            have hX_53 : F_Te_append t_fed c_tape k = F_Te_append_L3a k n_L3a (v_25 + (-8)) v_26 g_27 := by
              refine hF_L3a.trans ?_
              refine (F_Te_append_L3a_s ..).trans ?_
              refine (if_neg c_43).trans ?_
              refine (if_neg c_47).trans ?_
              refine (if_pos c_51).trans ?_
              exact rfl
            exact ih_42 (v_25 + (-8)) v_26 g_27 H locs ls (z_dnk (K := -8) (by decide +kernel) (by omega) hmu_hlp_40 (by omega) (by omega)) (z_dnck (K := -8) (by decide +kernel) (by omega) hi_41 (by omega)) hX_53 hP hD hS (lv_sub hl [1, 2, 0] rfl)
          · have b_54 := z_b2 c_51 (K := 900) (by decide +kernel)
            refine lv_aload_n hx hb dX8_append_24 rfl (lv_at hl 0 rfl) ?_
            refine va_get (D := G) (ci := 8) (v := .ref tape) (C := RX8) (T := TX8) (N := 11) hx hb hts inT8 hown hK hP 0 rfl rfl 0 (by decide) (hts _ tw_205) (fun _ h9 => h9) rfl dX8_append_25 ?_
            refine lv_aload_n hx hb dX8_append_28 rfl (lv_at hl 0 rfl) ?_
            refine va_get (D := G) (ci := 8) (v := .int v_26) (C := RX8) (T := TX8) (N := 11) hx hb hts inT8 hown hK hP 0 rfl rfl 1 (by decide) (hts _ tw_206) (fun _ h9 => h9) rfl dX8_append_29 ?_
            refine lv_iload_n hx hb dX8_append_32 rfl (lv_at hl 1 rfl) ?_
            refine lv_iload_n hx hb dX8_append_33 rfl (lv_at hl 2 rfl) ?_
            refine lv_ishr hx hb dX8_append_34 ?_
            refine lv_topi (fun x_55 he_x_55 => ?_)
            refine lv_i2b (v := (x_55).toInt8.toInt32) hx hb dX8_append_35 rfl ?_
            refine lv_topi (fun x_56 he_x_56 => ?_)
            refine va_bast hx hb hK hP hD hS 1 2 rfl rfl (z_inN (by omega) (by omega)) dX8_append_36 (fun H locs hP hD hS => ?_)
            have hP : va_P G vwCl [(t, .inr (8, [.ref tape, .int v_26, .int t_length, .int t_kind, .int t_start, .int t_end, .int t_number, .int t_sign, .long t_letters, .int t_fault, .int t_faultPlace])), (tape, .inl (cA.1 2, 900, .inl (upd g_27 (v_26 : Int32).toNatClampNeg (vp_nar .byte x_56))))] H := hP
            have hD : va_D A [(t, .inr (8, [.ref tape, .int v_26, .int t_length, .int t_kind, .int t_start, .int t_end, .int t_number, .int t_sign, .long t_letters, .int t_fault, .int t_faultPlace])), (tape, .inl (cA.1 2, 900, .inl (upd g_27 (v_26 : Int32).toNatClampNeg (vp_nar .byte x_56))))] := hD
            generalize hg_g_57 : (upd g_27 (v_26 : Int32).toNatClampNeg (vp_nar .byte x_56)) = g_57 at hP hD
            refine lv_aload_n hx hb dX8_append_37 rfl (lv_at hl 0 rfl) ?_
            refine lv_dup hx hb dX8_append_38 rfl ?_
            refine va_get (D := G) (ci := 8) (v := .int v_26) (C := RX8) (T := TX8) (N := 11) hx hb hts inT8 hown hK hP 0 rfl rfl 1 (by decide) (hts _ tw_206) (fun _ h9 => h9) rfl dX8_append_39 ?_
            refine lv_iconst (v := 1) hx hb dX8_append_42 (by decide) ?_
            refine lv_iadd hx hb dX8_append_43 ?_
            refine va_put (D := G) (ci := 8) (v := .int (v_26 + 1)) (ty := .int) (C := RX8) (T := TX8) (N := 11) hx hb hts inT8 tyX8 tyX8_ok nmX8 hown hK hP hD hS 0 rfl rfl 1 (by decide) (hts _ tw_206) (fun _ h9 => h9) rfl (tyX8_ok 1 (by decide)) rfl rfl (Nat.le_of_ble_eq_true rfl) dX8_append_44 (fun H locs hP hD hS => ?_)
            have hP : va_P G vwCl [(t, .inr (8, [.ref tape, .int (v_26 + 1), .int t_length, .int t_kind, .int t_start, .int t_end, .int t_number, .int t_sign, .long t_letters, .int t_fault, .int t_faultPlace])), (tape, .inl (cA.1 2, 900, .inl g_57))] H := hP
            have hD : va_D A [(t, .inr (8, [.ref tape, .int (v_26 + 1), .int t_length, .int t_kind, .int t_start, .int t_end, .int t_number, .int t_sign, .long t_letters, .int t_fault, .int t_faultPlace])), (tape, .inl (cA.1 2, 900, .inl g_57))] := hD
            refine lv_iinc (v := (v_25 + (-8))) (lv' := [(2, .int (v_25 + (-8))), (0, .ref t), (1, .int k)]) hx hb dX8_append_47 hl (k := 2) rfl (z_ofi (by decide +kernel)) (by decide) rfl (fun ls hl => ?_)
            refine lv_goto (tgt := 3) hx hb dX8_append_50 (by decide) ?_
            have hX_58 : F_Te_append t_fed c_tape k = F_Te_append_L3a k n_L3a (v_25 + (-8)) (v_26 + 1) g_57 := by
              refine hF_L3a.trans ?_
              refine (F_Te_append_L3a_s ..).trans ?_
              refine (if_neg c_43).trans ?_
              refine (if_neg c_47).trans ?_
              refine (if_neg c_51).trans ?_
              try (extract_lets -merge -useContext +onlyGivenNames y9; have e9 : x_55 = y9 := (by first | exact he_x_55 | exact he_x_55.symm); clear_value y9; subst e9)
              try (extract_lets -merge -useContext +onlyGivenNames y9; have e9 : x_56 = y9 := (by first | exact he_x_56 | exact he_x_56.symm); clear_value y9; subst e9)
              try (extract_lets -merge -useContext +onlyGivenNames y9; have e9 : g_57 = y9 := (by first | exact hg_g_57 | exact hg_g_57.symm); clear_value y9; subst e9)
              exact rfl
            exact ih_42 (v_25 + (-8)) (v_26 + 1) g_57 H locs ls (z_dnk (K := -8) (by decide +kernel) (by omega) hmu_hlp_40 (by omega) (by omega)) (z_dnck (K := -8) (by decide +kernel) (by omega) hi_41 (by omega)) hX_58 hP hD hS (lv_sub hl [1, 2, 0] rfl)
  have hX_59 : F_Te_append t_fed c_tape k = F_Te_append_L3a k (((24 : Int32).toInt + 2147483648).toNat + 1) (24 : Int32) t_fed c_tape := by
    refine (F_Te_append_s ..).trans ?_
    exact rfl
  exact hlp_40 (((24 : Int32).toInt + 2147483648).toNat + 1) 24 t_fed c_tape _ _ _ (Nat.lt_succ_self _) (by first | decide +kernel | omega) hX_59 hP hD hS (lv_sub hl [1, 2, 0] rfl)
set_option maxHeartbeats 40000000 in
set_option maxRecDepth 100000 in
theorem d_Te_isBlank (l : Launch) (G : va_G) (cA : zCA) (k : Int32) : zCi l yX8_isBlank cX8_isBlank 1 (some .boolean) ({ frames := 0, cells := 0, slots := 0, locals := 0 }) G cA [.int k] [] (S := Unit) (fun (r : Int32) (u : Unit) => (r = (F_Te_isBlank k)) ∧ (r = 0 ∨ r = 1)) (fun (u : Unit) => []) 0 0 := by
  refine z_start2z (own := RX8) (by decide) (Nat.le_of_ble_eq_true rfl) rfl ?_
  intro p e s m args below meth c A ls Q hx hb hml hts hown hK hE hT hP hD hS hA hl hret
  have hl : lv_has ls 1 [(0, .int k)] := hl
  refine lv_iload_n hx hb dX8_isBlank_0 rfl (lv_at hl 0 rfl) ?_
  refine lv_bipush (v := 10) hx hb dX8_isBlank_1 (by decide) ?_
  refine lv_icmp_eq (tgt := 12) hx hb dX8_isBlank_3 (by decide) (fun c_1 => ?_) (fun c_1 => ?_)
  · skip
    refine lv_iconst (v := 1) hx hb dX8_isBlank_12 (by decide) ?_
    refine lv_goto (tgt := 17) hx hb dX8_isBlank_13 (by decide) ?_
    have hX_3 : F_Te_isBlank k = ((1 : Int32) : Int32) := by
      refine (F_Te_isBlank_s ..).trans ?_
      refine (if_pos c_1).trans ?_
      exact rfl
    exact hret _ _ _ _ _ _ () [] hP hD hS rfl (by decide) dX8_isBlank_17 (Or.inr rfl) ⟨(congrArg (fun z9 => z9) hX_3).symm, (Or.inr rfl)⟩
  · skip
    refine lv_iload_n hx hb dX8_isBlank_6 rfl (lv_at hl 0 rfl) ?_
    refine lv_bipush (v := 32) hx hb dX8_isBlank_7 (by decide) ?_
    refine lv_icmp_ne (tgt := 16) hx hb dX8_isBlank_9 (by decide) (fun c_5 => ?_) (fun c_5 => ?_)
    · skip
      refine lv_iconst (v := 0) hx hb dX8_isBlank_16 (by decide) ?_
      have hX_7 : F_Te_isBlank k = ((0 : Int32) : Int32) := by
        refine (F_Te_isBlank_s ..).trans ?_
        refine (if_neg c_1).trans ?_
        refine (if_neg c_5).trans ?_
        exact rfl
      exact hret _ _ _ _ _ _ () [] hP hD hS rfl (by decide) dX8_isBlank_17 (Or.inl rfl) ⟨(congrArg (fun z9 => z9) hX_7).symm, (Or.inl rfl)⟩
    · skip
      refine lv_iconst (v := 1) hx hb dX8_isBlank_12 (by decide) ?_
      refine lv_goto (tgt := 17) hx hb dX8_isBlank_13 (by decide) ?_
      have hX_9 : F_Te_isBlank k = ((1 : Int32) : Int32) := by
        refine (F_Te_isBlank_s ..).trans ?_
        refine (if_neg c_1).trans ?_
        refine (if_pos c_5).trans ?_
        exact rfl
      exact hret _ _ _ _ _ _ () [] hP hD hS rfl (by decide) dX8_isBlank_17 (Or.inr rfl) ⟨(congrArg (fun z9 => z9) hX_9).symm, (Or.inr rfl)⟩
set_option maxHeartbeats 40000000 in
set_option maxRecDepth 100000 in
theorem d_Te_isLetter (l : Launch) (G : va_G) (cA : zCA) (k : Int32) : zCi l yX8_isLetter cX8_isLetter 1 (some .boolean) ({ frames := 0, cells := 0, slots := 0, locals := 0 }) G cA [.int k] [] (S := Unit) (fun (r : Int32) (u : Unit) => (r = (F_Te_isLetter k)) ∧ (r = 0 ∨ r = 1)) (fun (u : Unit) => []) 0 0 := by
  refine z_start2z (own := RX8) (by decide) (Nat.le_of_ble_eq_true rfl) rfl ?_
  intro p e s m args below meth c A ls Q hx hb hml hts hown hK hE hT hP hD hS hA hl hret
  have hl : lv_has ls 1 [(0, .int k)] := hl
  refine lv_iload_n hx hb dX8_isLetter_0 rfl (lv_at hl 0 rfl) ?_
  refine lv_bipush (v := 97) hx hb dX8_isLetter_1 (by decide) ?_
  refine lv_icmp_lt (tgt := 16) hx hb dX8_isLetter_3 (by decide) (fun c_1 => ?_) (fun c_1 => ?_)
  · have b_2 := z_b3 c_1 (K := 97) (by decide +kernel)
    refine lv_iconst (v := 0) hx hb dX8_isLetter_16 (by decide) ?_
    have hX_3 : F_Te_isLetter k = ((0 : Int32) : Int32) := by
      refine (F_Te_isLetter_s ..).trans ?_
      refine (if_pos c_1).trans ?_
      exact rfl
    exact hret _ _ _ _ _ _ () [] hP hD hS rfl (by decide) dX8_isLetter_17 (Or.inl rfl) ⟨(congrArg (fun z9 => z9) hX_3).symm, (Or.inl rfl)⟩
  · have b_4 := z_b4 c_1 (K := 97) (by decide +kernel)
    refine lv_iload_n hx hb dX8_isLetter_6 rfl (lv_at hl 0 rfl) ?_
    refine lv_bipush (v := 122) hx hb dX8_isLetter_7 (by decide) ?_
    refine lv_icmp_gt (tgt := 16) hx hb dX8_isLetter_9 (by decide) (fun c_5 => ?_) (fun c_5 => ?_)
    · have b_6 := z_b7 c_5 (K := 122) (by decide +kernel)
      refine lv_iconst (v := 0) hx hb dX8_isLetter_16 (by decide) ?_
      have hX_7 : F_Te_isLetter k = ((0 : Int32) : Int32) := by
        refine (F_Te_isLetter_s ..).trans ?_
        refine (if_neg c_1).trans ?_
        refine (if_pos c_5).trans ?_
        exact rfl
      exact hret _ _ _ _ _ _ () [] hP hD hS rfl (by decide) dX8_isLetter_17 (Or.inl rfl) ⟨(congrArg (fun z9 => z9) hX_7).symm, (Or.inl rfl)⟩
    · have b_8 := z_b8 c_5 (K := 122) (by decide +kernel)
      refine lv_iconst (v := 1) hx hb dX8_isLetter_12 (by decide) ?_
      refine lv_goto (tgt := 17) hx hb dX8_isLetter_13 (by decide) ?_
      have hX_9 : F_Te_isLetter k = ((1 : Int32) : Int32) := by
        refine (F_Te_isLetter_s ..).trans ?_
        refine (if_neg c_1).trans ?_
        refine (if_neg c_5).trans ?_
        exact rfl
      exact hret _ _ _ _ _ _ () [] hP hD hS rfl (by decide) dX8_isLetter_17 (Or.inr rfl) ⟨(congrArg (fun z9 => z9) hX_9).symm, (Or.inr rfl)⟩
set_option maxHeartbeats 40000000 in
set_option maxRecDepth 100000 in
theorem d_Te_isDigit (l : Launch) (G : va_G) (cA : zCA) (k : Int32) : zCi l yX8_isDigit cX8_isDigit 1 (some .boolean) ({ frames := 0, cells := 0, slots := 0, locals := 0 }) G cA [.int k] [] (S := Unit) (fun (r : Int32) (u : Unit) => (r = (F_Te_isDigit k)) ∧ (r = 0 ∨ r = 1)) (fun (u : Unit) => []) 0 0 := by
  refine z_start2z (own := RX8) (by decide) (Nat.le_of_ble_eq_true rfl) rfl ?_
  intro p e s m args below meth c A ls Q hx hb hml hts hown hK hE hT hP hD hS hA hl hret
  have hl : lv_has ls 1 [(0, .int k)] := hl
  refine lv_iload_n hx hb dX8_isDigit_0 rfl (lv_at hl 0 rfl) ?_
  refine lv_bipush (v := 48) hx hb dX8_isDigit_1 (by decide) ?_
  refine lv_icmp_lt (tgt := 16) hx hb dX8_isDigit_3 (by decide) (fun c_1 => ?_) (fun c_1 => ?_)
  · have b_2 := z_b3 c_1 (K := 48) (by decide +kernel)
    refine lv_iconst (v := 0) hx hb dX8_isDigit_16 (by decide) ?_
    have hX_3 : F_Te_isDigit k = ((0 : Int32) : Int32) := by
      refine (F_Te_isDigit_s ..).trans ?_
      refine (if_pos c_1).trans ?_
      exact rfl
    exact hret _ _ _ _ _ _ () [] hP hD hS rfl (by decide) dX8_isDigit_17 (Or.inl rfl) ⟨(congrArg (fun z9 => z9) hX_3).symm, (Or.inl rfl)⟩
  · have b_4 := z_b4 c_1 (K := 48) (by decide +kernel)
    refine lv_iload_n hx hb dX8_isDigit_6 rfl (lv_at hl 0 rfl) ?_
    refine lv_bipush (v := 57) hx hb dX8_isDigit_7 (by decide) ?_
    refine lv_icmp_gt (tgt := 16) hx hb dX8_isDigit_9 (by decide) (fun c_5 => ?_) (fun c_5 => ?_)
    · have b_6 := z_b7 c_5 (K := 57) (by decide +kernel)
      refine lv_iconst (v := 0) hx hb dX8_isDigit_16 (by decide) ?_
      have hX_7 : F_Te_isDigit k = ((0 : Int32) : Int32) := by
        refine (F_Te_isDigit_s ..).trans ?_
        refine (if_neg c_1).trans ?_
        refine (if_pos c_5).trans ?_
        exact rfl
      exact hret _ _ _ _ _ _ () [] hP hD hS rfl (by decide) dX8_isDigit_17 (Or.inl rfl) ⟨(congrArg (fun z9 => z9) hX_7).symm, (Or.inl rfl)⟩
    · have b_8 := z_b8 c_5 (K := 57) (by decide +kernel)
      refine lv_iconst (v := 1) hx hb dX8_isDigit_12 (by decide) ?_
      refine lv_goto (tgt := 17) hx hb dX8_isDigit_13 (by decide) ?_
      have hX_9 : F_Te_isDigit k = ((1 : Int32) : Int32) := by
        refine (F_Te_isDigit_s ..).trans ?_
        refine (if_neg c_1).trans ?_
        refine (if_neg c_5).trans ?_
        exact rfl
      exact hret _ _ _ _ _ _ () [] hP hD hS rfl (by decide) dX8_isDigit_17 (Or.inr rfl) ⟨(congrArg (fun z9 => z9) hX_9).symm, (Or.inr rfl)⟩
set_option maxHeartbeats 40000000 in
set_option maxRecDepth 100000 in
theorem d_Te_isSignOf (l : Launch) (G : va_G) (cA : zCA) (k : Int32) : zCi l yX8_isSignOf cX8_isSignOf 1 (some .boolean) ({ frames := 0, cells := 0, slots := 0, locals := 0 }) G cA [.int k] [] (S := Unit) (fun (r : Int32) (u : Unit) => (r = (F_Te_isSignOf k)) ∧ (r = 0 ∨ r = 1)) (fun (u : Unit) => []) 0 0 := by
  refine z_start2z (own := RX8) (by decide) (Nat.le_of_ble_eq_true rfl) rfl ?_
  intro p e s m args below meth c A ls Q hx hb hml hts hown hK hE hT hP hD hS hA hl hret
  have hl : lv_has ls 1 [(0, .int k)] := hl
  refine lv_iload_n hx hb dX8_isSignOf_0 rfl (lv_at hl 0 rfl) ?_
  refine lv_bipush (v := 59) hx hb dX8_isSignOf_1 (by decide) ?_
  refine lv_icmp_eq (tgt := 24) hx hb dX8_isSignOf_3 (by decide) (fun c_1 => ?_) (fun c_1 => ?_)
  · skip
    refine lv_iconst (v := 1) hx hb dX8_isSignOf_24 (by decide) ?_
    refine lv_goto (tgt := 29) hx hb dX8_isSignOf_25 (by decide) ?_
    have hX_3 : F_Te_isSignOf k = ((1 : Int32) : Int32) := by
      refine (F_Te_isSignOf_s ..).trans ?_
      refine (if_pos c_1).trans ?_
      exact rfl
    exact hret _ _ _ _ _ _ () [] hP hD hS rfl (by decide) dX8_isSignOf_29 (Or.inr rfl) ⟨(congrArg (fun z9 => z9) hX_3).symm, (Or.inr rfl)⟩
  · skip
    refine lv_iload_n hx hb dX8_isSignOf_6 rfl (lv_at hl 0 rfl) ?_
    refine lv_bipush (v := 60) hx hb dX8_isSignOf_7 (by decide) ?_
    refine lv_icmp_eq (tgt := 24) hx hb dX8_isSignOf_9 (by decide) (fun c_5 => ?_) (fun c_5 => ?_)
    · skip
      refine lv_iconst (v := 1) hx hb dX8_isSignOf_24 (by decide) ?_
      refine lv_goto (tgt := 29) hx hb dX8_isSignOf_25 (by decide) ?_
      have hX_7 : F_Te_isSignOf k = ((1 : Int32) : Int32) := by
        refine (F_Te_isSignOf_s ..).trans ?_
        refine (if_neg c_1).trans ?_
        refine (if_pos c_5).trans ?_
        exact rfl
      exact hret _ _ _ _ _ _ () [] hP hD hS rfl (by decide) dX8_isSignOf_29 (Or.inr rfl) ⟨(congrArg (fun z9 => z9) hX_7).symm, (Or.inr rfl)⟩
    · skip
      refine lv_iload_n hx hb dX8_isSignOf_12 rfl (lv_at hl 0 rfl) ?_
      refine lv_bipush (v := 62) hx hb dX8_isSignOf_13 (by decide) ?_
      refine lv_icmp_eq (tgt := 24) hx hb dX8_isSignOf_15 (by decide) (fun c_9 => ?_) (fun c_9 => ?_)
      · skip
        refine lv_iconst (v := 1) hx hb dX8_isSignOf_24 (by decide) ?_
        refine lv_goto (tgt := 29) hx hb dX8_isSignOf_25 (by decide) ?_
        have hX_11 : F_Te_isSignOf k = ((1 : Int32) : Int32) := by
          refine (F_Te_isSignOf_s ..).trans ?_
          refine (if_neg c_1).trans ?_
          refine (if_neg c_5).trans ?_
          refine (if_pos c_9).trans ?_
          exact rfl
        exact hret _ _ _ _ _ _ () [] hP hD hS rfl (by decide) dX8_isSignOf_29 (Or.inr rfl) ⟨(congrArg (fun z9 => z9) hX_11).symm, (Or.inr rfl)⟩
      · skip
        refine lv_iload_n hx hb dX8_isSignOf_18 rfl (lv_at hl 0 rfl) ?_
        refine lv_bipush (v := 61) hx hb dX8_isSignOf_19 (by decide) ?_
        refine lv_icmp_ne (tgt := 28) hx hb dX8_isSignOf_21 (by decide) (fun c_13 => ?_) (fun c_13 => ?_)
        · skip
          refine lv_iconst (v := 0) hx hb dX8_isSignOf_28 (by decide) ?_
          have hX_15 : F_Te_isSignOf k = ((0 : Int32) : Int32) := by
            refine (F_Te_isSignOf_s ..).trans ?_
            refine (if_neg c_1).trans ?_
            refine (if_neg c_5).trans ?_
            refine (if_neg c_9).trans ?_
            refine (if_neg c_13).trans ?_
            exact rfl
          exact hret _ _ _ _ _ _ () [] hP hD hS rfl (by decide) dX8_isSignOf_29 (Or.inl rfl) ⟨(congrArg (fun z9 => z9) hX_15).symm, (Or.inl rfl)⟩
        · skip
          refine lv_iconst (v := 1) hx hb dX8_isSignOf_24 (by decide) ?_
          refine lv_goto (tgt := 29) hx hb dX8_isSignOf_25 (by decide) ?_
          have hX_17 : F_Te_isSignOf k = ((1 : Int32) : Int32) := by
            refine (F_Te_isSignOf_s ..).trans ?_
            refine (if_neg c_1).trans ?_
            refine (if_neg c_5).trans ?_
            refine (if_neg c_9).trans ?_
            refine (if_pos c_13).trans ?_
            exact rfl
          exact hret _ _ _ _ _ _ () [] hP hD hS rfl (by decide) dX8_isSignOf_29 (Or.inr rfl) ⟨(congrArg (fun z9 => z9) hX_17).symm, (Or.inr rfl)⟩
set_option maxHeartbeats 40000000 in
set_option maxRecDepth 100000 in
theorem d_Te_readLetters (l : Launch) (G : va_G) (cA : zCA) (t : Nat) (tape : Nat) (t_fed : Int32) (t_length : Int32) (t_kind : Int32) (t_start : Int32) (t_end : Int32) (t_number : Int32) (t_sign : Int32) (t_letters : Int64) (t_fault : Int32) (t_faultPlace : Int32) (c_tape : Nat → Int32) : zCv l yX8_readLetters cX8_readLetters 1 none ({ frames := 1, cells := 0, slots := 0, locals := 21 }) G cA [.ref t] [(t, .inr (8, [.ref tape, .int t_fed, .int t_length, .int t_kind, .int t_start, .int t_end, .int t_number, .int t_sign, .long t_letters, .int t_fault, .int t_faultPlace])), (tape, .inl (cA.1 2, 900, .inl c_tape))] (S := Int32 × Int64) (fun (u : Int32 × Int64) => (u.1 = (F_Te_readLetters t_length t_start t_end c_tape).1) ∧ (u.2 = (F_Te_readLetters t_length t_start t_end c_tape).2) ∧ (True)) (fun (u : Int32 × Int64) => [(t, .inr (8, [.ref tape, .int t_fed, .int t_length, .int t_kind, .int t_start, .int u.1, .int t_number, .int t_sign, .long u.2, .int t_fault, .int t_faultPlace])), (tape, .inl (cA.1 2, 900, .inl c_tape))]) 0 0 := by
  refine z_start2v (own := RX8) (by decide) (Nat.le_of_ble_eq_true rfl) rfl ?_
  intro p e s m args below meth c A ls Q hx hb hml hts hown hK hE hT hP hD hS hA hl hret
  have hl : lv_has ls 1 [(0, .ref t)] := hl
  refine lv_aload_n hx hb dX8_readLetters_0 rfl (lv_at hl 0 rfl) ?_
  refine lv_lconst (v := 0) hx hb dX8_readLetters_1 (by decide) ?_
  refine va_put (D := G) (ci := 8) (v := .long 0) (ty := .long) (C := RX8) (T := TX8) (N := 11) hx hb hts inT8 tyX8 tyX8_ok nmX8 hown hK hP hD hS 0 rfl rfl 8 (by decide) (hts _ tw_217) (fun _ h9 => h9) rfl (tyX8_ok 8 (by decide)) rfl rfl (Nat.le_of_ble_eq_true rfl) dX8_readLetters_2 (fun H locs hP hD hS => ?_)
  have hP : va_P G vwCl [(t, .inr (8, [.ref tape, .int t_fed, .int t_length, .int t_kind, .int t_start, .int t_end, .int t_number, .int t_sign, .long 0, .int t_fault, .int t_faultPlace])), (tape, .inl (cA.1 2, 900, .inl c_tape))] H := hP
  have hD : va_D A [(t, .inr (8, [.ref tape, .int t_fed, .int t_length, .int t_kind, .int t_start, .int t_end, .int t_number, .int t_sign, .long 0, .int t_fault, .int t_faultPlace])), (tape, .inl (cA.1 2, 900, .inl c_tape))] := hD
  have hlp_84 : ∀ (n_L5a : Nat) (v_50 : Int32) (v_51 : Int64) (H : Heap) (locs : List Loc) (ls : Array Slot), (2147483647 - v_50.toInt).toNat < n_L5a → (F_Te_readLetters t_length t_start t_end c_tape = F_Te_readLetters_L5a t_length t_start c_tape n_L5a v_50 v_51) → va_P G vwCl [(t, .inr (8, [.ref tape, .int t_fed, .int t_length, .int t_kind, .int t_start, .int v_50, .int t_number, .int t_sign, .long v_51, .int t_fault, .int t_faultPlace])), (tape, .inl (cA.1 2, 900, .inl c_tape))] H → va_D A [(t, .inr (8, [.ref tape, .int t_fed, .int t_length, .int t_kind, .int t_start, .int v_50, .int t_number, .int t_sign, .long v_51, .int t_fault, .int t_faultPlace])), (tape, .inl (cA.1 2, 900, .inl c_tape))] → va_S A s.heap H locs → lv_has ls 1 [(0, .ref t)] → W p l e ({ frames := 1, cells := 0, slots := 0, locals := 21 }) s m args below meth c H locs 0 0 Q (F0 m 5 ls []) := by
    intro n_L5a
    induction n_L5a with
    | zero =>
      intro v_50 v_51 H locs ls hmu_hlp_84 hF_L5a hP hD hS hl
      exact absurd hmu_hlp_84 (Nat.not_lt_zero _)
    | succ n_L5a ih_85 =>
      intro v_50 v_51 H locs ls hmu_hlp_84 hF_L5a hP hD hS hl
      refine lv_aload_n hx hb dX8_readLetters_5 rfl (lv_at hl 0 rfl) ?_
      refine va_get (D := G) (ci := 8) (v := .int v_50) (C := RX8) (T := TX8) (N := 11) hx hb hts inT8 hown hK hP 0 rfl rfl 5 (by decide) (hts _ tw_211) (fun _ h9 => h9) rfl dX8_readLetters_6 ?_
      refine lv_aload_n hx hb dX8_readLetters_9 rfl (lv_at hl 0 rfl) ?_
      refine va_get (D := G) (ci := 8) (v := .int t_length) (C := RX8) (T := TX8) (N := 11) hx hb hts inT8 hown hK hP 0 rfl rfl 2 (by decide) (hts _ tw_208) (fun _ h9 => h9) rfl dX8_readLetters_10 ?_
      refine lv_icmp_ge (tgt := 85) hx hb dX8_readLetters_13 (by decide) (fun c_86 => ?_) (fun c_86 => ?_)
      · have b_87 := z_s1 c_86
        refine lv_aload_n hx hb dX8_readLetters_85 rfl (lv_at hl 0 rfl) ?_
        refine va_get (D := G) (ci := 8) (v := .int v_50) (C := RX8) (T := TX8) (N := 11) hx hb hts inT8 hown hK hP 0 rfl rfl 5 (by decide) (hts _ tw_211) (fun _ h9 => h9) rfl dX8_readLetters_86 ?_
        refine lv_aload_n hx hb dX8_readLetters_89 rfl (lv_at hl 0 rfl) ?_
        refine va_get (D := G) (ci := 8) (v := .int t_start) (C := RX8) (T := TX8) (N := 11) hx hb hts inT8 hown hK hP 0 rfl rfl 4 (by decide) (hts _ tw_210) (fun _ h9 => h9) rfl dX8_readLetters_90 ?_
        refine lv_isub hx hb dX8_readLetters_93 ?_
        refine lv_topi (fun x_88 he_x_88 => ?_)
        refine lv_bipush (v := 8) hx hb dX8_readLetters_94 (by decide) ?_
        refine lv_icmp_le (tgt := 104) hx hb dX8_readLetters_96 (by decide) (fun c_89 => ?_) (fun c_89 => ?_)
        · have b_90 := z_b5 c_89 (K := 8) (by decide +kernel)
          have hX_91 : F_Te_readLetters t_length t_start t_end c_tape = ((v_50, v_51) : Int32 × Int64) := by
            refine hF_L5a.trans ?_
            refine (F_Te_readLetters_L5a_s ..).trans ?_
            refine (if_pos c_86).trans ?_
            try (extract_lets -merge -useContext +onlyGivenNames y9; have e9 : x_88 = y9 := (by first | exact he_x_88 | exact he_x_88.symm); clear_value y9; subst e9)
            refine (if_pos c_89).trans ?_
            exact rfl
          exact hret _ _ _ _ _ (v_50, v_51) [0, 1] hP hD hS rfl (by decide) dX8_readLetters_104 ⟨(congrArg (fun z9 => z9.1) hX_91).symm, (congrArg (fun z9 => z9.2) hX_91).symm, trivial⟩
        · have b_92 := z_b6 c_89 (K := 8) (by decide +kernel)
          refine lv_aload_n hx hb dX8_readLetters_99 rfl (lv_at hl 0 rfl) ?_
          refine lv_lconst (v := 0) hx hb dX8_readLetters_100 (by decide) ?_
          refine va_put (D := G) (ci := 8) (v := .long 0) (ty := .long) (C := RX8) (T := TX8) (N := 11) hx hb hts inT8 tyX8 tyX8_ok nmX8 hown hK hP hD hS 0 rfl rfl 8 (by decide) (hts _ tw_217) (fun _ h9 => h9) rfl (tyX8_ok 8 (by decide)) rfl rfl (Nat.le_of_ble_eq_true rfl) dX8_readLetters_101 (fun H locs hP hD hS => ?_)
          have hP : va_P G vwCl [(t, .inr (8, [.ref tape, .int t_fed, .int t_length, .int t_kind, .int t_start, .int v_50, .int t_number, .int t_sign, .long 0, .int t_fault, .int t_faultPlace])), (tape, .inl (cA.1 2, 900, .inl c_tape))] H := hP
          have hD : va_D A [(t, .inr (8, [.ref tape, .int t_fed, .int t_length, .int t_kind, .int t_start, .int v_50, .int t_number, .int t_sign, .long 0, .int t_fault, .int t_faultPlace])), (tape, .inl (cA.1 2, 900, .inl c_tape))] := hD
          have hX_93 : F_Te_readLetters t_length t_start t_end c_tape = ((v_50, (0 : Int64)) : Int32 × Int64) := by
            refine hF_L5a.trans ?_
            refine (F_Te_readLetters_L5a_s ..).trans ?_
            refine (if_pos c_86).trans ?_
            try (extract_lets -merge -useContext +onlyGivenNames y9; have e9 : x_88 = y9 := (by first | exact he_x_88 | exact he_x_88.symm); clear_value y9; subst e9)
            refine (if_neg c_89).trans ?_
            exact rfl
          exact hret _ _ _ _ _ (v_50, 0) [0, 1] hP hD hS rfl (by decide) dX8_readLetters_104 ⟨(congrArg (fun z9 => z9.1) hX_93).symm, (congrArg (fun z9 => z9.2) hX_93).symm, trivial⟩
      · have b_94 := z_t2 c_86
        refine lv_aload_n hx hb dX8_readLetters_16 rfl (lv_at hl 0 rfl) ?_
        refine lv_aload_n hx hb dX8_readLetters_17 rfl (lv_at hl 0 rfl) ?_
        refine va_get (D := G) (ci := 8) (v := .int v_50) (C := RX8) (T := TX8) (N := 11) hx hb hts inT8 hown hK hP 0 rfl rfl 5 (by decide) (hts _ tw_211) (fun _ h9 => h9) rfl dX8_readLetters_18 ?_
        refine z_callVi (As := [.int v_50]) (rest := []) (wr := []) ⟨hx, hb, hml, hown, hts⟩ hK hE hT hP hD hS hA (d_Te_byteAt l G cA t tape t_fed t_length t_kind t_start v_50 t_number t_sign v_51 t_fault t_faultPlace c_tape v_50) lk_RX8_40 ⟨rfl, rfl⟩ ⟨Nat.le_of_ble_eq_true rfl, Nat.le_of_ble_eq_true rfl⟩ 8 rfl rfl rfl [0, 1] [] rfl rfl (by decide) rfl hl.1 rfl (lv_room (Nat.le_of_ble_eq_true rfl)) dX8_readLetters_21 ⟨Nat.le_of_ble_eq_true rfl, Nat.le_of_ble_eq_true rfl⟩ (fun r_95 u_96 H locs hw hP hD hS => ?_)
        have hP : va_P G vwCl [(t, .inr (8, [.ref tape, .int t_fed, .int t_length, .int t_kind, .int t_start, .int v_50, .int t_number, .int t_sign, .long v_51, .int t_fault, .int t_faultPlace])), (tape, .inl (cA.1 2, 900, .inl c_tape))] H := hP
        have hD : va_D A [(t, .inr (8, [.ref tape, .int t_fed, .int t_length, .int t_kind, .int t_start, .int v_50, .int t_number, .int t_sign, .long v_51, .int t_fault, .int t_faultPlace])), (tape, .inl (cA.1 2, 900, .inl c_tape))] := hD
        obtain ⟨he_r_95, hw⟩ := hw
        refine z_callSi (As := [.int r_95]) (rest := []) (wr := [(t, .inr (8, [.ref tape, .int t_fed, .int t_length, .int t_kind, .int t_start, .int v_50, .int t_number, .int t_sign, .long v_51, .int t_fault, .int t_faultPlace])), (tape, .inl (cA.1 2, 900, .inl c_tape))]) ⟨hx, hb, hml, hown, hts⟩ hK hE hT hP hD hS hA (d_Te_isLetter l G cA r_95) lk_RX8_48 ⟨rfl, rfl⟩ ⟨Nat.le_of_ble_eq_true rfl, Nat.le_of_ble_eq_true rfl⟩ [] [0, 1] rfl rfl (by decide) rfl hl.1 rfl (lv_room (Nat.le_of_ble_eq_true rfl)) dX8_readLetters_24 ⟨Nat.le_of_ble_eq_true rfl, Nat.le_of_ble_eq_true rfl⟩ (fun r_98 u_99 H locs hw hP hD hS => ?_)
        have hP : va_P G vwCl [(t, .inr (8, [.ref tape, .int t_fed, .int t_length, .int t_kind, .int t_start, .int v_50, .int t_number, .int t_sign, .long v_51, .int t_fault, .int t_faultPlace])), (tape, .inl (cA.1 2, 900, .inl c_tape))] H := hP
        have hD : va_D A [(t, .inr (8, [.ref tape, .int t_fed, .int t_length, .int t_kind, .int t_start, .int v_50, .int t_number, .int t_sign, .long v_51, .int t_fault, .int t_faultPlace])), (tape, .inl (cA.1 2, 900, .inl c_tape))] := hD
        obtain ⟨he_r_98, hw⟩ := hw
        have hz_r_98 := hw
        refine lv_if_eq (tgt := 85) hx hb dX8_readLetters_27 (by decide) (fun c_101 => ?_) (fun c_101 => ?_)
        · skip
          refine lv_aload_n hx hb dX8_readLetters_85 rfl (lv_at hl 0 rfl) ?_
          refine va_get (D := G) (ci := 8) (v := .int v_50) (C := RX8) (T := TX8) (N := 11) hx hb hts inT8 hown hK hP 0 rfl rfl 5 (by decide) (hts _ tw_211) (fun _ h9 => h9) rfl dX8_readLetters_86 ?_
          refine lv_aload_n hx hb dX8_readLetters_89 rfl (lv_at hl 0 rfl) ?_
          refine va_get (D := G) (ci := 8) (v := .int t_start) (C := RX8) (T := TX8) (N := 11) hx hb hts inT8 hown hK hP 0 rfl rfl 4 (by decide) (hts _ tw_210) (fun _ h9 => h9) rfl dX8_readLetters_90 ?_
          refine lv_isub hx hb dX8_readLetters_93 ?_
          refine lv_topi (fun x_103 he_x_103 => ?_)
          refine lv_bipush (v := 8) hx hb dX8_readLetters_94 (by decide) ?_
          refine lv_icmp_le (tgt := 104) hx hb dX8_readLetters_96 (by decide) (fun c_104 => ?_) (fun c_104 => ?_)
          · have b_105 := z_b5 c_104 (K := 8) (by decide +kernel)
            have hX_106 : F_Te_readLetters t_length t_start t_end c_tape = ((v_50, v_51) : Int32 × Int64) := by
              refine hF_L5a.trans ?_
              refine (F_Te_readLetters_L5a_s ..).trans ?_
              refine (if_neg c_86).trans ?_
              extract_lets -merge -useContext +onlyGivenNames w9 y9; have e9 : r_95 = w9 := he_r_95; clear_value w9; subst e9
              extract_lets -merge -useContext +onlyGivenNames w9 y9; have e9 : r_98 = w9 := he_r_98; clear_value w9; subst e9
              refine (if_pos c_101).trans ?_
              try (extract_lets -merge -useContext +onlyGivenNames y9; have e9 : x_103 = y9 := (by first | exact he_x_103 | exact he_x_103.symm); clear_value y9; subst e9)
              refine (if_pos c_104).trans ?_
              exact rfl
            exact hret _ _ _ _ _ (v_50, v_51) [0, 1] hP hD hS rfl (by decide) dX8_readLetters_104 ⟨(congrArg (fun z9 => z9.1) hX_106).symm, (congrArg (fun z9 => z9.2) hX_106).symm, trivial⟩
          · have b_107 := z_b6 c_104 (K := 8) (by decide +kernel)
            refine lv_aload_n hx hb dX8_readLetters_99 rfl (lv_at hl 0 rfl) ?_
            refine lv_lconst (v := 0) hx hb dX8_readLetters_100 (by decide) ?_
            refine va_put (D := G) (ci := 8) (v := .long 0) (ty := .long) (C := RX8) (T := TX8) (N := 11) hx hb hts inT8 tyX8 tyX8_ok nmX8 hown hK hP hD hS 0 rfl rfl 8 (by decide) (hts _ tw_217) (fun _ h9 => h9) rfl (tyX8_ok 8 (by decide)) rfl rfl (Nat.le_of_ble_eq_true rfl) dX8_readLetters_101 (fun H locs hP hD hS => ?_)
            have hP : va_P G vwCl [(t, .inr (8, [.ref tape, .int t_fed, .int t_length, .int t_kind, .int t_start, .int v_50, .int t_number, .int t_sign, .long 0, .int t_fault, .int t_faultPlace])), (tape, .inl (cA.1 2, 900, .inl c_tape))] H := hP
            have hD : va_D A [(t, .inr (8, [.ref tape, .int t_fed, .int t_length, .int t_kind, .int t_start, .int v_50, .int t_number, .int t_sign, .long 0, .int t_fault, .int t_faultPlace])), (tape, .inl (cA.1 2, 900, .inl c_tape))] := hD
            have hX_108 : F_Te_readLetters t_length t_start t_end c_tape = ((v_50, (0 : Int64)) : Int32 × Int64) := by
              refine hF_L5a.trans ?_
              refine (F_Te_readLetters_L5a_s ..).trans ?_
              refine (if_neg c_86).trans ?_
              extract_lets -merge -useContext +onlyGivenNames w9 y9; have e9 : r_95 = w9 := he_r_95; clear_value w9; subst e9
              extract_lets -merge -useContext +onlyGivenNames w9 y9; have e9 : r_98 = w9 := he_r_98; clear_value w9; subst e9
              refine (if_pos c_101).trans ?_
              try (extract_lets -merge -useContext +onlyGivenNames y9; have e9 : x_103 = y9 := (by first | exact he_x_103 | exact he_x_103.symm); clear_value y9; subst e9)
              refine (if_neg c_104).trans ?_
              exact rfl
            exact hret _ _ _ _ _ (v_50, 0) [0, 1] hP hD hS rfl (by decide) dX8_readLetters_104 ⟨(congrArg (fun z9 => z9.1) hX_108).symm, (congrArg (fun z9 => z9.2) hX_108).symm, trivial⟩
        · skip
          refine lv_aload_n hx hb dX8_readLetters_30 rfl (lv_at hl 0 rfl) ?_
          refine va_get (D := G) (ci := 8) (v := .int v_50) (C := RX8) (T := TX8) (N := 11) hx hb hts inT8 hown hK hP 0 rfl rfl 5 (by decide) (hts _ tw_211) (fun _ h9 => h9) rfl dX8_readLetters_31 ?_
          refine lv_aload_n hx hb dX8_readLetters_34 rfl (lv_at hl 0 rfl) ?_
          refine va_get (D := G) (ci := 8) (v := .int t_start) (C := RX8) (T := TX8) (N := 11) hx hb hts inT8 hown hK hP 0 rfl rfl 4 (by decide) (hts _ tw_210) (fun _ h9 => h9) rfl dX8_readLetters_35 ?_
          refine lv_isub hx hb dX8_readLetters_38 ?_
          refine lv_topi (fun x_110 he_x_110 => ?_)
          refine lv_bipush (v := 8) hx hb dX8_readLetters_39 (by decide) ?_
          refine lv_icmp_ge (tgt := 72) hx hb dX8_readLetters_41 (by decide) (fun c_111 => ?_) (fun c_111 => ?_)
          · have b_112 := z_b1 c_111 (K := 8) (by decide +kernel)
            refine lv_aload_n hx hb dX8_readLetters_72 rfl (lv_at hl 0 rfl) ?_
            refine lv_dup hx hb dX8_readLetters_73 rfl ?_
            refine va_get (D := G) (ci := 8) (v := .int v_50) (C := RX8) (T := TX8) (N := 11) hx hb hts inT8 hown hK hP 0 rfl rfl 5 (by decide) (hts _ tw_211) (fun _ h9 => h9) rfl dX8_readLetters_74 ?_
            refine lv_iconst (v := 1) hx hb dX8_readLetters_77 (by decide) ?_
            refine lv_iadd hx hb dX8_readLetters_78 ?_
            refine va_put (D := G) (ci := 8) (v := .int (v_50 + 1)) (ty := .int) (C := RX8) (T := TX8) (N := 11) hx hb hts inT8 tyX8 tyX8_ok nmX8 hown hK hP hD hS 0 rfl rfl 5 (by decide) (hts _ tw_211) (fun _ h9 => h9) rfl (tyX8_ok 5 (by decide)) rfl rfl (Nat.le_of_ble_eq_true rfl) dX8_readLetters_79 (fun H locs hP hD hS => ?_)
            have hP : va_P G vwCl [(t, .inr (8, [.ref tape, .int t_fed, .int t_length, .int t_kind, .int t_start, .int (v_50 + 1), .int t_number, .int t_sign, .long v_51, .int t_fault, .int t_faultPlace])), (tape, .inl (cA.1 2, 900, .inl c_tape))] H := hP
            have hD : va_D A [(t, .inr (8, [.ref tape, .int t_fed, .int t_length, .int t_kind, .int t_start, .int (v_50 + 1), .int t_number, .int t_sign, .long v_51, .int t_fault, .int t_faultPlace])), (tape, .inl (cA.1 2, 900, .inl c_tape))] := hD
            refine lv_goto (tgt := 5) hx hb dX8_readLetters_82 (by decide) ?_
            have hX_113 : F_Te_readLetters t_length t_start t_end c_tape = F_Te_readLetters_L5a t_length t_start c_tape n_L5a (v_50 + 1) v_51 := by
              refine hF_L5a.trans ?_
              refine (F_Te_readLetters_L5a_s ..).trans ?_
              refine (if_neg c_86).trans ?_
              extract_lets -merge -useContext +onlyGivenNames w9 y9; have e9 : r_95 = w9 := he_r_95; clear_value w9; subst e9
              extract_lets -merge -useContext +onlyGivenNames w9 y9; have e9 : r_98 = w9 := he_r_98; clear_value w9; subst e9
              refine (if_neg c_101).trans ?_
              try (extract_lets -merge -useContext +onlyGivenNames y9; have e9 : x_110 = y9 := (by first | exact he_x_110 | exact he_x_110.symm); clear_value y9; subst e9)
              refine (if_pos c_111).trans ?_
              exact rfl
            exact ih_85 (v_50 + 1) v_51 H locs ls (z_up hmu_hlp_84 (by omega) trivial) hX_113 hP hD hS (lv_sub hl [0] rfl)
          · have b_114 := z_b2 c_111 (K := 8) (by decide +kernel)
            refine lv_aload_n hx hb dX8_readLetters_44 rfl (lv_at hl 0 rfl) ?_
            refine lv_aload_n hx hb dX8_readLetters_45 rfl (lv_at hl 0 rfl) ?_
            refine va_get (D := G) (ci := 8) (v := .long v_51) (C := RX8) (T := TX8) (N := 11) hx hb hts inT8 hown hK hP 0 rfl rfl 8 (by decide) (hts _ tw_217) (fun _ h9 => h9) rfl dX8_readLetters_46 ?_
            refine lv_ldc2 (v := 32) hx hb hown (hts _ tw_838) dX8_readLetters_49 ?_
            refine lv_lmul hx hb dX8_readLetters_52 ?_
            refine lv_topl (fun x_115 he_x_115 => ?_)
            refine lv_aload_n hx hb dX8_readLetters_53 rfl (lv_at hl 0 rfl) ?_
            refine lv_aload_n hx hb dX8_readLetters_54 rfl (lv_at hl 0 rfl) ?_
            refine va_get (D := G) (ci := 8) (v := .int v_50) (C := RX8) (T := TX8) (N := 11) hx hb hts inT8 hown hK hP 0 rfl rfl 5 (by decide) (hts _ tw_211) (fun _ h9 => h9) rfl dX8_readLetters_55 ?_
            refine z_callVi (As := [.int v_50]) (rest := [.long x_115, .ref t]) (wr := []) ⟨hx, hb, hml, hown, hts⟩ hK hE hT hP hD hS hA (d_Te_byteAt l G cA t tape t_fed t_length t_kind t_start v_50 t_number t_sign v_51 t_fault t_faultPlace c_tape v_50) lk_RX8_40 ⟨rfl, rfl⟩ ⟨Nat.le_of_ble_eq_true rfl, Nat.le_of_ble_eq_true rfl⟩ 8 rfl rfl rfl [0, 1] [] rfl rfl (by decide) rfl hl.1 rfl (lv_room (Nat.le_of_ble_eq_true rfl)) dX8_readLetters_58 ⟨Nat.le_of_ble_eq_true rfl, Nat.le_of_ble_eq_true rfl⟩ (fun r_116 u_117 H locs hw hP hD hS => ?_)
            have hP : va_P G vwCl [(t, .inr (8, [.ref tape, .int t_fed, .int t_length, .int t_kind, .int t_start, .int v_50, .int t_number, .int t_sign, .long v_51, .int t_fault, .int t_faultPlace])), (tape, .inl (cA.1 2, 900, .inl c_tape))] H := hP
            have hD : va_D A [(t, .inr (8, [.ref tape, .int t_fed, .int t_length, .int t_kind, .int t_start, .int v_50, .int t_number, .int t_sign, .long v_51, .int t_fault, .int t_faultPlace])), (tape, .inl (cA.1 2, 900, .inl c_tape))] := hD
            obtain ⟨he_r_116, hw⟩ := hw
            refine lv_i2l (v := (r_116).toInt64) hx hb dX8_readLetters_61 rfl ?_
            refine lv_topl (fun x_119 he_x_119 => ?_)
            refine lv_ladd hx hb dX8_readLetters_62 ?_
            refine lv_topl (fun x_120 he_x_120 => ?_)
            refine lv_ldc2 (v := 97) hx hb hown (hts _ tw_839) dX8_readLetters_63 ?_
            refine lv_lsub hx hb dX8_readLetters_66 ?_
            refine lv_topl (fun x_121 he_x_121 => ?_)
            refine lv_lconst (v := 1) hx hb dX8_readLetters_67 (by decide) ?_
            refine lv_ladd hx hb dX8_readLetters_68 ?_
            refine lv_topl (fun x_122 he_x_122 => ?_)
            refine va_put (D := G) (ci := 8) (v := .long x_122) (ty := .long) (C := RX8) (T := TX8) (N := 11) hx hb hts inT8 tyX8 tyX8_ok nmX8 hown hK hP hD hS 0 rfl rfl 8 (by decide) (hts _ tw_217) (fun _ h9 => h9) rfl (tyX8_ok 8 (by decide)) rfl rfl (Nat.le_of_ble_eq_true rfl) dX8_readLetters_69 (fun H locs hP hD hS => ?_)
            have hP : va_P G vwCl [(t, .inr (8, [.ref tape, .int t_fed, .int t_length, .int t_kind, .int t_start, .int v_50, .int t_number, .int t_sign, .long x_122, .int t_fault, .int t_faultPlace])), (tape, .inl (cA.1 2, 900, .inl c_tape))] H := hP
            have hD : va_D A [(t, .inr (8, [.ref tape, .int t_fed, .int t_length, .int t_kind, .int t_start, .int v_50, .int t_number, .int t_sign, .long x_122, .int t_fault, .int t_faultPlace])), (tape, .inl (cA.1 2, 900, .inl c_tape))] := hD
            refine lv_aload_n hx hb dX8_readLetters_72 rfl (lv_at hl 0 rfl) ?_
            refine lv_dup hx hb dX8_readLetters_73 rfl ?_
            refine va_get (D := G) (ci := 8) (v := .int v_50) (C := RX8) (T := TX8) (N := 11) hx hb hts inT8 hown hK hP 0 rfl rfl 5 (by decide) (hts _ tw_211) (fun _ h9 => h9) rfl dX8_readLetters_74 ?_
            refine lv_iconst (v := 1) hx hb dX8_readLetters_77 (by decide) ?_
            refine lv_iadd hx hb dX8_readLetters_78 ?_
            refine va_put (D := G) (ci := 8) (v := .int (v_50 + 1)) (ty := .int) (C := RX8) (T := TX8) (N := 11) hx hb hts inT8 tyX8 tyX8_ok nmX8 hown hK hP hD hS 0 rfl rfl 5 (by decide) (hts _ tw_211) (fun _ h9 => h9) rfl (tyX8_ok 5 (by decide)) rfl rfl (Nat.le_of_ble_eq_true rfl) dX8_readLetters_79 (fun H locs hP hD hS => ?_)
            have hP : va_P G vwCl [(t, .inr (8, [.ref tape, .int t_fed, .int t_length, .int t_kind, .int t_start, .int (v_50 + 1), .int t_number, .int t_sign, .long x_122, .int t_fault, .int t_faultPlace])), (tape, .inl (cA.1 2, 900, .inl c_tape))] H := hP
            have hD : va_D A [(t, .inr (8, [.ref tape, .int t_fed, .int t_length, .int t_kind, .int t_start, .int (v_50 + 1), .int t_number, .int t_sign, .long x_122, .int t_fault, .int t_faultPlace])), (tape, .inl (cA.1 2, 900, .inl c_tape))] := hD
            refine lv_goto (tgt := 5) hx hb dX8_readLetters_82 (by decide) ?_
            have hX_123 : F_Te_readLetters t_length t_start t_end c_tape = F_Te_readLetters_L5a t_length t_start c_tape n_L5a (v_50 + 1) x_122 := by
              refine hF_L5a.trans ?_
              refine (F_Te_readLetters_L5a_s ..).trans ?_
              refine (if_neg c_86).trans ?_
              extract_lets -merge -useContext +onlyGivenNames w9 y9; have e9 : r_95 = w9 := he_r_95; clear_value w9; subst e9
              extract_lets -merge -useContext +onlyGivenNames w9 y9; have e9 : r_98 = w9 := he_r_98; clear_value w9; subst e9
              refine (if_neg c_101).trans ?_
              try (extract_lets -merge -useContext +onlyGivenNames y9; have e9 : x_110 = y9 := (by first | exact he_x_110 | exact he_x_110.symm); clear_value y9; subst e9)
              refine (if_neg c_111).trans ?_
              try (extract_lets -merge -useContext +onlyGivenNames y9; have e9 : x_115 = y9 := (by first | exact he_x_115 | exact he_x_115.symm); clear_value y9; subst e9)
              extract_lets -merge -useContext +onlyGivenNames w9 y9; have e9 : r_116 = w9 := he_r_116; clear_value w9; subst e9
              try (extract_lets -merge -useContext +onlyGivenNames y9; have e9 : x_119 = y9 := (by first | exact he_x_119 | exact he_x_119.symm); clear_value y9; subst e9)
              try (extract_lets -merge -useContext +onlyGivenNames y9; have e9 : x_120 = y9 := (by first | exact he_x_120 | exact he_x_120.symm); clear_value y9; subst e9)
              try (extract_lets -merge -useContext +onlyGivenNames y9; have e9 : x_121 = y9 := (by first | exact he_x_121 | exact he_x_121.symm); clear_value y9; subst e9)
              try (extract_lets -merge -useContext +onlyGivenNames y9; have e9 : x_122 = y9 := (by first | exact he_x_122 | exact he_x_122.symm); clear_value y9; subst e9)
              exact rfl
            exact ih_85 (v_50 + 1) x_122 H locs ls (z_up hmu_hlp_84 (by omega) trivial) hX_123 hP hD hS (lv_sub hl [0] rfl)
  have hX_124 : F_Te_readLetters t_length t_start t_end c_tape = F_Te_readLetters_L5a t_length t_start c_tape ((2147483647 - t_end.toInt).toNat + 1) t_end (0 : Int64) := by
    refine (F_Te_readLetters_s ..).trans ?_
    exact rfl
  exact hlp_84 ((2147483647 - t_end.toInt).toNat + 1) t_end 0 _ _ _ (Nat.lt_succ_self _) hX_124 hP hD hS (lv_sub hl [0] rfl)
set_option maxHeartbeats 40000000 in
set_option maxRecDepth 100000 in
theorem d_Te_readDigits (l : Launch) (G : va_G) (cA : zCA) (t : Nat) (tape : Nat) (t_fed : Int32) (t_length : Int32) (t_kind : Int32) (t_start : Int32) (t_end : Int32) (t_number : Int32) (t_sign : Int32) (t_letters : Int64) (t_fault : Int32) (t_faultPlace : Int32) (c_tape : Nat → Int32) : zCv l yX8_readDigits cX8_readDigits 1 none ({ frames := 1, cells := 0, slots := 0, locals := 21 }) G cA [.ref t] [(t, .inr (8, [.ref tape, .int t_fed, .int t_length, .int t_kind, .int t_start, .int t_end, .int t_number, .int t_sign, .long t_letters, .int t_fault, .int t_faultPlace])), (tape, .inl (cA.1 2, 900, .inl c_tape))] (S := Int32 × Int32 × Int32) (fun (u : Int32 × Int32 × Int32) => (u.1 = (F_Te_readDigits t_length t_start t_end c_tape).1) ∧ (u.2.1 = (F_Te_readDigits t_length t_start t_end c_tape).2.1) ∧ (u.2.2 = (F_Te_readDigits t_length t_start t_end c_tape).2.2) ∧ (True)) (fun (u : Int32 × Int32 × Int32) => [(t, .inr (8, [.ref tape, .int t_fed, .int t_length, .int u.1, .int t_start, .int u.2.1, .int u.2.2, .int t_sign, .long t_letters, .int t_fault, .int t_faultPlace])), (tape, .inl (cA.1 2, 900, .inl c_tape))]) 0 0 := by
  refine z_start2v (own := RX8) (by decide) (Nat.le_of_ble_eq_true rfl) rfl ?_
  intro p e s m args below meth c A ls Q hx hb hml hts hown hK hE hT hP hD hS hA hl hret
  have hl : lv_has ls 1 [(0, .ref t)] := hl
  refine lv_aload_n hx hb dX8_readDigits_0 rfl (lv_at hl 0 rfl) ?_
  refine lv_iconst (v := 0) hx hb dX8_readDigits_1 (by decide) ?_
  refine va_put (D := G) (ci := 8) (v := .int 0) (ty := .int) (C := RX8) (T := TX8) (N := 11) hx hb hts inT8 tyX8 tyX8_ok nmX8 hown hK hP hD hS 0 rfl rfl 6 (by decide) (hts _ tw_213) (fun _ h9 => h9) rfl (tyX8_ok 6 (by decide)) rfl rfl (Nat.le_of_ble_eq_true rfl) dX8_readDigits_2 (fun H locs hP hD hS => ?_)
  have hP : va_P G vwCl [(t, .inr (8, [.ref tape, .int t_fed, .int t_length, .int t_kind, .int t_start, .int t_end, .int 0, .int t_sign, .long t_letters, .int t_fault, .int t_faultPlace])), (tape, .inl (cA.1 2, 900, .inl c_tape))] H := hP
  have hD : va_D A [(t, .inr (8, [.ref tape, .int t_fed, .int t_length, .int t_kind, .int t_start, .int t_end, .int 0, .int t_sign, .long t_letters, .int t_fault, .int t_faultPlace])), (tape, .inl (cA.1 2, 900, .inl c_tape))] := hD
  have hlp_75 : ∀ (n_L5a : Nat) (v_44 : Int32) (v_45 : Int32) (H : Heap) (locs : List Loc) (ls : Array Slot), (2147483647 - v_44.toInt).toNat < n_L5a → (F_Te_readDigits t_length t_start t_end c_tape = F_Te_readDigits_L5a t_length t_start c_tape n_L5a v_44 v_45) → va_P G vwCl [(t, .inr (8, [.ref tape, .int t_fed, .int t_length, .int t_kind, .int t_start, .int v_44, .int v_45, .int t_sign, .long t_letters, .int t_fault, .int t_faultPlace])), (tape, .inl (cA.1 2, 900, .inl c_tape))] H → va_D A [(t, .inr (8, [.ref tape, .int t_fed, .int t_length, .int t_kind, .int t_start, .int v_44, .int v_45, .int t_sign, .long t_letters, .int t_fault, .int t_faultPlace])), (tape, .inl (cA.1 2, 900, .inl c_tape))] → va_S A s.heap H locs → lv_has ls 1 [(0, .ref t)] → W p l e ({ frames := 1, cells := 0, slots := 0, locals := 21 }) s m args below meth c H locs 0 0 Q (F0 m 5 ls []) := by
    intro n_L5a
    induction n_L5a with
    | zero =>
      intro v_44 v_45 H locs ls hmu_hlp_75 hF_L5a hP hD hS hl
      exact absurd hmu_hlp_75 (Nat.not_lt_zero _)
    | succ n_L5a ih_76 =>
      intro v_44 v_45 H locs ls hmu_hlp_75 hF_L5a hP hD hS hl
      refine lv_aload_n hx hb dX8_readDigits_5 rfl (lv_at hl 0 rfl) ?_
      refine va_get (D := G) (ci := 8) (v := .int v_44) (C := RX8) (T := TX8) (N := 11) hx hb hts inT8 hown hK hP 0 rfl rfl 5 (by decide) (hts _ tw_211) (fun _ h9 => h9) rfl dX8_readDigits_6 ?_
      refine lv_aload_n hx hb dX8_readDigits_9 rfl (lv_at hl 0 rfl) ?_
      refine va_get (D := G) (ci := 8) (v := .int t_length) (C := RX8) (T := TX8) (N := 11) hx hb hts inT8 hown hK hP 0 rfl rfl 2 (by decide) (hts _ tw_208) (fun _ h9 => h9) rfl dX8_readDigits_10 ?_
      refine lv_icmp_ge (tgt := 79) hx hb dX8_readDigits_13 (by decide) (fun c_77 => ?_) (fun c_77 => ?_)
      · have b_78 := z_s1 c_77
        refine lv_aload_n hx hb dX8_readDigits_79 rfl (lv_at hl 0 rfl) ?_
        refine lv_aload_n hx hb dX8_readDigits_80 rfl (lv_at hl 0 rfl) ?_
        refine va_get (D := G) (ci := 8) (v := .int v_44) (C := RX8) (T := TX8) (N := 11) hx hb hts inT8 hown hK hP 0 rfl rfl 5 (by decide) (hts _ tw_211) (fun _ h9 => h9) rfl dX8_readDigits_81 ?_
        refine lv_aload_n hx hb dX8_readDigits_84 rfl (lv_at hl 0 rfl) ?_
        refine va_get (D := G) (ci := 8) (v := .int t_start) (C := RX8) (T := TX8) (N := 11) hx hb hts inT8 hown hK hP 0 rfl rfl 4 (by decide) (hts _ tw_210) (fun _ h9 => h9) rfl dX8_readDigits_85 ?_
        refine lv_isub hx hb dX8_readDigits_88 ?_
        refine lv_topi (fun x_79 he_x_79 => ?_)
        refine lv_iconst (v := 4) hx hb dX8_readDigits_89 (by decide) ?_
        refine lv_icmp_le (tgt := 97) hx hb dX8_readDigits_90 (by decide) (fun c_80 => ?_) (fun c_80 => ?_)
        · have b_81 := z_b5 c_80 (K := 4) (by decide +kernel)
          refine lv_iconst (v := 2) hx hb dX8_readDigits_97 (by decide) ?_
          refine va_put (D := G) (ci := 8) (v := .int 2) (ty := .int) (C := RX8) (T := TX8) (N := 11) hx hb hts inT8 tyX8 tyX8_ok nmX8 hown hK hP hD hS 0 rfl rfl 3 (by decide) (hts _ tw_209) (fun _ h9 => h9) rfl (tyX8_ok 3 (by decide)) rfl rfl (Nat.le_of_ble_eq_true rfl) dX8_readDigits_98 (fun H locs hP hD hS => ?_)
          have hP : va_P G vwCl [(t, .inr (8, [.ref tape, .int t_fed, .int t_length, .int 2, .int t_start, .int v_44, .int v_45, .int t_sign, .long t_letters, .int t_fault, .int t_faultPlace])), (tape, .inl (cA.1 2, 900, .inl c_tape))] H := hP
          have hD : va_D A [(t, .inr (8, [.ref tape, .int t_fed, .int t_length, .int 2, .int t_start, .int v_44, .int v_45, .int t_sign, .long t_letters, .int t_fault, .int t_faultPlace])), (tape, .inl (cA.1 2, 900, .inl c_tape))] := hD
          have hX_82 : F_Te_readDigits t_length t_start t_end c_tape = (((2 : Int32), v_44, v_45) : Int32 × Int32 × Int32) := by
            refine hF_L5a.trans ?_
            refine (F_Te_readDigits_L5a_s ..).trans ?_
            refine (if_pos c_77).trans ?_
            try (extract_lets -merge -useContext +onlyGivenNames y9; have e9 : x_79 = y9 := (by first | exact he_x_79 | exact he_x_79.symm); clear_value y9; subst e9)
            refine (if_pos c_80).trans ?_
            exact rfl
          exact hret _ _ _ _ _ (2, v_44, v_45) [0, 1] hP hD hS rfl (by decide) dX8_readDigits_101 ⟨(congrArg (fun z9 => z9.1) hX_82).symm, (congrArg (fun z9 => z9.2.1) hX_82).symm, (congrArg (fun z9 => z9.2.2) hX_82).symm, trivial⟩
        · have b_83 := z_b6 c_80 (K := 4) (by decide +kernel)
          refine lv_iconst (v := 4) hx hb dX8_readDigits_93 (by decide) ?_
          refine lv_goto (tgt := 98) hx hb dX8_readDigits_94 (by decide) ?_
          refine va_put (D := G) (ci := 8) (v := .int 4) (ty := .int) (C := RX8) (T := TX8) (N := 11) hx hb hts inT8 tyX8 tyX8_ok nmX8 hown hK hP hD hS 0 rfl rfl 3 (by decide) (hts _ tw_209) (fun _ h9 => h9) rfl (tyX8_ok 3 (by decide)) rfl rfl (Nat.le_of_ble_eq_true rfl) dX8_readDigits_98 (fun H locs hP hD hS => ?_)
          have hP : va_P G vwCl [(t, .inr (8, [.ref tape, .int t_fed, .int t_length, .int 4, .int t_start, .int v_44, .int v_45, .int t_sign, .long t_letters, .int t_fault, .int t_faultPlace])), (tape, .inl (cA.1 2, 900, .inl c_tape))] H := hP
          have hD : va_D A [(t, .inr (8, [.ref tape, .int t_fed, .int t_length, .int 4, .int t_start, .int v_44, .int v_45, .int t_sign, .long t_letters, .int t_fault, .int t_faultPlace])), (tape, .inl (cA.1 2, 900, .inl c_tape))] := hD
          have hX_84 : F_Te_readDigits t_length t_start t_end c_tape = (((4 : Int32), v_44, v_45) : Int32 × Int32 × Int32) := by
            refine hF_L5a.trans ?_
            refine (F_Te_readDigits_L5a_s ..).trans ?_
            refine (if_pos c_77).trans ?_
            try (extract_lets -merge -useContext +onlyGivenNames y9; have e9 : x_79 = y9 := (by first | exact he_x_79 | exact he_x_79.symm); clear_value y9; subst e9)
            refine (if_neg c_80).trans ?_
            exact rfl
          exact hret _ _ _ _ _ (4, v_44, v_45) [0, 1] hP hD hS rfl (by decide) dX8_readDigits_101 ⟨(congrArg (fun z9 => z9.1) hX_84).symm, (congrArg (fun z9 => z9.2.1) hX_84).symm, (congrArg (fun z9 => z9.2.2) hX_84).symm, trivial⟩
      · have b_85 := z_t2 c_77
        refine lv_aload_n hx hb dX8_readDigits_16 rfl (lv_at hl 0 rfl) ?_
        refine lv_aload_n hx hb dX8_readDigits_17 rfl (lv_at hl 0 rfl) ?_
        refine va_get (D := G) (ci := 8) (v := .int v_44) (C := RX8) (T := TX8) (N := 11) hx hb hts inT8 hown hK hP 0 rfl rfl 5 (by decide) (hts _ tw_211) (fun _ h9 => h9) rfl dX8_readDigits_18 ?_
        refine z_callVi (As := [.int v_44]) (rest := []) (wr := []) ⟨hx, hb, hml, hown, hts⟩ hK hE hT hP hD hS hA (d_Te_byteAt l G cA t tape t_fed t_length t_kind t_start v_44 v_45 t_sign t_letters t_fault t_faultPlace c_tape v_44) lk_RX8_40 ⟨rfl, rfl⟩ ⟨Nat.le_of_ble_eq_true rfl, Nat.le_of_ble_eq_true rfl⟩ 8 rfl rfl rfl [0, 1] [] rfl rfl (by decide) rfl hl.1 rfl (lv_room (Nat.le_of_ble_eq_true rfl)) dX8_readDigits_21 ⟨Nat.le_of_ble_eq_true rfl, Nat.le_of_ble_eq_true rfl⟩ (fun r_86 u_87 H locs hw hP hD hS => ?_)
        have hP : va_P G vwCl [(t, .inr (8, [.ref tape, .int t_fed, .int t_length, .int t_kind, .int t_start, .int v_44, .int v_45, .int t_sign, .long t_letters, .int t_fault, .int t_faultPlace])), (tape, .inl (cA.1 2, 900, .inl c_tape))] H := hP
        have hD : va_D A [(t, .inr (8, [.ref tape, .int t_fed, .int t_length, .int t_kind, .int t_start, .int v_44, .int v_45, .int t_sign, .long t_letters, .int t_fault, .int t_faultPlace])), (tape, .inl (cA.1 2, 900, .inl c_tape))] := hD
        obtain ⟨he_r_86, hw⟩ := hw
        refine z_callSi (As := [.int r_86]) (rest := []) (wr := [(t, .inr (8, [.ref tape, .int t_fed, .int t_length, .int t_kind, .int t_start, .int v_44, .int v_45, .int t_sign, .long t_letters, .int t_fault, .int t_faultPlace])), (tape, .inl (cA.1 2, 900, .inl c_tape))]) ⟨hx, hb, hml, hown, hts⟩ hK hE hT hP hD hS hA (d_Te_isDigit l G cA r_86) lk_RX8_54 ⟨rfl, rfl⟩ ⟨Nat.le_of_ble_eq_true rfl, Nat.le_of_ble_eq_true rfl⟩ [] [0, 1] rfl rfl (by decide) rfl hl.1 rfl (lv_room (Nat.le_of_ble_eq_true rfl)) dX8_readDigits_24 ⟨Nat.le_of_ble_eq_true rfl, Nat.le_of_ble_eq_true rfl⟩ (fun r_89 u_90 H locs hw hP hD hS => ?_)
        have hP : va_P G vwCl [(t, .inr (8, [.ref tape, .int t_fed, .int t_length, .int t_kind, .int t_start, .int v_44, .int v_45, .int t_sign, .long t_letters, .int t_fault, .int t_faultPlace])), (tape, .inl (cA.1 2, 900, .inl c_tape))] H := hP
        have hD : va_D A [(t, .inr (8, [.ref tape, .int t_fed, .int t_length, .int t_kind, .int t_start, .int v_44, .int v_45, .int t_sign, .long t_letters, .int t_fault, .int t_faultPlace])), (tape, .inl (cA.1 2, 900, .inl c_tape))] := hD
        obtain ⟨he_r_89, hw⟩ := hw
        have hz_r_89 := hw
        refine lv_if_eq (tgt := 79) hx hb dX8_readDigits_27 (by decide) (fun c_92 => ?_) (fun c_92 => ?_)
        · skip
          refine lv_aload_n hx hb dX8_readDigits_79 rfl (lv_at hl 0 rfl) ?_
          refine lv_aload_n hx hb dX8_readDigits_80 rfl (lv_at hl 0 rfl) ?_
          refine va_get (D := G) (ci := 8) (v := .int v_44) (C := RX8) (T := TX8) (N := 11) hx hb hts inT8 hown hK hP 0 rfl rfl 5 (by decide) (hts _ tw_211) (fun _ h9 => h9) rfl dX8_readDigits_81 ?_
          refine lv_aload_n hx hb dX8_readDigits_84 rfl (lv_at hl 0 rfl) ?_
          refine va_get (D := G) (ci := 8) (v := .int t_start) (C := RX8) (T := TX8) (N := 11) hx hb hts inT8 hown hK hP 0 rfl rfl 4 (by decide) (hts _ tw_210) (fun _ h9 => h9) rfl dX8_readDigits_85 ?_
          refine lv_isub hx hb dX8_readDigits_88 ?_
          refine lv_topi (fun x_94 he_x_94 => ?_)
          refine lv_iconst (v := 4) hx hb dX8_readDigits_89 (by decide) ?_
          refine lv_icmp_le (tgt := 97) hx hb dX8_readDigits_90 (by decide) (fun c_95 => ?_) (fun c_95 => ?_)
          · have b_96 := z_b5 c_95 (K := 4) (by decide +kernel)
            refine lv_iconst (v := 2) hx hb dX8_readDigits_97 (by decide) ?_
            refine va_put (D := G) (ci := 8) (v := .int 2) (ty := .int) (C := RX8) (T := TX8) (N := 11) hx hb hts inT8 tyX8 tyX8_ok nmX8 hown hK hP hD hS 0 rfl rfl 3 (by decide) (hts _ tw_209) (fun _ h9 => h9) rfl (tyX8_ok 3 (by decide)) rfl rfl (Nat.le_of_ble_eq_true rfl) dX8_readDigits_98 (fun H locs hP hD hS => ?_)
            have hP : va_P G vwCl [(t, .inr (8, [.ref tape, .int t_fed, .int t_length, .int 2, .int t_start, .int v_44, .int v_45, .int t_sign, .long t_letters, .int t_fault, .int t_faultPlace])), (tape, .inl (cA.1 2, 900, .inl c_tape))] H := hP
            have hD : va_D A [(t, .inr (8, [.ref tape, .int t_fed, .int t_length, .int 2, .int t_start, .int v_44, .int v_45, .int t_sign, .long t_letters, .int t_fault, .int t_faultPlace])), (tape, .inl (cA.1 2, 900, .inl c_tape))] := hD
            have hX_97 : F_Te_readDigits t_length t_start t_end c_tape = (((2 : Int32), v_44, v_45) : Int32 × Int32 × Int32) := by
              refine hF_L5a.trans ?_
              refine (F_Te_readDigits_L5a_s ..).trans ?_
              refine (if_neg c_77).trans ?_
              extract_lets -merge -useContext +onlyGivenNames w9 y9; have e9 : r_86 = w9 := he_r_86; clear_value w9; subst e9
              extract_lets -merge -useContext +onlyGivenNames w9 y9; have e9 : r_89 = w9 := he_r_89; clear_value w9; subst e9
              refine (if_pos c_92).trans ?_
              try (extract_lets -merge -useContext +onlyGivenNames y9; have e9 : x_94 = y9 := (by first | exact he_x_94 | exact he_x_94.symm); clear_value y9; subst e9)
              refine (if_pos c_95).trans ?_
              exact rfl
            exact hret _ _ _ _ _ (2, v_44, v_45) [0, 1] hP hD hS rfl (by decide) dX8_readDigits_101 ⟨(congrArg (fun z9 => z9.1) hX_97).symm, (congrArg (fun z9 => z9.2.1) hX_97).symm, (congrArg (fun z9 => z9.2.2) hX_97).symm, trivial⟩
          · have b_98 := z_b6 c_95 (K := 4) (by decide +kernel)
            refine lv_iconst (v := 4) hx hb dX8_readDigits_93 (by decide) ?_
            refine lv_goto (tgt := 98) hx hb dX8_readDigits_94 (by decide) ?_
            refine va_put (D := G) (ci := 8) (v := .int 4) (ty := .int) (C := RX8) (T := TX8) (N := 11) hx hb hts inT8 tyX8 tyX8_ok nmX8 hown hK hP hD hS 0 rfl rfl 3 (by decide) (hts _ tw_209) (fun _ h9 => h9) rfl (tyX8_ok 3 (by decide)) rfl rfl (Nat.le_of_ble_eq_true rfl) dX8_readDigits_98 (fun H locs hP hD hS => ?_)
            have hP : va_P G vwCl [(t, .inr (8, [.ref tape, .int t_fed, .int t_length, .int 4, .int t_start, .int v_44, .int v_45, .int t_sign, .long t_letters, .int t_fault, .int t_faultPlace])), (tape, .inl (cA.1 2, 900, .inl c_tape))] H := hP
            have hD : va_D A [(t, .inr (8, [.ref tape, .int t_fed, .int t_length, .int 4, .int t_start, .int v_44, .int v_45, .int t_sign, .long t_letters, .int t_fault, .int t_faultPlace])), (tape, .inl (cA.1 2, 900, .inl c_tape))] := hD
            have hX_99 : F_Te_readDigits t_length t_start t_end c_tape = (((4 : Int32), v_44, v_45) : Int32 × Int32 × Int32) := by
              refine hF_L5a.trans ?_
              refine (F_Te_readDigits_L5a_s ..).trans ?_
              refine (if_neg c_77).trans ?_
              extract_lets -merge -useContext +onlyGivenNames w9 y9; have e9 : r_86 = w9 := he_r_86; clear_value w9; subst e9
              extract_lets -merge -useContext +onlyGivenNames w9 y9; have e9 : r_89 = w9 := he_r_89; clear_value w9; subst e9
              refine (if_pos c_92).trans ?_
              try (extract_lets -merge -useContext +onlyGivenNames y9; have e9 : x_94 = y9 := (by first | exact he_x_94 | exact he_x_94.symm); clear_value y9; subst e9)
              refine (if_neg c_95).trans ?_
              exact rfl
            exact hret _ _ _ _ _ (4, v_44, v_45) [0, 1] hP hD hS rfl (by decide) dX8_readDigits_101 ⟨(congrArg (fun z9 => z9.1) hX_99).symm, (congrArg (fun z9 => z9.2.1) hX_99).symm, (congrArg (fun z9 => z9.2.2) hX_99).symm, trivial⟩
        · skip
          refine lv_aload_n hx hb dX8_readDigits_30 rfl (lv_at hl 0 rfl) ?_
          refine va_get (D := G) (ci := 8) (v := .int v_44) (C := RX8) (T := TX8) (N := 11) hx hb hts inT8 hown hK hP 0 rfl rfl 5 (by decide) (hts _ tw_211) (fun _ h9 => h9) rfl dX8_readDigits_31 ?_
          refine lv_aload_n hx hb dX8_readDigits_34 rfl (lv_at hl 0 rfl) ?_
          refine va_get (D := G) (ci := 8) (v := .int t_start) (C := RX8) (T := TX8) (N := 11) hx hb hts inT8 hown hK hP 0 rfl rfl 4 (by decide) (hts _ tw_210) (fun _ h9 => h9) rfl dX8_readDigits_35 ?_
          refine lv_isub hx hb dX8_readDigits_38 ?_
          refine lv_topi (fun x_101 he_x_101 => ?_)
          refine lv_iconst (v := 4) hx hb dX8_readDigits_39 (by decide) ?_
          refine lv_icmp_ge (tgt := 66) hx hb dX8_readDigits_40 (by decide) (fun c_102 => ?_) (fun c_102 => ?_)
          · have b_103 := z_b1 c_102 (K := 4) (by decide +kernel)
            refine lv_aload_n hx hb dX8_readDigits_66 rfl (lv_at hl 0 rfl) ?_
            refine lv_dup hx hb dX8_readDigits_67 rfl ?_
            refine va_get (D := G) (ci := 8) (v := .int v_44) (C := RX8) (T := TX8) (N := 11) hx hb hts inT8 hown hK hP 0 rfl rfl 5 (by decide) (hts _ tw_211) (fun _ h9 => h9) rfl dX8_readDigits_68 ?_
            refine lv_iconst (v := 1) hx hb dX8_readDigits_71 (by decide) ?_
            refine lv_iadd hx hb dX8_readDigits_72 ?_
            refine va_put (D := G) (ci := 8) (v := .int (v_44 + 1)) (ty := .int) (C := RX8) (T := TX8) (N := 11) hx hb hts inT8 tyX8 tyX8_ok nmX8 hown hK hP hD hS 0 rfl rfl 5 (by decide) (hts _ tw_211) (fun _ h9 => h9) rfl (tyX8_ok 5 (by decide)) rfl rfl (Nat.le_of_ble_eq_true rfl) dX8_readDigits_73 (fun H locs hP hD hS => ?_)
            have hP : va_P G vwCl [(t, .inr (8, [.ref tape, .int t_fed, .int t_length, .int t_kind, .int t_start, .int (v_44 + 1), .int v_45, .int t_sign, .long t_letters, .int t_fault, .int t_faultPlace])), (tape, .inl (cA.1 2, 900, .inl c_tape))] H := hP
            have hD : va_D A [(t, .inr (8, [.ref tape, .int t_fed, .int t_length, .int t_kind, .int t_start, .int (v_44 + 1), .int v_45, .int t_sign, .long t_letters, .int t_fault, .int t_faultPlace])), (tape, .inl (cA.1 2, 900, .inl c_tape))] := hD
            refine lv_goto (tgt := 5) hx hb dX8_readDigits_76 (by decide) ?_
            have hX_104 : F_Te_readDigits t_length t_start t_end c_tape = F_Te_readDigits_L5a t_length t_start c_tape n_L5a (v_44 + 1) v_45 := by
              refine hF_L5a.trans ?_
              refine (F_Te_readDigits_L5a_s ..).trans ?_
              refine (if_neg c_77).trans ?_
              extract_lets -merge -useContext +onlyGivenNames w9 y9; have e9 : r_86 = w9 := he_r_86; clear_value w9; subst e9
              extract_lets -merge -useContext +onlyGivenNames w9 y9; have e9 : r_89 = w9 := he_r_89; clear_value w9; subst e9
              refine (if_neg c_92).trans ?_
              try (extract_lets -merge -useContext +onlyGivenNames y9; have e9 : x_101 = y9 := (by first | exact he_x_101 | exact he_x_101.symm); clear_value y9; subst e9)
              refine (if_pos c_102).trans ?_
              exact rfl
            exact ih_76 (v_44 + 1) v_45 H locs ls (z_up hmu_hlp_75 (by omega) trivial) hX_104 hP hD hS (lv_sub hl [0] rfl)
          · have b_105 := z_b2 c_102 (K := 4) (by decide +kernel)
            refine lv_aload_n hx hb dX8_readDigits_43 rfl (lv_at hl 0 rfl) ?_
            refine lv_aload_n hx hb dX8_readDigits_44 rfl (lv_at hl 0 rfl) ?_
            refine va_get (D := G) (ci := 8) (v := .int v_45) (C := RX8) (T := TX8) (N := 11) hx hb hts inT8 hown hK hP 0 rfl rfl 6 (by decide) (hts _ tw_213) (fun _ h9 => h9) rfl dX8_readDigits_45 ?_
            refine lv_bipush (v := 10) hx hb dX8_readDigits_48 (by decide) ?_
            refine lv_imul hx hb dX8_readDigits_50 ?_
            refine lv_topi (fun x_106 he_x_106 => ?_)
            refine lv_aload_n hx hb dX8_readDigits_51 rfl (lv_at hl 0 rfl) ?_
            refine lv_aload_n hx hb dX8_readDigits_52 rfl (lv_at hl 0 rfl) ?_
            refine va_get (D := G) (ci := 8) (v := .int v_44) (C := RX8) (T := TX8) (N := 11) hx hb hts inT8 hown hK hP 0 rfl rfl 5 (by decide) (hts _ tw_211) (fun _ h9 => h9) rfl dX8_readDigits_53 ?_
            refine z_callVi (As := [.int v_44]) (rest := [.int x_106, .ref t]) (wr := []) ⟨hx, hb, hml, hown, hts⟩ hK hE hT hP hD hS hA (d_Te_byteAt l G cA t tape t_fed t_length t_kind t_start v_44 v_45 t_sign t_letters t_fault t_faultPlace c_tape v_44) lk_RX8_40 ⟨rfl, rfl⟩ ⟨Nat.le_of_ble_eq_true rfl, Nat.le_of_ble_eq_true rfl⟩ 8 rfl rfl rfl [0, 1] [] rfl rfl (by decide) rfl hl.1 rfl (lv_room (Nat.le_of_ble_eq_true rfl)) dX8_readDigits_56 ⟨Nat.le_of_ble_eq_true rfl, Nat.le_of_ble_eq_true rfl⟩ (fun r_107 u_108 H locs hw hP hD hS => ?_)
            have hP : va_P G vwCl [(t, .inr (8, [.ref tape, .int t_fed, .int t_length, .int t_kind, .int t_start, .int v_44, .int v_45, .int t_sign, .long t_letters, .int t_fault, .int t_faultPlace])), (tape, .inl (cA.1 2, 900, .inl c_tape))] H := hP
            have hD : va_D A [(t, .inr (8, [.ref tape, .int t_fed, .int t_length, .int t_kind, .int t_start, .int v_44, .int v_45, .int t_sign, .long t_letters, .int t_fault, .int t_faultPlace])), (tape, .inl (cA.1 2, 900, .inl c_tape))] := hD
            obtain ⟨he_r_107, hw⟩ := hw
            refine lv_iadd hx hb dX8_readDigits_59 ?_
            refine lv_topi (fun x_110 he_x_110 => ?_)
            refine lv_bipush (v := 48) hx hb dX8_readDigits_60 (by decide) ?_
            refine lv_isub hx hb dX8_readDigits_62 ?_
            refine va_put (D := G) (ci := 8) (v := .int (x_110 - 48)) (ty := .int) (C := RX8) (T := TX8) (N := 11) hx hb hts inT8 tyX8 tyX8_ok nmX8 hown hK hP hD hS 0 rfl rfl 6 (by decide) (hts _ tw_213) (fun _ h9 => h9) rfl (tyX8_ok 6 (by decide)) rfl rfl (Nat.le_of_ble_eq_true rfl) dX8_readDigits_63 (fun H locs hP hD hS => ?_)
            have hP : va_P G vwCl [(t, .inr (8, [.ref tape, .int t_fed, .int t_length, .int t_kind, .int t_start, .int v_44, .int (x_110 - 48), .int t_sign, .long t_letters, .int t_fault, .int t_faultPlace])), (tape, .inl (cA.1 2, 900, .inl c_tape))] H := hP
            have hD : va_D A [(t, .inr (8, [.ref tape, .int t_fed, .int t_length, .int t_kind, .int t_start, .int v_44, .int (x_110 - 48), .int t_sign, .long t_letters, .int t_fault, .int t_faultPlace])), (tape, .inl (cA.1 2, 900, .inl c_tape))] := hD
            refine lv_aload_n hx hb dX8_readDigits_66 rfl (lv_at hl 0 rfl) ?_
            refine lv_dup hx hb dX8_readDigits_67 rfl ?_
            refine va_get (D := G) (ci := 8) (v := .int v_44) (C := RX8) (T := TX8) (N := 11) hx hb hts inT8 hown hK hP 0 rfl rfl 5 (by decide) (hts _ tw_211) (fun _ h9 => h9) rfl dX8_readDigits_68 ?_
            refine lv_iconst (v := 1) hx hb dX8_readDigits_71 (by decide) ?_
            refine lv_iadd hx hb dX8_readDigits_72 ?_
            refine va_put (D := G) (ci := 8) (v := .int (v_44 + 1)) (ty := .int) (C := RX8) (T := TX8) (N := 11) hx hb hts inT8 tyX8 tyX8_ok nmX8 hown hK hP hD hS 0 rfl rfl 5 (by decide) (hts _ tw_211) (fun _ h9 => h9) rfl (tyX8_ok 5 (by decide)) rfl rfl (Nat.le_of_ble_eq_true rfl) dX8_readDigits_73 (fun H locs hP hD hS => ?_)
            have hP : va_P G vwCl [(t, .inr (8, [.ref tape, .int t_fed, .int t_length, .int t_kind, .int t_start, .int (v_44 + 1), .int (x_110 - 48), .int t_sign, .long t_letters, .int t_fault, .int t_faultPlace])), (tape, .inl (cA.1 2, 900, .inl c_tape))] H := hP
            have hD : va_D A [(t, .inr (8, [.ref tape, .int t_fed, .int t_length, .int t_kind, .int t_start, .int (v_44 + 1), .int (x_110 - 48), .int t_sign, .long t_letters, .int t_fault, .int t_faultPlace])), (tape, .inl (cA.1 2, 900, .inl c_tape))] := hD
            refine lv_goto (tgt := 5) hx hb dX8_readDigits_76 (by decide) ?_
            have hX_111 : F_Te_readDigits t_length t_start t_end c_tape = F_Te_readDigits_L5a t_length t_start c_tape n_L5a (v_44 + 1) (x_110 - 48) := by
              refine hF_L5a.trans ?_
              refine (F_Te_readDigits_L5a_s ..).trans ?_
              refine (if_neg c_77).trans ?_
              extract_lets -merge -useContext +onlyGivenNames w9 y9; have e9 : r_86 = w9 := he_r_86; clear_value w9; subst e9
              extract_lets -merge -useContext +onlyGivenNames w9 y9; have e9 : r_89 = w9 := he_r_89; clear_value w9; subst e9
              refine (if_neg c_92).trans ?_
              try (extract_lets -merge -useContext +onlyGivenNames y9; have e9 : x_101 = y9 := (by first | exact he_x_101 | exact he_x_101.symm); clear_value y9; subst e9)
              refine (if_neg c_102).trans ?_
              try (extract_lets -merge -useContext +onlyGivenNames y9; have e9 : x_106 = y9 := (by first | exact he_x_106 | exact he_x_106.symm); clear_value y9; subst e9)
              extract_lets -merge -useContext +onlyGivenNames w9 y9; have e9 : r_107 = w9 := he_r_107; clear_value w9; subst e9
              try (extract_lets -merge -useContext +onlyGivenNames y9; have e9 : x_110 = y9 := (by first | exact he_x_110 | exact he_x_110.symm); clear_value y9; subst e9)
              exact rfl
            exact ih_76 (v_44 + 1) (x_110 - 48) H locs ls (z_up hmu_hlp_75 (by omega) trivial) hX_111 hP hD hS (lv_sub hl [0] rfl)
  have hX_112 : F_Te_readDigits t_length t_start t_end c_tape = F_Te_readDigits_L5a t_length t_start c_tape ((2147483647 - t_end.toInt).toNat + 1) t_end (0 : Int32) := by
    refine (F_Te_readDigits_s ..).trans ?_
    exact rfl
  exact hlp_75 ((2147483647 - t_end.toInt).toNat + 1) t_end 0 _ _ _ (Nat.lt_succ_self _) hX_112 hP hD hS (lv_sub hl [0] rfl)
set_option maxHeartbeats 40000000 in
set_option maxRecDepth 100000 in
theorem d_Te_advance (l : Launch) (G : va_G) (cA : zCA) (t : Nat) (tape : Nat) (t_fed : Int32) (t_length : Int32) (t_kind : Int32) (t_start : Int32) (t_end : Int32) (t_number : Int32) (t_sign : Int32) (t_letters : Int64) (t_fault : Int32) (t_faultPlace : Int32) (c_tape : Nat → Int32) : zCv l yX8_advance cX8_advance 2 none ({ frames := 2, cells := 0, slots := 0, locals := 41 }) G cA [.ref t] [(t, .inr (8, [.ref tape, .int t_fed, .int t_length, .int t_kind, .int t_start, .int t_end, .int t_number, .int t_sign, .long t_letters, .int t_fault, .int t_faultPlace])), (tape, .inl (cA.1 2, 900, .inl c_tape))] (S := Int32 × Int32 × Int32 × Int32 × Int32 × Int64) (fun (u : Int32 × Int32 × Int32 × Int32 × Int32 × Int64) => (u.1 = (F_Te_advance t_length t_end t_number t_sign t_letters c_tape).1) ∧ (u.2.1 = (F_Te_advance t_length t_end t_number t_sign t_letters c_tape).2.1) ∧ (u.2.2.1 = (F_Te_advance t_length t_end t_number t_sign t_letters c_tape).2.2.1) ∧ (u.2.2.2.1 = (F_Te_advance t_length t_end t_number t_sign t_letters c_tape).2.2.2.1) ∧ (u.2.2.2.2.1 = (F_Te_advance t_length t_end t_number t_sign t_letters c_tape).2.2.2.2.1) ∧ (u.2.2.2.2.2 = (F_Te_advance t_length t_end t_number t_sign t_letters c_tape).2.2.2.2.2) ∧ (True)) (fun (u : Int32 × Int32 × Int32 × Int32 × Int32 × Int64) => [(t, .inr (8, [.ref tape, .int t_fed, .int t_length, .int u.1, .int u.2.1, .int u.2.2.1, .int u.2.2.2.2.1, .int u.2.2.2.1, .long u.2.2.2.2.2, .int t_fault, .int t_faultPlace])), (tape, .inl (cA.1 2, 900, .inl c_tape))]) 0 0 := by
  refine z_start2v (own := RX8) (by decide) (Nat.le_of_ble_eq_true rfl) rfl ?_
  intro p e s m args below meth c A ls Q hx hb hml hts hown hK hE hT hP hD hS hA hl hret
  have hl : lv_has ls 2 [(0, .ref t)] := hl
  refine lv_aload_n hx hb dX8_advance_0 rfl (lv_at hl 0 rfl) ?_
  refine lv_aload_n hx hb dX8_advance_1 rfl (lv_at hl 0 rfl) ?_
  refine va_get (D := G) (ci := 8) (v := .int t_end) (C := RX8) (T := TX8) (N := 11) hx hb hts inT8 hown hK hP 0 rfl rfl 5 (by decide) (hts _ tw_211) (fun _ h9 => h9) rfl dX8_advance_2 ?_
  refine va_put (D := G) (ci := 8) (v := .int t_end) (ty := .int) (C := RX8) (T := TX8) (N := 11) hx hb hts inT8 tyX8 tyX8_ok nmX8 hown hK hP hD hS 0 rfl rfl 4 (by decide) (hts _ tw_210) (fun _ h9 => h9) rfl (tyX8_ok 4 (by decide)) rfl rfl (Nat.le_of_ble_eq_true rfl) dX8_advance_5 (fun H locs hP hD hS => ?_)
  have hP : va_P G vwCl [(t, .inr (8, [.ref tape, .int t_fed, .int t_length, .int t_kind, .int t_end, .int t_end, .int t_number, .int t_sign, .long t_letters, .int t_fault, .int t_faultPlace])), (tape, .inl (cA.1 2, 900, .inl c_tape))] H := hP
  have hD : va_D A [(t, .inr (8, [.ref tape, .int t_fed, .int t_length, .int t_kind, .int t_end, .int t_end, .int t_number, .int t_sign, .long t_letters, .int t_fault, .int t_faultPlace])), (tape, .inl (cA.1 2, 900, .inl c_tape))] := hD
  have hlp_109 : ∀ (n_L8a : Nat) (v_26 : Int32) (H : Heap) (locs : List Loc) (ls : Array Slot), (2147483647 - v_26.toInt).toNat < n_L8a → (F_Te_advance t_length t_end t_number t_sign t_letters c_tape = F_Te_advance_L8a t_length t_number t_sign t_letters c_tape n_L8a v_26) → va_P G vwCl [(t, .inr (8, [.ref tape, .int t_fed, .int t_length, .int t_kind, .int v_26, .int t_end, .int t_number, .int t_sign, .long t_letters, .int t_fault, .int t_faultPlace])), (tape, .inl (cA.1 2, 900, .inl c_tape))] H → va_D A [(t, .inr (8, [.ref tape, .int t_fed, .int t_length, .int t_kind, .int v_26, .int t_end, .int t_number, .int t_sign, .long t_letters, .int t_fault, .int t_faultPlace])), (tape, .inl (cA.1 2, 900, .inl c_tape))] → va_S A s.heap H locs → lv_has ls 2 [(0, .ref t)] → W p l e ({ frames := 2, cells := 0, slots := 0, locals := 41 }) s m args below meth c H locs 0 0 Q (F0 m 8 ls []) := by
    intro n_L8a
    induction n_L8a with
    | zero =>
      intro v_26 H locs ls hmu_hlp_109 hF_L8a hP hD hS hl
      exact absurd hmu_hlp_109 (Nat.not_lt_zero _)
    | succ n_L8a ih_110 =>
      intro v_26 H locs ls hmu_hlp_109 hF_L8a hP hD hS hl
      refine lv_aload_n hx hb dX8_advance_8 rfl (lv_at hl 0 rfl) ?_
      refine va_get (D := G) (ci := 8) (v := .int v_26) (C := RX8) (T := TX8) (N := 11) hx hb hts inT8 hown hK hP 0 rfl rfl 4 (by decide) (hts _ tw_210) (fun _ h9 => h9) rfl dX8_advance_9 ?_
      refine lv_aload_n hx hb dX8_advance_12 rfl (lv_at hl 0 rfl) ?_
      refine va_get (D := G) (ci := 8) (v := .int t_length) (C := RX8) (T := TX8) (N := 11) hx hb hts inT8 hown hK hP 0 rfl rfl 2 (by decide) (hts _ tw_208) (fun _ h9 => h9) rfl dX8_advance_13 ?_
      refine lv_icmp_ge (tgt := 46) hx hb dX8_advance_16 (by decide) (fun c_111 => ?_) (fun c_111 => ?_)
      · have b_112 := z_s1 c_111
        refine lv_aload_n hx hb dX8_advance_46 rfl (lv_at hl 0 rfl) ?_
        refine lv_aload_n hx hb dX8_advance_47 rfl (lv_at hl 0 rfl) ?_
        refine va_get (D := G) (ci := 8) (v := .int v_26) (C := RX8) (T := TX8) (N := 11) hx hb hts inT8 hown hK hP 0 rfl rfl 4 (by decide) (hts _ tw_210) (fun _ h9 => h9) rfl dX8_advance_48 ?_
        refine va_put (D := G) (ci := 8) (v := .int v_26) (ty := .int) (C := RX8) (T := TX8) (N := 11) hx hb hts inT8 tyX8 tyX8_ok nmX8 hown hK hP hD hS 0 rfl rfl 5 (by decide) (hts _ tw_211) (fun _ h9 => h9) rfl (tyX8_ok 5 (by decide)) rfl rfl (Nat.le_of_ble_eq_true rfl) dX8_advance_51 (fun H locs hP hD hS => ?_)
        have hP : va_P G vwCl [(t, .inr (8, [.ref tape, .int t_fed, .int t_length, .int t_kind, .int v_26, .int v_26, .int t_number, .int t_sign, .long t_letters, .int t_fault, .int t_faultPlace])), (tape, .inl (cA.1 2, 900, .inl c_tape))] H := hP
        have hD : va_D A [(t, .inr (8, [.ref tape, .int t_fed, .int t_length, .int t_kind, .int v_26, .int v_26, .int t_number, .int t_sign, .long t_letters, .int t_fault, .int t_faultPlace])), (tape, .inl (cA.1 2, 900, .inl c_tape))] := hD
        refine lv_aload_n hx hb dX8_advance_54 rfl (lv_at hl 0 rfl) ?_
        refine lv_aload_n hx hb dX8_advance_55 rfl (lv_at hl 0 rfl) ?_
        refine va_get (D := G) (ci := 8) (v := .int v_26) (C := RX8) (T := TX8) (N := 11) hx hb hts inT8 hown hK hP 0 rfl rfl 4 (by decide) (hts _ tw_210) (fun _ h9 => h9) rfl dX8_advance_56 ?_
        refine z_callVi (As := [.int v_26]) (rest := []) (wr := []) ⟨hx, hb, hml, hown, hts⟩ hK hE hT hP hD hS hA (d_Te_byteAt l G cA t tape t_fed t_length t_kind v_26 v_26 t_number t_sign t_letters t_fault t_faultPlace c_tape v_26) lk_RX8_40 ⟨rfl, rfl⟩ ⟨Nat.le_of_ble_eq_true rfl, Nat.le_of_ble_eq_true rfl⟩ 8 rfl rfl rfl [0, 1] [] rfl rfl (by decide) rfl hl.1 rfl (lv_room (Nat.le_of_ble_eq_true rfl)) dX8_advance_59 ⟨Nat.le_of_ble_eq_true rfl, Nat.le_of_ble_eq_true rfl⟩ (fun r_113 u_114 H locs hw hP hD hS => ?_)
        have hP : va_P G vwCl [(t, .inr (8, [.ref tape, .int t_fed, .int t_length, .int t_kind, .int v_26, .int v_26, .int t_number, .int t_sign, .long t_letters, .int t_fault, .int t_faultPlace])), (tape, .inl (cA.1 2, 900, .inl c_tape))] H := hP
        have hD : va_D A [(t, .inr (8, [.ref tape, .int t_fed, .int t_length, .int t_kind, .int v_26, .int v_26, .int t_number, .int t_sign, .long t_letters, .int t_fault, .int t_faultPlace])), (tape, .inl (cA.1 2, 900, .inl c_tape))] := hD
        obtain ⟨he_r_113, hw⟩ := hw
        refine lv_istore_n (lv' := [(1, .int r_113), (0, .ref t)]) hx hb dX8_advance_62 rfl hl (by decide) rfl (fun ls hl => ?_)
        refine lv_iload_n hx hb dX8_advance_63 rfl (lv_at hl 0 rfl) ?_
        refine lv_iconst (v := (-1)) hx hb dX8_advance_64 (by decide) ?_
        refine lv_icmp_ne (tgt := 76) hx hb dX8_advance_65 (by decide) (fun c_116 => ?_) (fun c_116 => ?_)
        · skip
          refine lv_iload_n hx hb dX8_advance_76 rfl (lv_at hl 0 rfl) ?_
          refine z_callSi (As := [.int r_113]) (rest := []) (wr := [(t, .inr (8, [.ref tape, .int t_fed, .int t_length, .int t_kind, .int v_26, .int v_26, .int t_number, .int t_sign, .long t_letters, .int t_fault, .int t_faultPlace])), (tape, .inl (cA.1 2, 900, .inl c_tape))]) ⟨hx, hb, hml, hown, hts⟩ hK hE hT hP hD hS hA (d_Te_isLetter l G cA r_113) lk_RX8_48 ⟨rfl, rfl⟩ ⟨Nat.le_of_ble_eq_true rfl, Nat.le_of_ble_eq_true rfl⟩ [] [0, 1] rfl rfl (by decide) rfl hl.1 rfl (lv_room (Nat.le_of_ble_eq_true rfl)) dX8_advance_77 ⟨Nat.le_of_ble_eq_true rfl, Nat.le_of_ble_eq_true rfl⟩ (fun r_118 u_119 H locs hw hP hD hS => ?_)
          have hP : va_P G vwCl [(t, .inr (8, [.ref tape, .int t_fed, .int t_length, .int t_kind, .int v_26, .int v_26, .int t_number, .int t_sign, .long t_letters, .int t_fault, .int t_faultPlace])), (tape, .inl (cA.1 2, 900, .inl c_tape))] H := hP
          have hD : va_D A [(t, .inr (8, [.ref tape, .int t_fed, .int t_length, .int t_kind, .int v_26, .int v_26, .int t_number, .int t_sign, .long t_letters, .int t_fault, .int t_faultPlace])), (tape, .inl (cA.1 2, 900, .inl c_tape))] := hD
          obtain ⟨he_r_118, hw⟩ := hw
          have hz_r_118 := hw
          refine lv_if_eq (tgt := 95) hx hb dX8_advance_80 (by decide) (fun c_121 => ?_) (fun c_121 => ?_)
          · skip
            refine lv_iload_n hx hb dX8_advance_95 rfl (lv_at hl 0 rfl) ?_
            refine z_callSi (As := [.int r_113]) (rest := []) (wr := [(t, .inr (8, [.ref tape, .int t_fed, .int t_length, .int t_kind, .int v_26, .int v_26, .int t_number, .int t_sign, .long t_letters, .int t_fault, .int t_faultPlace])), (tape, .inl (cA.1 2, 900, .inl c_tape))]) ⟨hx, hb, hml, hown, hts⟩ hK hE hT hP hD hS hA (d_Te_isDigit l G cA r_113) lk_RX8_54 ⟨rfl, rfl⟩ ⟨Nat.le_of_ble_eq_true rfl, Nat.le_of_ble_eq_true rfl⟩ [] [0, 1] rfl rfl (by decide) rfl hl.1 rfl (lv_room (Nat.le_of_ble_eq_true rfl)) dX8_advance_96 ⟨Nat.le_of_ble_eq_true rfl, Nat.le_of_ble_eq_true rfl⟩ (fun r_123 u_124 H locs hw hP hD hS => ?_)
            have hP : va_P G vwCl [(t, .inr (8, [.ref tape, .int t_fed, .int t_length, .int t_kind, .int v_26, .int v_26, .int t_number, .int t_sign, .long t_letters, .int t_fault, .int t_faultPlace])), (tape, .inl (cA.1 2, 900, .inl c_tape))] H := hP
            have hD : va_D A [(t, .inr (8, [.ref tape, .int t_fed, .int t_length, .int t_kind, .int v_26, .int v_26, .int t_number, .int t_sign, .long t_letters, .int t_fault, .int t_faultPlace])), (tape, .inl (cA.1 2, 900, .inl c_tape))] := hD
            obtain ⟨he_r_123, hw⟩ := hw
            have hz_r_123 := hw
            refine lv_if_eq (tgt := 109) hx hb dX8_advance_99 (by decide) (fun c_126 => ?_) (fun c_126 => ?_)
            · skip
              refine lv_aload_n hx hb dX8_advance_109 rfl (lv_at hl 1 rfl) ?_
              refine lv_iload_n hx hb dX8_advance_110 rfl (lv_at hl 0 rfl) ?_
              refine z_callSi (As := [.int r_113]) (rest := [.ref t]) (wr := [(t, .inr (8, [.ref tape, .int t_fed, .int t_length, .int t_kind, .int v_26, .int v_26, .int t_number, .int t_sign, .long t_letters, .int t_fault, .int t_faultPlace])), (tape, .inl (cA.1 2, 900, .inl c_tape))]) ⟨hx, hb, hml, hown, hts⟩ hK hE hT hP hD hS hA (d_Te_isSignOf l G cA r_113) lk_RX8_60 ⟨rfl, rfl⟩ ⟨Nat.le_of_ble_eq_true rfl, Nat.le_of_ble_eq_true rfl⟩ [] [0, 1] rfl rfl (by decide) rfl hl.1 rfl (lv_room (Nat.le_of_ble_eq_true rfl)) dX8_advance_111 ⟨Nat.le_of_ble_eq_true rfl, Nat.le_of_ble_eq_true rfl⟩ (fun r_128 u_129 H locs hw hP hD hS => ?_)
              have hP : va_P G vwCl [(t, .inr (8, [.ref tape, .int t_fed, .int t_length, .int t_kind, .int v_26, .int v_26, .int t_number, .int t_sign, .long t_letters, .int t_fault, .int t_faultPlace])), (tape, .inl (cA.1 2, 900, .inl c_tape))] H := hP
              have hD : va_D A [(t, .inr (8, [.ref tape, .int t_fed, .int t_length, .int t_kind, .int v_26, .int v_26, .int t_number, .int t_sign, .long t_letters, .int t_fault, .int t_faultPlace])), (tape, .inl (cA.1 2, 900, .inl c_tape))] := hD
              obtain ⟨he_r_128, hw⟩ := hw
              have hz_r_128 := hw
              refine lv_if_eq (tgt := 121) hx hb dX8_advance_114 (by decide) (fun c_131 => ?_) (fun c_131 => ?_)
              · skip
                refine lv_iconst (v := 4) hx hb dX8_advance_121 (by decide) ?_
                refine va_put (D := G) (ci := 8) (v := .int 4) (ty := .int) (C := RX8) (T := TX8) (N := 11) hx hb hts inT8 tyX8 tyX8_ok nmX8 hown hK hP hD hS 0 rfl rfl 3 (by decide) (hts _ tw_209) (fun _ h9 => h9) rfl (tyX8_ok 3 (by decide)) rfl rfl (Nat.le_of_ble_eq_true rfl) dX8_advance_122 (fun H locs hP hD hS => ?_)
                have hP : va_P G vwCl [(t, .inr (8, [.ref tape, .int t_fed, .int t_length, .int 4, .int v_26, .int v_26, .int t_number, .int t_sign, .long t_letters, .int t_fault, .int t_faultPlace])), (tape, .inl (cA.1 2, 900, .inl c_tape))] H := hP
                have hD : va_D A [(t, .inr (8, [.ref tape, .int t_fed, .int t_length, .int 4, .int v_26, .int v_26, .int t_number, .int t_sign, .long t_letters, .int t_fault, .int t_faultPlace])), (tape, .inl (cA.1 2, 900, .inl c_tape))] := hD
                refine lv_aload_n hx hb dX8_advance_125 rfl (lv_at hl 1 rfl) ?_
                refine lv_iload_n hx hb dX8_advance_126 rfl (lv_at hl 0 rfl) ?_
                refine va_put (D := G) (ci := 8) (v := .int r_113) (ty := .int) (C := RX8) (T := TX8) (N := 11) hx hb hts inT8 tyX8 tyX8_ok nmX8 hown hK hP hD hS 0 rfl rfl 7 (by decide) (hts _ tw_214) (fun _ h9 => h9) rfl (tyX8_ok 7 (by decide)) rfl rfl (Nat.le_of_ble_eq_true rfl) dX8_advance_127 (fun H locs hP hD hS => ?_)
                have hP : va_P G vwCl [(t, .inr (8, [.ref tape, .int t_fed, .int t_length, .int 4, .int v_26, .int v_26, .int t_number, .int r_113, .long t_letters, .int t_fault, .int t_faultPlace])), (tape, .inl (cA.1 2, 900, .inl c_tape))] H := hP
                have hD : va_D A [(t, .inr (8, [.ref tape, .int t_fed, .int t_length, .int 4, .int v_26, .int v_26, .int t_number, .int r_113, .long t_letters, .int t_fault, .int t_faultPlace])), (tape, .inl (cA.1 2, 900, .inl c_tape))] := hD
                refine lv_aload_n hx hb dX8_advance_130 rfl (lv_at hl 1 rfl) ?_
                refine lv_aload_n hx hb dX8_advance_131 rfl (lv_at hl 1 rfl) ?_
                refine va_get (D := G) (ci := 8) (v := .int v_26) (C := RX8) (T := TX8) (N := 11) hx hb hts inT8 hown hK hP 0 rfl rfl 4 (by decide) (hts _ tw_210) (fun _ h9 => h9) rfl dX8_advance_132 ?_
                refine lv_iconst (v := 1) hx hb dX8_advance_135 (by decide) ?_
                refine lv_iadd hx hb dX8_advance_136 ?_
                refine va_put (D := G) (ci := 8) (v := .int (v_26 + 1)) (ty := .int) (C := RX8) (T := TX8) (N := 11) hx hb hts inT8 tyX8 tyX8_ok nmX8 hown hK hP hD hS 0 rfl rfl 5 (by decide) (hts _ tw_211) (fun _ h9 => h9) rfl (tyX8_ok 5 (by decide)) rfl rfl (Nat.le_of_ble_eq_true rfl) dX8_advance_137 (fun H locs hP hD hS => ?_)
                have hP : va_P G vwCl [(t, .inr (8, [.ref tape, .int t_fed, .int t_length, .int 4, .int v_26, .int (v_26 + 1), .int t_number, .int r_113, .long t_letters, .int t_fault, .int t_faultPlace])), (tape, .inl (cA.1 2, 900, .inl c_tape))] H := hP
                have hD : va_D A [(t, .inr (8, [.ref tape, .int t_fed, .int t_length, .int 4, .int v_26, .int (v_26 + 1), .int t_number, .int r_113, .long t_letters, .int t_fault, .int t_faultPlace])), (tape, .inl (cA.1 2, 900, .inl c_tape))] := hD
                have hX_133 : F_Te_advance t_length t_end t_number t_sign t_letters c_tape = (((4 : Int32), v_26, (v_26 + 1), r_113, t_number, t_letters) : Int32 × Int32 × Int32 × Int32 × Int32 × Int64) := by
                  refine hF_L8a.trans ?_
                  refine (F_Te_advance_L8a_s ..).trans ?_
                  refine (if_pos c_111).trans ?_
                  extract_lets -merge -useContext +onlyGivenNames w9 y9; have e9 : r_113 = w9 := he_r_113; clear_value w9; subst e9
                  refine (if_neg c_116).trans ?_
                  extract_lets -merge -useContext +onlyGivenNames w9 y9; have e9 : r_118 = w9 := he_r_118; clear_value w9; subst e9
                  refine (if_pos c_121).trans ?_
                  extract_lets -merge -useContext +onlyGivenNames w9 y9; have e9 : r_123 = w9 := he_r_123; clear_value w9; subst e9
                  refine (if_pos c_126).trans ?_
                  extract_lets -merge -useContext +onlyGivenNames w9 y9; have e9 : r_128 = w9 := he_r_128; clear_value w9; subst e9
                  refine (if_pos c_131).trans ?_
                  exact rfl
                exact hret _ _ _ _ _ (4, v_26, (v_26 + 1), r_113, t_number, t_letters) [0, 1] hP hD hS rfl (by decide) dX8_advance_140 ⟨(congrArg (fun z9 => z9.1) hX_133).symm, (congrArg (fun z9 => z9.2.1) hX_133).symm, (congrArg (fun z9 => z9.2.2.1) hX_133).symm, (congrArg (fun z9 => z9.2.2.2.1) hX_133).symm, (congrArg (fun z9 => z9.2.2.2.2.1) hX_133).symm, (congrArg (fun z9 => z9.2.2.2.2.2) hX_133).symm, trivial⟩
              · skip
                refine lv_iconst (v := 3) hx hb dX8_advance_117 (by decide) ?_
                refine lv_goto (tgt := 122) hx hb dX8_advance_118 (by decide) ?_
                refine va_put (D := G) (ci := 8) (v := .int 3) (ty := .int) (C := RX8) (T := TX8) (N := 11) hx hb hts inT8 tyX8 tyX8_ok nmX8 hown hK hP hD hS 0 rfl rfl 3 (by decide) (hts _ tw_209) (fun _ h9 => h9) rfl (tyX8_ok 3 (by decide)) rfl rfl (Nat.le_of_ble_eq_true rfl) dX8_advance_122 (fun H locs hP hD hS => ?_)
                have hP : va_P G vwCl [(t, .inr (8, [.ref tape, .int t_fed, .int t_length, .int 3, .int v_26, .int v_26, .int t_number, .int t_sign, .long t_letters, .int t_fault, .int t_faultPlace])), (tape, .inl (cA.1 2, 900, .inl c_tape))] H := hP
                have hD : va_D A [(t, .inr (8, [.ref tape, .int t_fed, .int t_length, .int 3, .int v_26, .int v_26, .int t_number, .int t_sign, .long t_letters, .int t_fault, .int t_faultPlace])), (tape, .inl (cA.1 2, 900, .inl c_tape))] := hD
                refine lv_aload_n hx hb dX8_advance_125 rfl (lv_at hl 1 rfl) ?_
                refine lv_iload_n hx hb dX8_advance_126 rfl (lv_at hl 0 rfl) ?_
                refine va_put (D := G) (ci := 8) (v := .int r_113) (ty := .int) (C := RX8) (T := TX8) (N := 11) hx hb hts inT8 tyX8 tyX8_ok nmX8 hown hK hP hD hS 0 rfl rfl 7 (by decide) (hts _ tw_214) (fun _ h9 => h9) rfl (tyX8_ok 7 (by decide)) rfl rfl (Nat.le_of_ble_eq_true rfl) dX8_advance_127 (fun H locs hP hD hS => ?_)
                have hP : va_P G vwCl [(t, .inr (8, [.ref tape, .int t_fed, .int t_length, .int 3, .int v_26, .int v_26, .int t_number, .int r_113, .long t_letters, .int t_fault, .int t_faultPlace])), (tape, .inl (cA.1 2, 900, .inl c_tape))] H := hP
                have hD : va_D A [(t, .inr (8, [.ref tape, .int t_fed, .int t_length, .int 3, .int v_26, .int v_26, .int t_number, .int r_113, .long t_letters, .int t_fault, .int t_faultPlace])), (tape, .inl (cA.1 2, 900, .inl c_tape))] := hD
                refine lv_aload_n hx hb dX8_advance_130 rfl (lv_at hl 1 rfl) ?_
                refine lv_aload_n hx hb dX8_advance_131 rfl (lv_at hl 1 rfl) ?_
                refine va_get (D := G) (ci := 8) (v := .int v_26) (C := RX8) (T := TX8) (N := 11) hx hb hts inT8 hown hK hP 0 rfl rfl 4 (by decide) (hts _ tw_210) (fun _ h9 => h9) rfl dX8_advance_132 ?_
                refine lv_iconst (v := 1) hx hb dX8_advance_135 (by decide) ?_
                refine lv_iadd hx hb dX8_advance_136 ?_
                refine va_put (D := G) (ci := 8) (v := .int (v_26 + 1)) (ty := .int) (C := RX8) (T := TX8) (N := 11) hx hb hts inT8 tyX8 tyX8_ok nmX8 hown hK hP hD hS 0 rfl rfl 5 (by decide) (hts _ tw_211) (fun _ h9 => h9) rfl (tyX8_ok 5 (by decide)) rfl rfl (Nat.le_of_ble_eq_true rfl) dX8_advance_137 (fun H locs hP hD hS => ?_)
                have hP : va_P G vwCl [(t, .inr (8, [.ref tape, .int t_fed, .int t_length, .int 3, .int v_26, .int (v_26 + 1), .int t_number, .int r_113, .long t_letters, .int t_fault, .int t_faultPlace])), (tape, .inl (cA.1 2, 900, .inl c_tape))] H := hP
                have hD : va_D A [(t, .inr (8, [.ref tape, .int t_fed, .int t_length, .int 3, .int v_26, .int (v_26 + 1), .int t_number, .int r_113, .long t_letters, .int t_fault, .int t_faultPlace])), (tape, .inl (cA.1 2, 900, .inl c_tape))] := hD
                have hX_135 : F_Te_advance t_length t_end t_number t_sign t_letters c_tape = (((3 : Int32), v_26, (v_26 + 1), r_113, t_number, t_letters) : Int32 × Int32 × Int32 × Int32 × Int32 × Int64) := by
                  refine hF_L8a.trans ?_
                  refine (F_Te_advance_L8a_s ..).trans ?_
                  refine (if_pos c_111).trans ?_
                  extract_lets -merge -useContext +onlyGivenNames w9 y9; have e9 : r_113 = w9 := he_r_113; clear_value w9; subst e9
                  refine (if_neg c_116).trans ?_
                  extract_lets -merge -useContext +onlyGivenNames w9 y9; have e9 : r_118 = w9 := he_r_118; clear_value w9; subst e9
                  refine (if_pos c_121).trans ?_
                  extract_lets -merge -useContext +onlyGivenNames w9 y9; have e9 : r_123 = w9 := he_r_123; clear_value w9; subst e9
                  refine (if_pos c_126).trans ?_
                  extract_lets -merge -useContext +onlyGivenNames w9 y9; have e9 : r_128 = w9 := he_r_128; clear_value w9; subst e9
                  refine (if_neg c_131).trans ?_
                  exact rfl
                exact hret _ _ _ _ _ (3, v_26, (v_26 + 1), r_113, t_number, t_letters) [0, 1] hP hD hS rfl (by decide) dX8_advance_140 ⟨(congrArg (fun z9 => z9.1) hX_135).symm, (congrArg (fun z9 => z9.2.1) hX_135).symm, (congrArg (fun z9 => z9.2.2.1) hX_135).symm, (congrArg (fun z9 => z9.2.2.2.1) hX_135).symm, (congrArg (fun z9 => z9.2.2.2.2.1) hX_135).symm, (congrArg (fun z9 => z9.2.2.2.2.2) hX_135).symm, trivial⟩
            · skip
              refine lv_aload_n hx hb dX8_advance_102 rfl (lv_at hl 1 rfl) ?_
              refine z_callVv (As := []) (rest := []) (wr := []) ⟨hx, hb, hml, hown, hts⟩ hK hE hT hP hD hS hA (d_Te_readDigits l G cA t tape t_fed t_length t_kind v_26 v_26 t_number t_sign t_letters t_fault t_faultPlace c_tape) lk_RX8_57 ⟨rfl, rfl⟩ ⟨Nat.le_of_ble_eq_true rfl, Nat.le_of_ble_eq_true rfl⟩ 8 rfl rfl rfl [0, 1] [] rfl rfl (by decide) rfl hl.1 rfl (lv_room (Nat.le_of_ble_eq_true rfl)) dX8_advance_103 ⟨Nat.le_of_ble_eq_true rfl, Nat.le_of_ble_eq_true rfl⟩ (fun u_141 H locs hw hP hD hS => ?_)
              obtain ⟨nw0_137, nw1_138, nw2_139⟩ := u_141
              have hP : va_P G vwCl [(t, .inr (8, [.ref tape, .int t_fed, .int t_length, .int nw0_137, .int v_26, .int nw1_138, .int nw2_139, .int t_sign, .long t_letters, .int t_fault, .int t_faultPlace])), (tape, .inl (cA.1 2, 900, .inl c_tape))] H := hP
              have hD : va_D A [(t, .inr (8, [.ref tape, .int t_fed, .int t_length, .int nw0_137, .int v_26, .int nw1_138, .int nw2_139, .int t_sign, .long t_letters, .int t_fault, .int t_faultPlace])), (tape, .inl (cA.1 2, 900, .inl c_tape))] := hD
              obtain ⟨he_nw0_137, he_nw1_138, he_nw2_139, hw⟩ := hw
              refine lv_goto (tgt := 140) hx hb dX8_advance_106 (by decide) ?_
              have hX_143 : F_Te_advance t_length t_end t_number t_sign t_letters c_tape = ((nw0_137, v_26, nw1_138, t_sign, nw2_139, t_letters) : Int32 × Int32 × Int32 × Int32 × Int32 × Int64) := by
                refine hF_L8a.trans ?_
                refine (F_Te_advance_L8a_s ..).trans ?_
                refine (if_pos c_111).trans ?_
                extract_lets -merge -useContext +onlyGivenNames w9 y9; have e9 : r_113 = w9 := he_r_113; clear_value w9; subst e9
                refine (if_neg c_116).trans ?_
                extract_lets -merge -useContext +onlyGivenNames w9 y9; have e9 : r_118 = w9 := he_r_118; clear_value w9; subst e9
                refine (if_pos c_121).trans ?_
                extract_lets -merge -useContext +onlyGivenNames w9 y9; have e9 : r_123 = w9 := he_r_123; clear_value w9; subst e9
                refine (if_neg c_126).trans ?_
                extract_lets -merge -useContext +onlyGivenNames w9 y7_0 y7_1 y7_2; have e9 : (nw0_137, nw1_138, nw2_139) = w9 := ((z_tS he_nw0_137 (z_tS he_nw1_138 he_nw2_139.symm))).symm; clear_value w9; subst e9
                exact rfl
              exact hret _ _ _ _ _ (nw0_137, v_26, nw1_138, t_sign, nw2_139, t_letters) [0, 1] hP hD hS rfl (by decide) dX8_advance_140 ⟨(congrArg (fun z9 => z9.1) hX_143).symm, (congrArg (fun z9 => z9.2.1) hX_143).symm, (congrArg (fun z9 => z9.2.2.1) hX_143).symm, (congrArg (fun z9 => z9.2.2.2.1) hX_143).symm, (congrArg (fun z9 => z9.2.2.2.2.1) hX_143).symm, (congrArg (fun z9 => z9.2.2.2.2.2) hX_143).symm, trivial⟩
          · skip
            refine lv_aload_n hx hb dX8_advance_83 rfl (lv_at hl 1 rfl) ?_
            refine lv_iconst (v := 1) hx hb dX8_advance_84 (by decide) ?_
            refine va_put (D := G) (ci := 8) (v := .int 1) (ty := .int) (C := RX8) (T := TX8) (N := 11) hx hb hts inT8 tyX8 tyX8_ok nmX8 hown hK hP hD hS 0 rfl rfl 3 (by decide) (hts _ tw_209) (fun _ h9 => h9) rfl (tyX8_ok 3 (by decide)) rfl rfl (Nat.le_of_ble_eq_true rfl) dX8_advance_85 (fun H locs hP hD hS => ?_)
            have hP : va_P G vwCl [(t, .inr (8, [.ref tape, .int t_fed, .int t_length, .int 1, .int v_26, .int v_26, .int t_number, .int t_sign, .long t_letters, .int t_fault, .int t_faultPlace])), (tape, .inl (cA.1 2, 900, .inl c_tape))] H := hP
            have hD : va_D A [(t, .inr (8, [.ref tape, .int t_fed, .int t_length, .int 1, .int v_26, .int v_26, .int t_number, .int t_sign, .long t_letters, .int t_fault, .int t_faultPlace])), (tape, .inl (cA.1 2, 900, .inl c_tape))] := hD
            refine lv_aload_n hx hb dX8_advance_88 rfl (lv_at hl 1 rfl) ?_
            refine z_callVv (As := []) (rest := []) (wr := []) ⟨hx, hb, hml, hown, hts⟩ hK hE hT hP hD hS hA (d_Te_readLetters l G cA t tape t_fed t_length 1 v_26 v_26 t_number t_sign t_letters t_fault t_faultPlace c_tape) lk_RX8_51 ⟨rfl, rfl⟩ ⟨Nat.le_of_ble_eq_true rfl, Nat.le_of_ble_eq_true rfl⟩ 8 rfl rfl rfl [0, 1] [] rfl rfl (by decide) rfl hl.1 rfl (lv_room (Nat.le_of_ble_eq_true rfl)) dX8_advance_89 ⟨Nat.le_of_ble_eq_true rfl, Nat.le_of_ble_eq_true rfl⟩ (fun u_148 H locs hw hP hD hS => ?_)
            obtain ⟨nw0_145, nw1_146⟩ := u_148
            have hP : va_P G vwCl [(t, .inr (8, [.ref tape, .int t_fed, .int t_length, .int 1, .int v_26, .int nw0_145, .int t_number, .int t_sign, .long nw1_146, .int t_fault, .int t_faultPlace])), (tape, .inl (cA.1 2, 900, .inl c_tape))] H := hP
            have hD : va_D A [(t, .inr (8, [.ref tape, .int t_fed, .int t_length, .int 1, .int v_26, .int nw0_145, .int t_number, .int t_sign, .long nw1_146, .int t_fault, .int t_faultPlace])), (tape, .inl (cA.1 2, 900, .inl c_tape))] := hD
            obtain ⟨he_nw0_145, he_nw1_146, hw⟩ := hw
            refine lv_goto (tgt := 140) hx hb dX8_advance_92 (by decide) ?_
            have hX_150 : F_Te_advance t_length t_end t_number t_sign t_letters c_tape = (((1 : Int32), v_26, nw0_145, t_sign, t_number, nw1_146) : Int32 × Int32 × Int32 × Int32 × Int32 × Int64) := by
              refine hF_L8a.trans ?_
              refine (F_Te_advance_L8a_s ..).trans ?_
              refine (if_pos c_111).trans ?_
              extract_lets -merge -useContext +onlyGivenNames w9 y9; have e9 : r_113 = w9 := he_r_113; clear_value w9; subst e9
              refine (if_neg c_116).trans ?_
              extract_lets -merge -useContext +onlyGivenNames w9 y9; have e9 : r_118 = w9 := he_r_118; clear_value w9; subst e9
              refine (if_neg c_121).trans ?_
              extract_lets -merge -useContext +onlyGivenNames w9 y5_0 y5_1; have e9 : (nw0_145, nw1_146) = w9 := ((z_tS he_nw0_145 he_nw1_146.symm)).symm; clear_value w9; subst e9
              exact rfl
            exact hret _ _ _ _ _ (1, v_26, nw0_145, t_sign, t_number, nw1_146) [0, 1] hP hD hS rfl (by decide) dX8_advance_140 ⟨(congrArg (fun z9 => z9.1) hX_150).symm, (congrArg (fun z9 => z9.2.1) hX_150).symm, (congrArg (fun z9 => z9.2.2.1) hX_150).symm, (congrArg (fun z9 => z9.2.2.2.1) hX_150).symm, (congrArg (fun z9 => z9.2.2.2.2.1) hX_150).symm, (congrArg (fun z9 => z9.2.2.2.2.2) hX_150).symm, trivial⟩
        · skip
          refine lv_aload_n hx hb dX8_advance_68 rfl (lv_at hl 1 rfl) ?_
          refine lv_iconst (v := 0) hx hb dX8_advance_69 (by decide) ?_
          refine va_put (D := G) (ci := 8) (v := .int 0) (ty := .int) (C := RX8) (T := TX8) (N := 11) hx hb hts inT8 tyX8 tyX8_ok nmX8 hown hK hP hD hS 0 rfl rfl 3 (by decide) (hts _ tw_209) (fun _ h9 => h9) rfl (tyX8_ok 3 (by decide)) rfl rfl (Nat.le_of_ble_eq_true rfl) dX8_advance_70 (fun H locs hP hD hS => ?_)
          have hP : va_P G vwCl [(t, .inr (8, [.ref tape, .int t_fed, .int t_length, .int 0, .int v_26, .int v_26, .int t_number, .int t_sign, .long t_letters, .int t_fault, .int t_faultPlace])), (tape, .inl (cA.1 2, 900, .inl c_tape))] H := hP
          have hD : va_D A [(t, .inr (8, [.ref tape, .int t_fed, .int t_length, .int 0, .int v_26, .int v_26, .int t_number, .int t_sign, .long t_letters, .int t_fault, .int t_faultPlace])), (tape, .inl (cA.1 2, 900, .inl c_tape))] := hD
          refine lv_goto (tgt := 140) hx hb dX8_advance_73 (by decide) ?_
          have hX_152 : F_Te_advance t_length t_end t_number t_sign t_letters c_tape = (((0 : Int32), v_26, v_26, t_sign, t_number, t_letters) : Int32 × Int32 × Int32 × Int32 × Int32 × Int64) := by
            refine hF_L8a.trans ?_
            refine (F_Te_advance_L8a_s ..).trans ?_
            refine (if_pos c_111).trans ?_
            extract_lets -merge -useContext +onlyGivenNames w9 y9; have e9 : r_113 = w9 := he_r_113; clear_value w9; subst e9
            refine (if_pos c_116).trans ?_
            exact rfl
          exact hret _ _ _ _ _ (0, v_26, v_26, t_sign, t_number, t_letters) [0, 1] hP hD hS rfl (by decide) dX8_advance_140 ⟨(congrArg (fun z9 => z9.1) hX_152).symm, (congrArg (fun z9 => z9.2.1) hX_152).symm, (congrArg (fun z9 => z9.2.2.1) hX_152).symm, (congrArg (fun z9 => z9.2.2.2.1) hX_152).symm, (congrArg (fun z9 => z9.2.2.2.2.1) hX_152).symm, (congrArg (fun z9 => z9.2.2.2.2.2) hX_152).symm, trivial⟩
      · have b_153 := z_t2 c_111
        refine lv_aload_n hx hb dX8_advance_19 rfl (lv_at hl 0 rfl) ?_
        refine lv_aload_n hx hb dX8_advance_20 rfl (lv_at hl 0 rfl) ?_
        refine va_get (D := G) (ci := 8) (v := .int v_26) (C := RX8) (T := TX8) (N := 11) hx hb hts inT8 hown hK hP 0 rfl rfl 4 (by decide) (hts _ tw_210) (fun _ h9 => h9) rfl dX8_advance_21 ?_
        refine z_callVi (As := [.int v_26]) (rest := []) (wr := []) ⟨hx, hb, hml, hown, hts⟩ hK hE hT hP hD hS hA (d_Te_byteAt l G cA t tape t_fed t_length t_kind v_26 t_end t_number t_sign t_letters t_fault t_faultPlace c_tape v_26) lk_RX8_40 ⟨rfl, rfl⟩ ⟨Nat.le_of_ble_eq_true rfl, Nat.le_of_ble_eq_true rfl⟩ 8 rfl rfl rfl [0, 1] [] rfl rfl (by decide) rfl hl.1 rfl (lv_room (Nat.le_of_ble_eq_true rfl)) dX8_advance_24 ⟨Nat.le_of_ble_eq_true rfl, Nat.le_of_ble_eq_true rfl⟩ (fun r_154 u_155 H locs hw hP hD hS => ?_)
        have hP : va_P G vwCl [(t, .inr (8, [.ref tape, .int t_fed, .int t_length, .int t_kind, .int v_26, .int t_end, .int t_number, .int t_sign, .long t_letters, .int t_fault, .int t_faultPlace])), (tape, .inl (cA.1 2, 900, .inl c_tape))] H := hP
        have hD : va_D A [(t, .inr (8, [.ref tape, .int t_fed, .int t_length, .int t_kind, .int v_26, .int t_end, .int t_number, .int t_sign, .long t_letters, .int t_fault, .int t_faultPlace])), (tape, .inl (cA.1 2, 900, .inl c_tape))] := hD
        obtain ⟨he_r_154, hw⟩ := hw
        refine z_callSi (As := [.int r_154]) (rest := []) (wr := [(t, .inr (8, [.ref tape, .int t_fed, .int t_length, .int t_kind, .int v_26, .int t_end, .int t_number, .int t_sign, .long t_letters, .int t_fault, .int t_faultPlace])), (tape, .inl (cA.1 2, 900, .inl c_tape))]) ⟨hx, hb, hml, hown, hts⟩ hK hE hT hP hD hS hA (d_Te_isBlank l G cA r_154) lk_RX8_44 ⟨rfl, rfl⟩ ⟨Nat.le_of_ble_eq_true rfl, Nat.le_of_ble_eq_true rfl⟩ [] [0, 1] rfl rfl (by decide) rfl hl.1 rfl (lv_room (Nat.le_of_ble_eq_true rfl)) dX8_advance_27 ⟨Nat.le_of_ble_eq_true rfl, Nat.le_of_ble_eq_true rfl⟩ (fun r_157 u_158 H locs hw hP hD hS => ?_)
        have hP : va_P G vwCl [(t, .inr (8, [.ref tape, .int t_fed, .int t_length, .int t_kind, .int v_26, .int t_end, .int t_number, .int t_sign, .long t_letters, .int t_fault, .int t_faultPlace])), (tape, .inl (cA.1 2, 900, .inl c_tape))] H := hP
        have hD : va_D A [(t, .inr (8, [.ref tape, .int t_fed, .int t_length, .int t_kind, .int v_26, .int t_end, .int t_number, .int t_sign, .long t_letters, .int t_fault, .int t_faultPlace])), (tape, .inl (cA.1 2, 900, .inl c_tape))] := hD
        obtain ⟨he_r_157, hw⟩ := hw
        have hz_r_157 := hw
        refine lv_if_eq (tgt := 46) hx hb dX8_advance_30 (by decide) (fun c_160 => ?_) (fun c_160 => ?_)
        · skip
          refine lv_aload_n hx hb dX8_advance_46 rfl (lv_at hl 0 rfl) ?_
          refine lv_aload_n hx hb dX8_advance_47 rfl (lv_at hl 0 rfl) ?_
          refine va_get (D := G) (ci := 8) (v := .int v_26) (C := RX8) (T := TX8) (N := 11) hx hb hts inT8 hown hK hP 0 rfl rfl 4 (by decide) (hts _ tw_210) (fun _ h9 => h9) rfl dX8_advance_48 ?_
          refine va_put (D := G) (ci := 8) (v := .int v_26) (ty := .int) (C := RX8) (T := TX8) (N := 11) hx hb hts inT8 tyX8 tyX8_ok nmX8 hown hK hP hD hS 0 rfl rfl 5 (by decide) (hts _ tw_211) (fun _ h9 => h9) rfl (tyX8_ok 5 (by decide)) rfl rfl (Nat.le_of_ble_eq_true rfl) dX8_advance_51 (fun H locs hP hD hS => ?_)
          have hP : va_P G vwCl [(t, .inr (8, [.ref tape, .int t_fed, .int t_length, .int t_kind, .int v_26, .int v_26, .int t_number, .int t_sign, .long t_letters, .int t_fault, .int t_faultPlace])), (tape, .inl (cA.1 2, 900, .inl c_tape))] H := hP
          have hD : va_D A [(t, .inr (8, [.ref tape, .int t_fed, .int t_length, .int t_kind, .int v_26, .int v_26, .int t_number, .int t_sign, .long t_letters, .int t_fault, .int t_faultPlace])), (tape, .inl (cA.1 2, 900, .inl c_tape))] := hD
          refine lv_aload_n hx hb dX8_advance_54 rfl (lv_at hl 0 rfl) ?_
          refine lv_aload_n hx hb dX8_advance_55 rfl (lv_at hl 0 rfl) ?_
          refine va_get (D := G) (ci := 8) (v := .int v_26) (C := RX8) (T := TX8) (N := 11) hx hb hts inT8 hown hK hP 0 rfl rfl 4 (by decide) (hts _ tw_210) (fun _ h9 => h9) rfl dX8_advance_56 ?_
          refine z_callVi (As := [.int v_26]) (rest := []) (wr := []) ⟨hx, hb, hml, hown, hts⟩ hK hE hT hP hD hS hA (d_Te_byteAt l G cA t tape t_fed t_length t_kind v_26 v_26 t_number t_sign t_letters t_fault t_faultPlace c_tape v_26) lk_RX8_40 ⟨rfl, rfl⟩ ⟨Nat.le_of_ble_eq_true rfl, Nat.le_of_ble_eq_true rfl⟩ 8 rfl rfl rfl [0, 1] [] rfl rfl (by decide) rfl hl.1 rfl (lv_room (Nat.le_of_ble_eq_true rfl)) dX8_advance_59 ⟨Nat.le_of_ble_eq_true rfl, Nat.le_of_ble_eq_true rfl⟩ (fun r_162 u_163 H locs hw hP hD hS => ?_)
          have hP : va_P G vwCl [(t, .inr (8, [.ref tape, .int t_fed, .int t_length, .int t_kind, .int v_26, .int v_26, .int t_number, .int t_sign, .long t_letters, .int t_fault, .int t_faultPlace])), (tape, .inl (cA.1 2, 900, .inl c_tape))] H := hP
          have hD : va_D A [(t, .inr (8, [.ref tape, .int t_fed, .int t_length, .int t_kind, .int v_26, .int v_26, .int t_number, .int t_sign, .long t_letters, .int t_fault, .int t_faultPlace])), (tape, .inl (cA.1 2, 900, .inl c_tape))] := hD
          obtain ⟨he_r_162, hw⟩ := hw
          refine lv_istore_n (lv' := [(1, .int r_162), (0, .ref t)]) hx hb dX8_advance_62 rfl hl (by decide) rfl (fun ls hl => ?_)
          refine lv_iload_n hx hb dX8_advance_63 rfl (lv_at hl 0 rfl) ?_
          refine lv_iconst (v := (-1)) hx hb dX8_advance_64 (by decide) ?_
          refine lv_icmp_ne (tgt := 76) hx hb dX8_advance_65 (by decide) (fun c_165 => ?_) (fun c_165 => ?_)
          · skip
            refine lv_iload_n hx hb dX8_advance_76 rfl (lv_at hl 0 rfl) ?_
            refine z_callSi (As := [.int r_162]) (rest := []) (wr := [(t, .inr (8, [.ref tape, .int t_fed, .int t_length, .int t_kind, .int v_26, .int v_26, .int t_number, .int t_sign, .long t_letters, .int t_fault, .int t_faultPlace])), (tape, .inl (cA.1 2, 900, .inl c_tape))]) ⟨hx, hb, hml, hown, hts⟩ hK hE hT hP hD hS hA (d_Te_isLetter l G cA r_162) lk_RX8_48 ⟨rfl, rfl⟩ ⟨Nat.le_of_ble_eq_true rfl, Nat.le_of_ble_eq_true rfl⟩ [] [0, 1] rfl rfl (by decide) rfl hl.1 rfl (lv_room (Nat.le_of_ble_eq_true rfl)) dX8_advance_77 ⟨Nat.le_of_ble_eq_true rfl, Nat.le_of_ble_eq_true rfl⟩ (fun r_167 u_168 H locs hw hP hD hS => ?_)
            have hP : va_P G vwCl [(t, .inr (8, [.ref tape, .int t_fed, .int t_length, .int t_kind, .int v_26, .int v_26, .int t_number, .int t_sign, .long t_letters, .int t_fault, .int t_faultPlace])), (tape, .inl (cA.1 2, 900, .inl c_tape))] H := hP
            have hD : va_D A [(t, .inr (8, [.ref tape, .int t_fed, .int t_length, .int t_kind, .int v_26, .int v_26, .int t_number, .int t_sign, .long t_letters, .int t_fault, .int t_faultPlace])), (tape, .inl (cA.1 2, 900, .inl c_tape))] := hD
            obtain ⟨he_r_167, hw⟩ := hw
            have hz_r_167 := hw
            refine lv_if_eq (tgt := 95) hx hb dX8_advance_80 (by decide) (fun c_170 => ?_) (fun c_170 => ?_)
            · skip
              refine lv_iload_n hx hb dX8_advance_95 rfl (lv_at hl 0 rfl) ?_
              refine z_callSi (As := [.int r_162]) (rest := []) (wr := [(t, .inr (8, [.ref tape, .int t_fed, .int t_length, .int t_kind, .int v_26, .int v_26, .int t_number, .int t_sign, .long t_letters, .int t_fault, .int t_faultPlace])), (tape, .inl (cA.1 2, 900, .inl c_tape))]) ⟨hx, hb, hml, hown, hts⟩ hK hE hT hP hD hS hA (d_Te_isDigit l G cA r_162) lk_RX8_54 ⟨rfl, rfl⟩ ⟨Nat.le_of_ble_eq_true rfl, Nat.le_of_ble_eq_true rfl⟩ [] [0, 1] rfl rfl (by decide) rfl hl.1 rfl (lv_room (Nat.le_of_ble_eq_true rfl)) dX8_advance_96 ⟨Nat.le_of_ble_eq_true rfl, Nat.le_of_ble_eq_true rfl⟩ (fun r_172 u_173 H locs hw hP hD hS => ?_)
              have hP : va_P G vwCl [(t, .inr (8, [.ref tape, .int t_fed, .int t_length, .int t_kind, .int v_26, .int v_26, .int t_number, .int t_sign, .long t_letters, .int t_fault, .int t_faultPlace])), (tape, .inl (cA.1 2, 900, .inl c_tape))] H := hP
              have hD : va_D A [(t, .inr (8, [.ref tape, .int t_fed, .int t_length, .int t_kind, .int v_26, .int v_26, .int t_number, .int t_sign, .long t_letters, .int t_fault, .int t_faultPlace])), (tape, .inl (cA.1 2, 900, .inl c_tape))] := hD
              obtain ⟨he_r_172, hw⟩ := hw
              have hz_r_172 := hw
              refine lv_if_eq (tgt := 109) hx hb dX8_advance_99 (by decide) (fun c_175 => ?_) (fun c_175 => ?_)
              · skip
                refine lv_aload_n hx hb dX8_advance_109 rfl (lv_at hl 1 rfl) ?_
                refine lv_iload_n hx hb dX8_advance_110 rfl (lv_at hl 0 rfl) ?_
                refine z_callSi (As := [.int r_162]) (rest := [.ref t]) (wr := [(t, .inr (8, [.ref tape, .int t_fed, .int t_length, .int t_kind, .int v_26, .int v_26, .int t_number, .int t_sign, .long t_letters, .int t_fault, .int t_faultPlace])), (tape, .inl (cA.1 2, 900, .inl c_tape))]) ⟨hx, hb, hml, hown, hts⟩ hK hE hT hP hD hS hA (d_Te_isSignOf l G cA r_162) lk_RX8_60 ⟨rfl, rfl⟩ ⟨Nat.le_of_ble_eq_true rfl, Nat.le_of_ble_eq_true rfl⟩ [] [0, 1] rfl rfl (by decide) rfl hl.1 rfl (lv_room (Nat.le_of_ble_eq_true rfl)) dX8_advance_111 ⟨Nat.le_of_ble_eq_true rfl, Nat.le_of_ble_eq_true rfl⟩ (fun r_177 u_178 H locs hw hP hD hS => ?_)
                have hP : va_P G vwCl [(t, .inr (8, [.ref tape, .int t_fed, .int t_length, .int t_kind, .int v_26, .int v_26, .int t_number, .int t_sign, .long t_letters, .int t_fault, .int t_faultPlace])), (tape, .inl (cA.1 2, 900, .inl c_tape))] H := hP
                have hD : va_D A [(t, .inr (8, [.ref tape, .int t_fed, .int t_length, .int t_kind, .int v_26, .int v_26, .int t_number, .int t_sign, .long t_letters, .int t_fault, .int t_faultPlace])), (tape, .inl (cA.1 2, 900, .inl c_tape))] := hD
                obtain ⟨he_r_177, hw⟩ := hw
                have hz_r_177 := hw
                refine lv_if_eq (tgt := 121) hx hb dX8_advance_114 (by decide) (fun c_180 => ?_) (fun c_180 => ?_)
                · skip
                  refine lv_iconst (v := 4) hx hb dX8_advance_121 (by decide) ?_
                  refine va_put (D := G) (ci := 8) (v := .int 4) (ty := .int) (C := RX8) (T := TX8) (N := 11) hx hb hts inT8 tyX8 tyX8_ok nmX8 hown hK hP hD hS 0 rfl rfl 3 (by decide) (hts _ tw_209) (fun _ h9 => h9) rfl (tyX8_ok 3 (by decide)) rfl rfl (Nat.le_of_ble_eq_true rfl) dX8_advance_122 (fun H locs hP hD hS => ?_)
                  have hP : va_P G vwCl [(t, .inr (8, [.ref tape, .int t_fed, .int t_length, .int 4, .int v_26, .int v_26, .int t_number, .int t_sign, .long t_letters, .int t_fault, .int t_faultPlace])), (tape, .inl (cA.1 2, 900, .inl c_tape))] H := hP
                  have hD : va_D A [(t, .inr (8, [.ref tape, .int t_fed, .int t_length, .int 4, .int v_26, .int v_26, .int t_number, .int t_sign, .long t_letters, .int t_fault, .int t_faultPlace])), (tape, .inl (cA.1 2, 900, .inl c_tape))] := hD
                  refine lv_aload_n hx hb dX8_advance_125 rfl (lv_at hl 1 rfl) ?_
                  refine lv_iload_n hx hb dX8_advance_126 rfl (lv_at hl 0 rfl) ?_
                  refine va_put (D := G) (ci := 8) (v := .int r_162) (ty := .int) (C := RX8) (T := TX8) (N := 11) hx hb hts inT8 tyX8 tyX8_ok nmX8 hown hK hP hD hS 0 rfl rfl 7 (by decide) (hts _ tw_214) (fun _ h9 => h9) rfl (tyX8_ok 7 (by decide)) rfl rfl (Nat.le_of_ble_eq_true rfl) dX8_advance_127 (fun H locs hP hD hS => ?_)
                  have hP : va_P G vwCl [(t, .inr (8, [.ref tape, .int t_fed, .int t_length, .int 4, .int v_26, .int v_26, .int t_number, .int r_162, .long t_letters, .int t_fault, .int t_faultPlace])), (tape, .inl (cA.1 2, 900, .inl c_tape))] H := hP
                  have hD : va_D A [(t, .inr (8, [.ref tape, .int t_fed, .int t_length, .int 4, .int v_26, .int v_26, .int t_number, .int r_162, .long t_letters, .int t_fault, .int t_faultPlace])), (tape, .inl (cA.1 2, 900, .inl c_tape))] := hD
                  refine lv_aload_n hx hb dX8_advance_130 rfl (lv_at hl 1 rfl) ?_
                  refine lv_aload_n hx hb dX8_advance_131 rfl (lv_at hl 1 rfl) ?_
                  refine va_get (D := G) (ci := 8) (v := .int v_26) (C := RX8) (T := TX8) (N := 11) hx hb hts inT8 hown hK hP 0 rfl rfl 4 (by decide) (hts _ tw_210) (fun _ h9 => h9) rfl dX8_advance_132 ?_
                  refine lv_iconst (v := 1) hx hb dX8_advance_135 (by decide) ?_
                  refine lv_iadd hx hb dX8_advance_136 ?_
                  refine va_put (D := G) (ci := 8) (v := .int (v_26 + 1)) (ty := .int) (C := RX8) (T := TX8) (N := 11) hx hb hts inT8 tyX8 tyX8_ok nmX8 hown hK hP hD hS 0 rfl rfl 5 (by decide) (hts _ tw_211) (fun _ h9 => h9) rfl (tyX8_ok 5 (by decide)) rfl rfl (Nat.le_of_ble_eq_true rfl) dX8_advance_137 (fun H locs hP hD hS => ?_)
                  have hP : va_P G vwCl [(t, .inr (8, [.ref tape, .int t_fed, .int t_length, .int 4, .int v_26, .int (v_26 + 1), .int t_number, .int r_162, .long t_letters, .int t_fault, .int t_faultPlace])), (tape, .inl (cA.1 2, 900, .inl c_tape))] H := hP
                  have hD : va_D A [(t, .inr (8, [.ref tape, .int t_fed, .int t_length, .int 4, .int v_26, .int (v_26 + 1), .int t_number, .int r_162, .long t_letters, .int t_fault, .int t_faultPlace])), (tape, .inl (cA.1 2, 900, .inl c_tape))] := hD
                  have hX_182 : F_Te_advance t_length t_end t_number t_sign t_letters c_tape = (((4 : Int32), v_26, (v_26 + 1), r_162, t_number, t_letters) : Int32 × Int32 × Int32 × Int32 × Int32 × Int64) := by
                    refine hF_L8a.trans ?_
                    refine (F_Te_advance_L8a_s ..).trans ?_
                    refine (if_neg c_111).trans ?_
                    extract_lets -merge -useContext +onlyGivenNames w9 y9; have e9 : r_154 = w9 := he_r_154; clear_value w9; subst e9
                    extract_lets -merge -useContext +onlyGivenNames w9 y9; have e9 : r_157 = w9 := he_r_157; clear_value w9; subst e9
                    refine (if_pos c_160).trans ?_
                    extract_lets -merge -useContext +onlyGivenNames w9 y9; have e9 : r_162 = w9 := he_r_162; clear_value w9; subst e9
                    refine (if_neg c_165).trans ?_
                    extract_lets -merge -useContext +onlyGivenNames w9 y9; have e9 : r_167 = w9 := he_r_167; clear_value w9; subst e9
                    refine (if_pos c_170).trans ?_
                    extract_lets -merge -useContext +onlyGivenNames w9 y9; have e9 : r_172 = w9 := he_r_172; clear_value w9; subst e9
                    refine (if_pos c_175).trans ?_
                    extract_lets -merge -useContext +onlyGivenNames w9 y9; have e9 : r_177 = w9 := he_r_177; clear_value w9; subst e9
                    refine (if_pos c_180).trans ?_
                    exact rfl
                  exact hret _ _ _ _ _ (4, v_26, (v_26 + 1), r_162, t_number, t_letters) [0, 1] hP hD hS rfl (by decide) dX8_advance_140 ⟨(congrArg (fun z9 => z9.1) hX_182).symm, (congrArg (fun z9 => z9.2.1) hX_182).symm, (congrArg (fun z9 => z9.2.2.1) hX_182).symm, (congrArg (fun z9 => z9.2.2.2.1) hX_182).symm, (congrArg (fun z9 => z9.2.2.2.2.1) hX_182).symm, (congrArg (fun z9 => z9.2.2.2.2.2) hX_182).symm, trivial⟩
                · skip
                  refine lv_iconst (v := 3) hx hb dX8_advance_117 (by decide) ?_
                  refine lv_goto (tgt := 122) hx hb dX8_advance_118 (by decide) ?_
                  refine va_put (D := G) (ci := 8) (v := .int 3) (ty := .int) (C := RX8) (T := TX8) (N := 11) hx hb hts inT8 tyX8 tyX8_ok nmX8 hown hK hP hD hS 0 rfl rfl 3 (by decide) (hts _ tw_209) (fun _ h9 => h9) rfl (tyX8_ok 3 (by decide)) rfl rfl (Nat.le_of_ble_eq_true rfl) dX8_advance_122 (fun H locs hP hD hS => ?_)
                  have hP : va_P G vwCl [(t, .inr (8, [.ref tape, .int t_fed, .int t_length, .int 3, .int v_26, .int v_26, .int t_number, .int t_sign, .long t_letters, .int t_fault, .int t_faultPlace])), (tape, .inl (cA.1 2, 900, .inl c_tape))] H := hP
                  have hD : va_D A [(t, .inr (8, [.ref tape, .int t_fed, .int t_length, .int 3, .int v_26, .int v_26, .int t_number, .int t_sign, .long t_letters, .int t_fault, .int t_faultPlace])), (tape, .inl (cA.1 2, 900, .inl c_tape))] := hD
                  refine lv_aload_n hx hb dX8_advance_125 rfl (lv_at hl 1 rfl) ?_
                  refine lv_iload_n hx hb dX8_advance_126 rfl (lv_at hl 0 rfl) ?_
                  refine va_put (D := G) (ci := 8) (v := .int r_162) (ty := .int) (C := RX8) (T := TX8) (N := 11) hx hb hts inT8 tyX8 tyX8_ok nmX8 hown hK hP hD hS 0 rfl rfl 7 (by decide) (hts _ tw_214) (fun _ h9 => h9) rfl (tyX8_ok 7 (by decide)) rfl rfl (Nat.le_of_ble_eq_true rfl) dX8_advance_127 (fun H locs hP hD hS => ?_)
                  have hP : va_P G vwCl [(t, .inr (8, [.ref tape, .int t_fed, .int t_length, .int 3, .int v_26, .int v_26, .int t_number, .int r_162, .long t_letters, .int t_fault, .int t_faultPlace])), (tape, .inl (cA.1 2, 900, .inl c_tape))] H := hP
                  have hD : va_D A [(t, .inr (8, [.ref tape, .int t_fed, .int t_length, .int 3, .int v_26, .int v_26, .int t_number, .int r_162, .long t_letters, .int t_fault, .int t_faultPlace])), (tape, .inl (cA.1 2, 900, .inl c_tape))] := hD
                  refine lv_aload_n hx hb dX8_advance_130 rfl (lv_at hl 1 rfl) ?_
                  refine lv_aload_n hx hb dX8_advance_131 rfl (lv_at hl 1 rfl) ?_
                  refine va_get (D := G) (ci := 8) (v := .int v_26) (C := RX8) (T := TX8) (N := 11) hx hb hts inT8 hown hK hP 0 rfl rfl 4 (by decide) (hts _ tw_210) (fun _ h9 => h9) rfl dX8_advance_132 ?_
                  refine lv_iconst (v := 1) hx hb dX8_advance_135 (by decide) ?_
                  refine lv_iadd hx hb dX8_advance_136 ?_
                  refine va_put (D := G) (ci := 8) (v := .int (v_26 + 1)) (ty := .int) (C := RX8) (T := TX8) (N := 11) hx hb hts inT8 tyX8 tyX8_ok nmX8 hown hK hP hD hS 0 rfl rfl 5 (by decide) (hts _ tw_211) (fun _ h9 => h9) rfl (tyX8_ok 5 (by decide)) rfl rfl (Nat.le_of_ble_eq_true rfl) dX8_advance_137 (fun H locs hP hD hS => ?_)
                  have hP : va_P G vwCl [(t, .inr (8, [.ref tape, .int t_fed, .int t_length, .int 3, .int v_26, .int (v_26 + 1), .int t_number, .int r_162, .long t_letters, .int t_fault, .int t_faultPlace])), (tape, .inl (cA.1 2, 900, .inl c_tape))] H := hP
                  have hD : va_D A [(t, .inr (8, [.ref tape, .int t_fed, .int t_length, .int 3, .int v_26, .int (v_26 + 1), .int t_number, .int r_162, .long t_letters, .int t_fault, .int t_faultPlace])), (tape, .inl (cA.1 2, 900, .inl c_tape))] := hD
                  have hX_184 : F_Te_advance t_length t_end t_number t_sign t_letters c_tape = (((3 : Int32), v_26, (v_26 + 1), r_162, t_number, t_letters) : Int32 × Int32 × Int32 × Int32 × Int32 × Int64) := by
                    refine hF_L8a.trans ?_
                    refine (F_Te_advance_L8a_s ..).trans ?_
                    refine (if_neg c_111).trans ?_
                    extract_lets -merge -useContext +onlyGivenNames w9 y9; have e9 : r_154 = w9 := he_r_154; clear_value w9; subst e9
                    extract_lets -merge -useContext +onlyGivenNames w9 y9; have e9 : r_157 = w9 := he_r_157; clear_value w9; subst e9
                    refine (if_pos c_160).trans ?_
                    extract_lets -merge -useContext +onlyGivenNames w9 y9; have e9 : r_162 = w9 := he_r_162; clear_value w9; subst e9
                    refine (if_neg c_165).trans ?_
                    extract_lets -merge -useContext +onlyGivenNames w9 y9; have e9 : r_167 = w9 := he_r_167; clear_value w9; subst e9
                    refine (if_pos c_170).trans ?_
                    extract_lets -merge -useContext +onlyGivenNames w9 y9; have e9 : r_172 = w9 := he_r_172; clear_value w9; subst e9
                    refine (if_pos c_175).trans ?_
                    extract_lets -merge -useContext +onlyGivenNames w9 y9; have e9 : r_177 = w9 := he_r_177; clear_value w9; subst e9
                    refine (if_neg c_180).trans ?_
                    exact rfl
                  exact hret _ _ _ _ _ (3, v_26, (v_26 + 1), r_162, t_number, t_letters) [0, 1] hP hD hS rfl (by decide) dX8_advance_140 ⟨(congrArg (fun z9 => z9.1) hX_184).symm, (congrArg (fun z9 => z9.2.1) hX_184).symm, (congrArg (fun z9 => z9.2.2.1) hX_184).symm, (congrArg (fun z9 => z9.2.2.2.1) hX_184).symm, (congrArg (fun z9 => z9.2.2.2.2.1) hX_184).symm, (congrArg (fun z9 => z9.2.2.2.2.2) hX_184).symm, trivial⟩
              · skip
                refine lv_aload_n hx hb dX8_advance_102 rfl (lv_at hl 1 rfl) ?_
                refine z_callVv (As := []) (rest := []) (wr := []) ⟨hx, hb, hml, hown, hts⟩ hK hE hT hP hD hS hA (d_Te_readDigits l G cA t tape t_fed t_length t_kind v_26 v_26 t_number t_sign t_letters t_fault t_faultPlace c_tape) lk_RX8_57 ⟨rfl, rfl⟩ ⟨Nat.le_of_ble_eq_true rfl, Nat.le_of_ble_eq_true rfl⟩ 8 rfl rfl rfl [0, 1] [] rfl rfl (by decide) rfl hl.1 rfl (lv_room (Nat.le_of_ble_eq_true rfl)) dX8_advance_103 ⟨Nat.le_of_ble_eq_true rfl, Nat.le_of_ble_eq_true rfl⟩ (fun u_190 H locs hw hP hD hS => ?_)
                obtain ⟨nw0_186, nw1_187, nw2_188⟩ := u_190
                have hP : va_P G vwCl [(t, .inr (8, [.ref tape, .int t_fed, .int t_length, .int nw0_186, .int v_26, .int nw1_187, .int nw2_188, .int t_sign, .long t_letters, .int t_fault, .int t_faultPlace])), (tape, .inl (cA.1 2, 900, .inl c_tape))] H := hP
                have hD : va_D A [(t, .inr (8, [.ref tape, .int t_fed, .int t_length, .int nw0_186, .int v_26, .int nw1_187, .int nw2_188, .int t_sign, .long t_letters, .int t_fault, .int t_faultPlace])), (tape, .inl (cA.1 2, 900, .inl c_tape))] := hD
                obtain ⟨he_nw0_186, he_nw1_187, he_nw2_188, hw⟩ := hw
                refine lv_goto (tgt := 140) hx hb dX8_advance_106 (by decide) ?_
                have hX_192 : F_Te_advance t_length t_end t_number t_sign t_letters c_tape = ((nw0_186, v_26, nw1_187, t_sign, nw2_188, t_letters) : Int32 × Int32 × Int32 × Int32 × Int32 × Int64) := by
                  refine hF_L8a.trans ?_
                  refine (F_Te_advance_L8a_s ..).trans ?_
                  refine (if_neg c_111).trans ?_
                  extract_lets -merge -useContext +onlyGivenNames w9 y9; have e9 : r_154 = w9 := he_r_154; clear_value w9; subst e9
                  extract_lets -merge -useContext +onlyGivenNames w9 y9; have e9 : r_157 = w9 := he_r_157; clear_value w9; subst e9
                  refine (if_pos c_160).trans ?_
                  extract_lets -merge -useContext +onlyGivenNames w9 y9; have e9 : r_162 = w9 := he_r_162; clear_value w9; subst e9
                  refine (if_neg c_165).trans ?_
                  extract_lets -merge -useContext +onlyGivenNames w9 y9; have e9 : r_167 = w9 := he_r_167; clear_value w9; subst e9
                  refine (if_pos c_170).trans ?_
                  extract_lets -merge -useContext +onlyGivenNames w9 y9; have e9 : r_172 = w9 := he_r_172; clear_value w9; subst e9
                  refine (if_neg c_175).trans ?_
                  extract_lets -merge -useContext +onlyGivenNames w9 y10_0 y10_1 y10_2; have e9 : (nw0_186, nw1_187, nw2_188) = w9 := ((z_tS he_nw0_186 (z_tS he_nw1_187 he_nw2_188.symm))).symm; clear_value w9; subst e9
                  exact rfl
                exact hret _ _ _ _ _ (nw0_186, v_26, nw1_187, t_sign, nw2_188, t_letters) [0, 1] hP hD hS rfl (by decide) dX8_advance_140 ⟨(congrArg (fun z9 => z9.1) hX_192).symm, (congrArg (fun z9 => z9.2.1) hX_192).symm, (congrArg (fun z9 => z9.2.2.1) hX_192).symm, (congrArg (fun z9 => z9.2.2.2.1) hX_192).symm, (congrArg (fun z9 => z9.2.2.2.2.1) hX_192).symm, (congrArg (fun z9 => z9.2.2.2.2.2) hX_192).symm, trivial⟩
            · skip
              refine lv_aload_n hx hb dX8_advance_83 rfl (lv_at hl 1 rfl) ?_
              refine lv_iconst (v := 1) hx hb dX8_advance_84 (by decide) ?_
              refine va_put (D := G) (ci := 8) (v := .int 1) (ty := .int) (C := RX8) (T := TX8) (N := 11) hx hb hts inT8 tyX8 tyX8_ok nmX8 hown hK hP hD hS 0 rfl rfl 3 (by decide) (hts _ tw_209) (fun _ h9 => h9) rfl (tyX8_ok 3 (by decide)) rfl rfl (Nat.le_of_ble_eq_true rfl) dX8_advance_85 (fun H locs hP hD hS => ?_)
              have hP : va_P G vwCl [(t, .inr (8, [.ref tape, .int t_fed, .int t_length, .int 1, .int v_26, .int v_26, .int t_number, .int t_sign, .long t_letters, .int t_fault, .int t_faultPlace])), (tape, .inl (cA.1 2, 900, .inl c_tape))] H := hP
              have hD : va_D A [(t, .inr (8, [.ref tape, .int t_fed, .int t_length, .int 1, .int v_26, .int v_26, .int t_number, .int t_sign, .long t_letters, .int t_fault, .int t_faultPlace])), (tape, .inl (cA.1 2, 900, .inl c_tape))] := hD
              refine lv_aload_n hx hb dX8_advance_88 rfl (lv_at hl 1 rfl) ?_
              refine z_callVv (As := []) (rest := []) (wr := []) ⟨hx, hb, hml, hown, hts⟩ hK hE hT hP hD hS hA (d_Te_readLetters l G cA t tape t_fed t_length 1 v_26 v_26 t_number t_sign t_letters t_fault t_faultPlace c_tape) lk_RX8_51 ⟨rfl, rfl⟩ ⟨Nat.le_of_ble_eq_true rfl, Nat.le_of_ble_eq_true rfl⟩ 8 rfl rfl rfl [0, 1] [] rfl rfl (by decide) rfl hl.1 rfl (lv_room (Nat.le_of_ble_eq_true rfl)) dX8_advance_89 ⟨Nat.le_of_ble_eq_true rfl, Nat.le_of_ble_eq_true rfl⟩ (fun u_197 H locs hw hP hD hS => ?_)
              obtain ⟨nw0_194, nw1_195⟩ := u_197
              have hP : va_P G vwCl [(t, .inr (8, [.ref tape, .int t_fed, .int t_length, .int 1, .int v_26, .int nw0_194, .int t_number, .int t_sign, .long nw1_195, .int t_fault, .int t_faultPlace])), (tape, .inl (cA.1 2, 900, .inl c_tape))] H := hP
              have hD : va_D A [(t, .inr (8, [.ref tape, .int t_fed, .int t_length, .int 1, .int v_26, .int nw0_194, .int t_number, .int t_sign, .long nw1_195, .int t_fault, .int t_faultPlace])), (tape, .inl (cA.1 2, 900, .inl c_tape))] := hD
              obtain ⟨he_nw0_194, he_nw1_195, hw⟩ := hw
              refine lv_goto (tgt := 140) hx hb dX8_advance_92 (by decide) ?_
              have hX_199 : F_Te_advance t_length t_end t_number t_sign t_letters c_tape = (((1 : Int32), v_26, nw0_194, t_sign, t_number, nw1_195) : Int32 × Int32 × Int32 × Int32 × Int32 × Int64) := by
                refine hF_L8a.trans ?_
                refine (F_Te_advance_L8a_s ..).trans ?_
                refine (if_neg c_111).trans ?_
                extract_lets -merge -useContext +onlyGivenNames w9 y9; have e9 : r_154 = w9 := he_r_154; clear_value w9; subst e9
                extract_lets -merge -useContext +onlyGivenNames w9 y9; have e9 : r_157 = w9 := he_r_157; clear_value w9; subst e9
                refine (if_pos c_160).trans ?_
                extract_lets -merge -useContext +onlyGivenNames w9 y9; have e9 : r_162 = w9 := he_r_162; clear_value w9; subst e9
                refine (if_neg c_165).trans ?_
                extract_lets -merge -useContext +onlyGivenNames w9 y9; have e9 : r_167 = w9 := he_r_167; clear_value w9; subst e9
                refine (if_neg c_170).trans ?_
                extract_lets -merge -useContext +onlyGivenNames w9 y8_0 y8_1; have e9 : (nw0_194, nw1_195) = w9 := ((z_tS he_nw0_194 he_nw1_195.symm)).symm; clear_value w9; subst e9
                exact rfl
              exact hret _ _ _ _ _ (1, v_26, nw0_194, t_sign, t_number, nw1_195) [0, 1] hP hD hS rfl (by decide) dX8_advance_140 ⟨(congrArg (fun z9 => z9.1) hX_199).symm, (congrArg (fun z9 => z9.2.1) hX_199).symm, (congrArg (fun z9 => z9.2.2.1) hX_199).symm, (congrArg (fun z9 => z9.2.2.2.1) hX_199).symm, (congrArg (fun z9 => z9.2.2.2.2.1) hX_199).symm, (congrArg (fun z9 => z9.2.2.2.2.2) hX_199).symm, trivial⟩
          · skip
            refine lv_aload_n hx hb dX8_advance_68 rfl (lv_at hl 1 rfl) ?_
            refine lv_iconst (v := 0) hx hb dX8_advance_69 (by decide) ?_
            refine va_put (D := G) (ci := 8) (v := .int 0) (ty := .int) (C := RX8) (T := TX8) (N := 11) hx hb hts inT8 tyX8 tyX8_ok nmX8 hown hK hP hD hS 0 rfl rfl 3 (by decide) (hts _ tw_209) (fun _ h9 => h9) rfl (tyX8_ok 3 (by decide)) rfl rfl (Nat.le_of_ble_eq_true rfl) dX8_advance_70 (fun H locs hP hD hS => ?_)
            have hP : va_P G vwCl [(t, .inr (8, [.ref tape, .int t_fed, .int t_length, .int 0, .int v_26, .int v_26, .int t_number, .int t_sign, .long t_letters, .int t_fault, .int t_faultPlace])), (tape, .inl (cA.1 2, 900, .inl c_tape))] H := hP
            have hD : va_D A [(t, .inr (8, [.ref tape, .int t_fed, .int t_length, .int 0, .int v_26, .int v_26, .int t_number, .int t_sign, .long t_letters, .int t_fault, .int t_faultPlace])), (tape, .inl (cA.1 2, 900, .inl c_tape))] := hD
            refine lv_goto (tgt := 140) hx hb dX8_advance_73 (by decide) ?_
            have hX_201 : F_Te_advance t_length t_end t_number t_sign t_letters c_tape = (((0 : Int32), v_26, v_26, t_sign, t_number, t_letters) : Int32 × Int32 × Int32 × Int32 × Int32 × Int64) := by
              refine hF_L8a.trans ?_
              refine (F_Te_advance_L8a_s ..).trans ?_
              refine (if_neg c_111).trans ?_
              extract_lets -merge -useContext +onlyGivenNames w9 y9; have e9 : r_154 = w9 := he_r_154; clear_value w9; subst e9
              extract_lets -merge -useContext +onlyGivenNames w9 y9; have e9 : r_157 = w9 := he_r_157; clear_value w9; subst e9
              refine (if_pos c_160).trans ?_
              extract_lets -merge -useContext +onlyGivenNames w9 y9; have e9 : r_162 = w9 := he_r_162; clear_value w9; subst e9
              refine (if_pos c_165).trans ?_
              exact rfl
            exact hret _ _ _ _ _ (0, v_26, v_26, t_sign, t_number, t_letters) [0, 1] hP hD hS rfl (by decide) dX8_advance_140 ⟨(congrArg (fun z9 => z9.1) hX_201).symm, (congrArg (fun z9 => z9.2.1) hX_201).symm, (congrArg (fun z9 => z9.2.2.1) hX_201).symm, (congrArg (fun z9 => z9.2.2.2.1) hX_201).symm, (congrArg (fun z9 => z9.2.2.2.2.1) hX_201).symm, (congrArg (fun z9 => z9.2.2.2.2.2) hX_201).symm, trivial⟩
        · skip
          refine lv_aload_n hx hb dX8_advance_33 rfl (lv_at hl 0 rfl) ?_
          refine lv_dup hx hb dX8_advance_34 rfl ?_
          refine va_get (D := G) (ci := 8) (v := .int v_26) (C := RX8) (T := TX8) (N := 11) hx hb hts inT8 hown hK hP 0 rfl rfl 4 (by decide) (hts _ tw_210) (fun _ h9 => h9) rfl dX8_advance_35 ?_
          refine lv_iconst (v := 1) hx hb dX8_advance_38 (by decide) ?_
          refine lv_iadd hx hb dX8_advance_39 ?_
          refine va_put (D := G) (ci := 8) (v := .int (v_26 + 1)) (ty := .int) (C := RX8) (T := TX8) (N := 11) hx hb hts inT8 tyX8 tyX8_ok nmX8 hown hK hP hD hS 0 rfl rfl 4 (by decide) (hts _ tw_210) (fun _ h9 => h9) rfl (tyX8_ok 4 (by decide)) rfl rfl (Nat.le_of_ble_eq_true rfl) dX8_advance_40 (fun H locs hP hD hS => ?_)
          have hP : va_P G vwCl [(t, .inr (8, [.ref tape, .int t_fed, .int t_length, .int t_kind, .int (v_26 + 1), .int t_end, .int t_number, .int t_sign, .long t_letters, .int t_fault, .int t_faultPlace])), (tape, .inl (cA.1 2, 900, .inl c_tape))] H := hP
          have hD : va_D A [(t, .inr (8, [.ref tape, .int t_fed, .int t_length, .int t_kind, .int (v_26 + 1), .int t_end, .int t_number, .int t_sign, .long t_letters, .int t_fault, .int t_faultPlace])), (tape, .inl (cA.1 2, 900, .inl c_tape))] := hD
          refine lv_goto (tgt := 8) hx hb dX8_advance_43 (by decide) ?_
          have hX_203 : F_Te_advance t_length t_end t_number t_sign t_letters c_tape = F_Te_advance_L8a t_length t_number t_sign t_letters c_tape n_L8a (v_26 + 1) := by
            refine hF_L8a.trans ?_
            refine (F_Te_advance_L8a_s ..).trans ?_
            refine (if_neg c_111).trans ?_
            extract_lets -merge -useContext +onlyGivenNames w9 y9; have e9 : r_154 = w9 := he_r_154; clear_value w9; subst e9
            extract_lets -merge -useContext +onlyGivenNames w9 y9; have e9 : r_157 = w9 := he_r_157; clear_value w9; subst e9
            refine (if_neg c_160).trans ?_
            exact rfl
          exact ih_110 (v_26 + 1) H locs ls (z_up hmu_hlp_109 (by omega) trivial) hX_203 hP hD hS (lv_sub hl [0] rfl)
  have hX_204 : F_Te_advance t_length t_end t_number t_sign t_letters c_tape = F_Te_advance_L8a t_length t_number t_sign t_letters c_tape ((2147483647 - t_end.toInt).toNat + 1) t_end := by
    refine (F_Te_advance_s ..).trans ?_
    exact rfl
  exact hlp_109 ((2147483647 - t_end.toInt).toNat + 1) t_end _ _ _ (Nat.lt_succ_self _) hX_204 hP hD hS (lv_sub hl [0] rfl)
set_option maxHeartbeats 40000000 in
set_option maxRecDepth 100000 in
theorem d_Te_begin (l : Launch) (G : va_G) (cA : zCA) (t : Nat) (tape : Nat) (t_fed : Int32) (t_length : Int32) (t_kind : Int32) (t_start : Int32) (t_end : Int32) (t_number : Int32) (t_sign : Int32) (t_letters : Int64) (t_fault : Int32) (t_faultPlace : Int32) (c_tape : Nat → Int32) (k : Int32) : zCv l yX8_begin cX8_begin 2 none ({ frames := 3, cells := 0, slots := 0, locals := 62 }) G cA [.ref t, .int k] [(t, .inr (8, [.ref tape, .int t_fed, .int t_length, .int t_kind, .int t_start, .int t_end, .int t_number, .int t_sign, .long t_letters, .int t_fault, .int t_faultPlace])), (tape, .inl (cA.1 2, 900, .inl c_tape))] (S := Int32 × Int32 × Int32 × Int32 × Int32 × Int32 × Int32 × Int64 × Int32 × Int32) (fun (u : Int32 × Int32 × Int32 × Int32 × Int32 × Int32 × Int32 × Int64 × Int32 × Int32) => (u.1 = (F_Te_begin t_number t_sign t_letters c_tape k).1) ∧ (u.2.1 = (F_Te_begin t_number t_sign t_letters c_tape k).2.1) ∧ (u.2.2.1 = (F_Te_begin t_number t_sign t_letters c_tape k).2.2.1) ∧ (u.2.2.2.1 = (F_Te_begin t_number t_sign t_letters c_tape k).2.2.2.1) ∧ (u.2.2.2.2.1 = (F_Te_begin t_number t_sign t_letters c_tape k).2.2.2.2.1) ∧ (u.2.2.2.2.2.1 = (F_Te_begin t_number t_sign t_letters c_tape k).2.2.2.2.2.1) ∧ (u.2.2.2.2.2.2.1 = (F_Te_begin t_number t_sign t_letters c_tape k).2.2.2.2.2.2.1) ∧ (u.2.2.2.2.2.2.2.1 = (F_Te_begin t_number t_sign t_letters c_tape k).2.2.2.2.2.2.2.1) ∧ (u.2.2.2.2.2.2.2.2.1 = (F_Te_begin t_number t_sign t_letters c_tape k).2.2.2.2.2.2.2.2.1) ∧ (u.2.2.2.2.2.2.2.2.2 = (F_Te_begin t_number t_sign t_letters c_tape k).2.2.2.2.2.2.2.2.2) ∧ (True)) (fun (u : Int32 × Int32 × Int32 × Int32 × Int32 × Int32 × Int32 × Int64 × Int32 × Int32) => [(t, .inr (8, [.ref tape, .int u.1, .int u.2.1, .int u.2.2.1, .int u.2.2.2.1, .int u.2.2.2.2.1, .int u.2.2.2.2.2.1, .int u.2.2.2.2.2.2.1, .long u.2.2.2.2.2.2.2.1, .int u.2.2.2.2.2.2.2.2.1, .int u.2.2.2.2.2.2.2.2.2])), (tape, .inl (cA.1 2, 900, .inl c_tape))]) 0 0 := by
  refine z_start2v (own := RX8) (by decide) (Nat.le_of_ble_eq_true rfl) rfl ?_
  intro p e s m args below meth c A ls Q hx hb hml hts hown hK hE hT hP hD hS hA hl hret
  have hl : lv_has ls 2 [(0, .ref t), (1, .int k)] := hl
  refine lv_aload_n hx hb dX8_begin_0 rfl (lv_at hl 0 rfl) ?_
  refine lv_iload_n hx hb dX8_begin_1 rfl (lv_at hl 1 rfl) ?_
  refine va_put (D := G) (ci := 8) (v := .int k) (ty := .int) (C := RX8) (T := TX8) (N := 11) hx hb hts inT8 tyX8 tyX8_ok nmX8 hown hK hP hD hS 0 rfl rfl 2 (by decide) (hts _ tw_208) (fun _ h9 => h9) rfl (tyX8_ok 2 (by decide)) rfl rfl (Nat.le_of_ble_eq_true rfl) dX8_begin_2 (fun H locs hP hD hS => ?_)
  have hP : va_P G vwCl [(t, .inr (8, [.ref tape, .int t_fed, .int k, .int t_kind, .int t_start, .int t_end, .int t_number, .int t_sign, .long t_letters, .int t_fault, .int t_faultPlace])), (tape, .inl (cA.1 2, 900, .inl c_tape))] H := hP
  have hD : va_D A [(t, .inr (8, [.ref tape, .int t_fed, .int k, .int t_kind, .int t_start, .int t_end, .int t_number, .int t_sign, .long t_letters, .int t_fault, .int t_faultPlace])), (tape, .inl (cA.1 2, 900, .inl c_tape))] := hD
  refine lv_aload_n hx hb dX8_begin_5 rfl (lv_at hl 0 rfl) ?_
  refine lv_iconst (v := 0) hx hb dX8_begin_6 (by decide) ?_
  refine va_put (D := G) (ci := 8) (v := .int 0) (ty := .int) (C := RX8) (T := TX8) (N := 11) hx hb hts inT8 tyX8 tyX8_ok nmX8 hown hK hP hD hS 0 rfl rfl 1 (by decide) (hts _ tw_206) (fun _ h9 => h9) rfl (tyX8_ok 1 (by decide)) rfl rfl (Nat.le_of_ble_eq_true rfl) dX8_begin_7 (fun H locs hP hD hS => ?_)
  have hP : va_P G vwCl [(t, .inr (8, [.ref tape, .int 0, .int k, .int t_kind, .int t_start, .int t_end, .int t_number, .int t_sign, .long t_letters, .int t_fault, .int t_faultPlace])), (tape, .inl (cA.1 2, 900, .inl c_tape))] H := hP
  have hD : va_D A [(t, .inr (8, [.ref tape, .int 0, .int k, .int t_kind, .int t_start, .int t_end, .int t_number, .int t_sign, .long t_letters, .int t_fault, .int t_faultPlace])), (tape, .inl (cA.1 2, 900, .inl c_tape))] := hD
  refine lv_aload_n hx hb dX8_begin_10 rfl (lv_at hl 0 rfl) ?_
  refine lv_iconst (v := 0) hx hb dX8_begin_11 (by decide) ?_
  refine va_put (D := G) (ci := 8) (v := .int 0) (ty := .int) (C := RX8) (T := TX8) (N := 11) hx hb hts inT8 tyX8 tyX8_ok nmX8 hown hK hP hD hS 0 rfl rfl 5 (by decide) (hts _ tw_211) (fun _ h9 => h9) rfl (tyX8_ok 5 (by decide)) rfl rfl (Nat.le_of_ble_eq_true rfl) dX8_begin_12 (fun H locs hP hD hS => ?_)
  have hP : va_P G vwCl [(t, .inr (8, [.ref tape, .int 0, .int k, .int t_kind, .int t_start, .int 0, .int t_number, .int t_sign, .long t_letters, .int t_fault, .int t_faultPlace])), (tape, .inl (cA.1 2, 900, .inl c_tape))] H := hP
  have hD : va_D A [(t, .inr (8, [.ref tape, .int 0, .int k, .int t_kind, .int t_start, .int 0, .int t_number, .int t_sign, .long t_letters, .int t_fault, .int t_faultPlace])), (tape, .inl (cA.1 2, 900, .inl c_tape))] := hD
  refine lv_aload_n hx hb dX8_begin_15 rfl (lv_at hl 0 rfl) ?_
  refine lv_iconst (v := 0) hx hb dX8_begin_16 (by decide) ?_
  refine va_put (D := G) (ci := 8) (v := .int 0) (ty := .int) (C := RX8) (T := TX8) (N := 11) hx hb hts inT8 tyX8 tyX8_ok nmX8 hown hK hP hD hS 0 rfl rfl 9 (by decide) (hts _ tw_218) (fun _ h9 => h9) rfl (tyX8_ok 9 (by decide)) rfl rfl (Nat.le_of_ble_eq_true rfl) dX8_begin_17 (fun H locs hP hD hS => ?_)
  have hP : va_P G vwCl [(t, .inr (8, [.ref tape, .int 0, .int k, .int t_kind, .int t_start, .int 0, .int t_number, .int t_sign, .long t_letters, .int 0, .int t_faultPlace])), (tape, .inl (cA.1 2, 900, .inl c_tape))] H := hP
  have hD : va_D A [(t, .inr (8, [.ref tape, .int 0, .int k, .int t_kind, .int t_start, .int 0, .int t_number, .int t_sign, .long t_letters, .int 0, .int t_faultPlace])), (tape, .inl (cA.1 2, 900, .inl c_tape))] := hD
  refine lv_aload_n hx hb dX8_begin_20 rfl (lv_at hl 0 rfl) ?_
  refine lv_iconst (v := (-1)) hx hb dX8_begin_21 (by decide) ?_
  refine va_put (D := G) (ci := 8) (v := .int (-1)) (ty := .int) (C := RX8) (T := TX8) (N := 11) hx hb hts inT8 tyX8 tyX8_ok nmX8 hown hK hP hD hS 0 rfl rfl 10 (by decide) (hts _ tw_222) (fun _ h9 => h9) rfl (tyX8_ok 10 (by decide)) rfl rfl (Nat.le_of_ble_eq_true rfl) dX8_begin_22 (fun H locs hP hD hS => ?_)
  have hP : va_P G vwCl [(t, .inr (8, [.ref tape, .int 0, .int k, .int t_kind, .int t_start, .int 0, .int t_number, .int t_sign, .long t_letters, .int 0, .int (-1)])), (tape, .inl (cA.1 2, 900, .inl c_tape))] H := hP
  have hD : va_D A [(t, .inr (8, [.ref tape, .int 0, .int k, .int t_kind, .int t_start, .int 0, .int t_number, .int t_sign, .long t_letters, .int 0, .int (-1)])), (tape, .inl (cA.1 2, 900, .inl c_tape))] := hD
  refine lv_aload_n hx hb dX8_begin_25 rfl (lv_at hl 0 rfl) ?_
  refine z_callVv (As := []) (rest := []) (wr := []) ⟨hx, hb, hml, hown, hts⟩ hK hE hT hP hD hS hA (d_Te_advance l G cA t tape 0 k t_kind t_start 0 t_number t_sign t_letters 0 (-1) c_tape) lk_RX8_31 ⟨rfl, rfl⟩ ⟨Nat.le_of_ble_eq_true rfl, Nat.le_of_ble_eq_true rfl⟩ 8 rfl rfl rfl [0, 1] [] rfl rfl (by decide) rfl hl.1 rfl (lv_room (Nat.le_of_ble_eq_true rfl)) dX8_begin_26 ⟨Nat.le_of_ble_eq_true rfl, Nat.le_of_ble_eq_true rfl⟩ (fun u_8 H locs hw hP hD hS => ?_)
  obtain ⟨nw0_1, nw1_2, nw2_3, nw3_4, nw4_5, nw5_6⟩ := u_8
  have hP : va_P G vwCl [(t, .inr (8, [.ref tape, .int 0, .int k, .int nw0_1, .int nw1_2, .int nw2_3, .int nw4_5, .int nw3_4, .long nw5_6, .int 0, .int (-1)])), (tape, .inl (cA.1 2, 900, .inl c_tape))] H := hP
  have hD : va_D A [(t, .inr (8, [.ref tape, .int 0, .int k, .int nw0_1, .int nw1_2, .int nw2_3, .int nw4_5, .int nw3_4, .long nw5_6, .int 0, .int (-1)])), (tape, .inl (cA.1 2, 900, .inl c_tape))] := hD
  obtain ⟨he_nw0_1, he_nw1_2, he_nw2_3, he_nw3_4, he_nw4_5, he_nw5_6, hw⟩ := hw
  have hX_10 : F_Te_begin t_number t_sign t_letters c_tape k = (((0 : Int32), k, nw0_1, nw1_2, nw2_3, nw4_5, nw3_4, nw5_6, (0 : Int32), (-1 : Int32)) : Int32 × Int32 × Int32 × Int32 × Int32 × Int32 × Int32 × Int64 × Int32 × Int32) := by
    refine (F_Te_begin_s ..).trans ?_
    extract_lets -merge -useContext +onlyGivenNames w9 y0_0 y0_1 y0_2 y0_3 y0_4 y0_5; have e9 : (nw0_1, nw1_2, nw2_3, nw3_4, nw4_5, nw5_6) = w9 := ((z_tS he_nw0_1 (z_tS he_nw1_2 (z_tS he_nw2_3 (z_tS he_nw3_4 (z_tS he_nw4_5 he_nw5_6.symm)))))).symm; clear_value w9; subst e9
    exact rfl
  exact hret _ _ _ _ _ (0, k, nw0_1, nw1_2, nw2_3, nw4_5, nw3_4, nw5_6, 0, (-1)) [0, 1] hP hD hS rfl (by decide) dX8_begin_29 ⟨(congrArg (fun z9 => z9.1) hX_10).symm, (congrArg (fun z9 => z9.2.1) hX_10).symm, (congrArg (fun z9 => z9.2.2.1) hX_10).symm, (congrArg (fun z9 => z9.2.2.2.1) hX_10).symm, (congrArg (fun z9 => z9.2.2.2.2.1) hX_10).symm, (congrArg (fun z9 => z9.2.2.2.2.2.1) hX_10).symm, (congrArg (fun z9 => z9.2.2.2.2.2.2.1) hX_10).symm, (congrArg (fun z9 => z9.2.2.2.2.2.2.2.1) hX_10).symm, (congrArg (fun z9 => z9.2.2.2.2.2.2.2.2.1) hX_10).symm, (congrArg (fun z9 => z9.2.2.2.2.2.2.2.2.2) hX_10).symm, trivial⟩
set_option maxHeartbeats 40000000 in
set_option maxRecDepth 100000 in
theorem d_Te_is (l : Launch) (G : va_G) (cA : zCA) (t : Nat) (tape : Nat) (t_fed : Int32) (t_length : Int32) (t_kind : Int32) (t_start : Int32) (t_end : Int32) (t_number : Int32) (t_sign : Int32) (t_letters : Int64) (t_fault : Int32) (t_faultPlace : Int32) (c_tape : Nat → Int32) (i : Nat) (hi_i : i < 42) : zCi l yX8_is cX8_is 3 (some .boolean) ({ frames := 4, cells := 0, slots := 0, locals := 85 }) G cA [.ref t, .ref (cA.2.1 i)] [(t, .inr (8, [.ref tape, .int t_fed, .int t_length, .int t_kind, .int t_start, .int t_end, .int t_number, .int t_sign, .long t_letters, .int t_fault, .int t_faultPlace])), (tape, .inl (cA.1 2, 900, .inl c_tape))] (S := Unit) (fun (r : Int32) (u : Unit) => (r = (F_Te_is t_length t_kind t_start t_end c_tape i)) ∧ (r = 0 ∨ r = 1)) (fun (u : Unit) => [(t, .inr (8, [.ref tape, .int t_fed, .int t_length, .int t_kind, .int t_start, .int t_end, .int t_number, .int t_sign, .long t_letters, .int t_fault, .int t_faultPlace])), (tape, .inl (cA.1 2, 900, .inl c_tape))]) 0 0 := by
  refine z_start2z (own := RX8) (by decide) (Nat.le_of_ble_eq_true rfl) rfl ?_
  intro p e s m args below meth c A ls Q hx hb hml hts hown hK hE hT hP hD hS hA hl hret
  have hl : lv_has ls 3 [(0, .ref t), (1, .ref (cA.2.1 i))] := hl
  refine lv_aload_n hx hb dX8_is_0 rfl (lv_at hl 0 rfl) ?_
  refine va_get (D := G) (ci := 8) (v := .int t_kind) (C := RX8) (T := TX8) (N := 11) hx hb hts inT8 hown hK hP 0 rfl rfl 3 (by decide) (hts _ tw_209) (fun _ h9 => h9) rfl dX8_is_1 ?_
  refine lv_iconst (v := 1) hx hb dX8_is_4 (by decide) ?_
  refine lv_icmp_ne (tgt := 24) hx hb dX8_is_5 (by decide) (fun c_1 => ?_) (fun c_1 => ?_)
  · skip
    refine lv_iconst (v := 0) hx hb dX8_is_24 (by decide) ?_
    have hX_3 : F_Te_is t_length t_kind t_start t_end c_tape i = ((0 : Int32) : Int32) := by
      refine (F_Te_is_s ..).trans ?_
      refine (if_neg c_1).trans ?_
      exact rfl
    exact hret _ _ _ _ _ _ () [0, 1] hP hD hS rfl (by decide) dX8_is_25 (Or.inl rfl) ⟨(congrArg (fun z9 => z9) hX_3).symm, (Or.inl rfl)⟩
  · skip
    refine lv_aload_n hx hb dX8_is_8 rfl (lv_at hl 0 rfl) ?_
    refine va_get (D := G) (ci := 8) (v := .int t_end) (C := RX8) (T := TX8) (N := 11) hx hb hts inT8 hown hK hP 0 rfl rfl 5 (by decide) (hts _ tw_211) (fun _ h9 => h9) rfl dX8_is_9 ?_
    refine lv_aload_n hx hb dX8_is_12 rfl (lv_at hl 0 rfl) ?_
    refine va_get (D := G) (ci := 8) (v := .int t_start) (C := RX8) (T := TX8) (N := 11) hx hb hts inT8 hown hK hP 0 rfl rfl 4 (by decide) (hts _ tw_210) (fun _ h9 => h9) rfl dX8_is_13 ?_
    refine lv_isub hx hb dX8_is_16 ?_
    refine lv_topi (fun x_5 he_x_5 => ?_)
    refine lv_aload_n hx hb dX8_is_17 rfl (lv_at hl 1 rfl) ?_
    refine z_callWi (As := []) (rest := [.int x_5]) (wr := [(t, .inr (8, [.ref tape, .int t_fed, .int t_length, .int t_kind, .int t_start, .int t_end, .int t_number, .int t_sign, .long t_letters, .int t_fault, .int t_faultPlace])), (tape, .inl (cA.1 2, 900, .inl c_tape))]) ⟨hx, hb, hml, hown, hts⟩ hK hE hT hP hD hS hA (d_St_length l G cA i hi_i) lk_RX8_77 ⟨rfl, rfl⟩ ⟨Nat.le_of_ble_eq_true rfl, Nat.le_of_ble_eq_true rfl⟩ (z_rc hT hi_i hS) [] [0, 1] rfl rfl (by decide) rfl hl.1 rfl (lv_room (Nat.le_of_ble_eq_true rfl)) dX8_is_18 ⟨Nat.le_of_ble_eq_true rfl, Nat.le_of_ble_eq_true rfl⟩ (fun r_6 u_7 H locs hw hP hD hS => ?_)
    have hP : va_P G vwCl [(t, .inr (8, [.ref tape, .int t_fed, .int t_length, .int t_kind, .int t_start, .int t_end, .int t_number, .int t_sign, .long t_letters, .int t_fault, .int t_faultPlace])), (tape, .inl (cA.1 2, 900, .inl c_tape))] H := hP
    have hD : va_D A [(t, .inr (8, [.ref tape, .int t_fed, .int t_length, .int t_kind, .int t_start, .int t_end, .int t_number, .int t_sign, .long t_letters, .int t_fault, .int t_faultPlace])), (tape, .inl (cA.1 2, 900, .inl c_tape))] := hD
    obtain rfl : r_6 = nI (zlb i).length := hw
    have hln_r_6 := zlb_nI hi_i
    refine lv_icmp_eq (tgt := 26) hx hb dX8_is_21 (by decide) (fun c_8 => ?_) (fun c_8 => ?_)
    · skip
      refine lv_iconst (v := 0) hx hb dX8_is_26 (by decide) ?_
      refine lv_istore_n (lv' := [(2, .int 0), (0, .ref t), (1, .ref (cA.2.1 i))]) hx hb dX8_is_27 rfl hl (by decide) rfl (fun ls hl => ?_)
      have hlp_54 : ∀ (n_L28a : Nat) (v_38 : Int32) (H : Heap) (locs : List Loc) (ls : Array Slot), (2147483647 - v_38.toInt).toNat < n_L28a → (0 ≤ v_38.toInt) → (F_Te_is t_length t_kind t_start t_end c_tape i = F_Te_is_L28a t_length t_start c_tape i n_L28a v_38) → va_P G vwCl [(t, .inr (8, [.ref tape, .int t_fed, .int t_length, .int t_kind, .int t_start, .int t_end, .int t_number, .int t_sign, .long t_letters, .int t_fault, .int t_faultPlace])), (tape, .inl (cA.1 2, 900, .inl c_tape))] H → va_D A [(t, .inr (8, [.ref tape, .int t_fed, .int t_length, .int t_kind, .int t_start, .int t_end, .int t_number, .int t_sign, .long t_letters, .int t_fault, .int t_faultPlace])), (tape, .inl (cA.1 2, 900, .inl c_tape))] → va_S A s.heap H locs → lv_has ls 3 [(0, .ref t), (1, .ref (cA.2.1 i)), (2, .int v_38)] → W p l e ({ frames := 4, cells := 0, slots := 0, locals := 85 }) s m args below meth c H locs 0 0 Q (F0 m 28 ls []) := by
        intro n_L28a
        induction n_L28a with
        | zero =>
          intro v_38 H locs ls hmu_hlp_54 hi_55 hF_L28a hP hD hS hl
          exact absurd hmu_hlp_54 (Nat.not_lt_zero _)
        | succ n_L28a ih_56 =>
          intro v_38 H locs ls hmu_hlp_54 hi_55 hF_L28a hP hD hS hl
          refine lv_iload_n hx hb dX8_is_28 rfl (lv_at hl 2 rfl) ?_
          refine lv_aload_n hx hb dX8_is_29 rfl (lv_at hl 1 rfl) ?_
          refine z_callWi (As := []) (rest := [.int v_38]) (wr := [(t, .inr (8, [.ref tape, .int t_fed, .int t_length, .int t_kind, .int t_start, .int t_end, .int t_number, .int t_sign, .long t_letters, .int t_fault, .int t_faultPlace])), (tape, .inl (cA.1 2, 900, .inl c_tape))]) ⟨hx, hb, hml, hown, hts⟩ hK hE hT hP hD hS hA (d_St_length l G cA i hi_i) lk_RX8_77 ⟨rfl, rfl⟩ ⟨Nat.le_of_ble_eq_true rfl, Nat.le_of_ble_eq_true rfl⟩ (z_rc hT hi_i hS) [] [0, 1] rfl rfl (by decide) rfl hl.1 rfl (lv_room (Nat.le_of_ble_eq_true rfl)) dX8_is_30 ⟨Nat.le_of_ble_eq_true rfl, Nat.le_of_ble_eq_true rfl⟩ (fun r_57 u_58 H locs hw hP hD hS => ?_)
          have hP : va_P G vwCl [(t, .inr (8, [.ref tape, .int t_fed, .int t_length, .int t_kind, .int t_start, .int t_end, .int t_number, .int t_sign, .long t_letters, .int t_fault, .int t_faultPlace])), (tape, .inl (cA.1 2, 900, .inl c_tape))] H := hP
          have hD : va_D A [(t, .inr (8, [.ref tape, .int t_fed, .int t_length, .int t_kind, .int t_start, .int t_end, .int t_number, .int t_sign, .long t_letters, .int t_fault, .int t_faultPlace])), (tape, .inl (cA.1 2, 900, .inl c_tape))] := hD
          obtain rfl : r_57 = nI (zlb i).length := hw
          have hln_r_57 := zlb_nI hi_i
          refine lv_icmp_ge (tgt := 62) hx hb dX8_is_33 (by decide) (fun c_59 => ?_) (fun c_59 => ?_)
          · have b_60 := z_s1 c_59
            refine lv_iconst (v := 1) hx hb dX8_is_62 (by decide) ?_
            have hX_61 : F_Te_is t_length t_kind t_start t_end c_tape i = ((1 : Int32) : Int32) := by
              refine hF_L28a.trans ?_
              refine (F_Te_is_L28a_s ..).trans ?_
              refine (if_pos c_59).trans ?_
              exact rfl
            exact hret _ _ _ _ _ _ () [0, 1] hP hD hS rfl (by decide) dX8_is_63 (Or.inr rfl) ⟨(congrArg (fun z9 => z9) hX_61).symm, (Or.inr rfl)⟩
          · have b_62 := z_t2 c_59
            refine lv_aload_n hx hb dX8_is_36 rfl (lv_at hl 0 rfl) ?_
            refine lv_aload_n hx hb dX8_is_37 rfl (lv_at hl 0 rfl) ?_
            refine va_get (D := G) (ci := 8) (v := .int t_start) (C := RX8) (T := TX8) (N := 11) hx hb hts inT8 hown hK hP 0 rfl rfl 4 (by decide) (hts _ tw_210) (fun _ h9 => h9) rfl dX8_is_38 ?_
            refine lv_iload_n hx hb dX8_is_41 rfl (lv_at hl 2 rfl) ?_
            refine lv_iadd hx hb dX8_is_42 ?_
            refine lv_topi (fun x_63 he_x_63 => ?_)
            refine z_callVi (As := [.int x_63]) (rest := []) (wr := []) ⟨hx, hb, hml, hown, hts⟩ hK hE hT hP hD hS hA (d_Te_byteAt l G cA t tape t_fed t_length t_kind t_start t_end t_number t_sign t_letters t_fault t_faultPlace c_tape x_63) lk_RX8_40 ⟨rfl, rfl⟩ ⟨Nat.le_of_ble_eq_true rfl, Nat.le_of_ble_eq_true rfl⟩ 8 rfl rfl rfl [0, 1] [] rfl rfl (by decide) rfl hl.1 rfl (lv_room (Nat.le_of_ble_eq_true rfl)) dX8_is_43 ⟨Nat.le_of_ble_eq_true rfl, Nat.le_of_ble_eq_true rfl⟩ (fun r_64 u_65 H locs hw hP hD hS => ?_)
            have hP : va_P G vwCl [(t, .inr (8, [.ref tape, .int t_fed, .int t_length, .int t_kind, .int t_start, .int t_end, .int t_number, .int t_sign, .long t_letters, .int t_fault, .int t_faultPlace])), (tape, .inl (cA.1 2, 900, .inl c_tape))] H := hP
            have hD : va_D A [(t, .inr (8, [.ref tape, .int t_fed, .int t_length, .int t_kind, .int t_start, .int t_end, .int t_number, .int t_sign, .long t_letters, .int t_fault, .int t_faultPlace])), (tape, .inl (cA.1 2, 900, .inl c_tape))] := hD
            obtain ⟨he_r_64, hw⟩ := hw
            refine lv_aload_n hx hb dX8_is_46 rfl (lv_at hl 1 rfl) ?_
            refine lv_iload_n hx hb dX8_is_47 rfl (lv_at hl 2 rfl) ?_
            refine z_callWi (As := [.int v_38]) (rest := [.int r_64]) (wr := [(t, .inr (8, [.ref tape, .int t_fed, .int t_length, .int t_kind, .int t_start, .int t_end, .int t_number, .int t_sign, .long t_letters, .int t_fault, .int t_faultPlace])), (tape, .inl (cA.1 2, 900, .inl c_tape))]) ⟨hx, hb, hml, hown, hts⟩ hK hE hT hP hD hS hA (d_St_charAt l G cA i v_38 hi_i (by omega) (by omega)) lk_RX8_82 ⟨rfl, rfl⟩ ⟨Nat.le_of_ble_eq_true rfl, Nat.le_of_ble_eq_true rfl⟩ (z_rc hT hi_i hS) [] [0, 1] rfl rfl (by decide) rfl hl.1 rfl (lv_room (Nat.le_of_ble_eq_true rfl)) dX8_is_48 ⟨Nat.le_of_ble_eq_true rfl, Nat.le_of_ble_eq_true rfl⟩ (fun r_67 u_68 H locs hw hP hD hS => ?_)
            have hP : va_P G vwCl [(t, .inr (8, [.ref tape, .int t_fed, .int t_length, .int t_kind, .int t_start, .int t_end, .int t_number, .int t_sign, .long t_letters, .int t_fault, .int t_faultPlace])), (tape, .inl (cA.1 2, 900, .inl c_tape))] H := hP
            have hD : va_D A [(t, .inr (8, [.ref tape, .int t_fed, .int t_length, .int t_kind, .int t_start, .int t_end, .int t_number, .int t_sign, .long t_letters, .int t_fault, .int t_faultPlace])), (tape, .inl (cA.1 2, 900, .inl c_tape))] := hD
            obtain ⟨he_r_67, hw⟩ := hw
            have hc_r_67 := hw
            refine lv_icmp_eq (tgt := 56) hx hb dX8_is_51 (by decide) (fun c_70 => ?_) (fun c_70 => ?_)
            · skip
              refine lv_iinc (v := (v_38 + 1)) (lv' := [(2, .int (v_38 + 1)), (0, .ref t), (1, .ref (cA.2.1 i))]) hx hb dX8_is_56 hl (k := 2) rfl (z_ofi (by decide +kernel)) (by decide) rfl (fun ls hl => ?_)
              refine lv_goto (tgt := 28) hx hb dX8_is_59 (by decide) ?_
              have hX_72 : F_Te_is t_length t_kind t_start t_end c_tape i = F_Te_is_L28a t_length t_start c_tape i n_L28a (v_38 + 1) := by
                refine hF_L28a.trans ?_
                refine (F_Te_is_L28a_s ..).trans ?_
                refine (if_neg c_59).trans ?_
                try (extract_lets -merge -useContext +onlyGivenNames y9; have e9 : x_63 = y9 := (by first | exact he_x_63 | exact he_x_63.symm); clear_value y9; subst e9)
                extract_lets -merge -useContext +onlyGivenNames w9 y9; have e9 : r_64 = w9 := he_r_64; clear_value w9; subst e9
                extract_lets -merge -useContext +onlyGivenNames w9 y9; have e9 : r_67 = w9 := he_r_67; clear_value w9; subst e9
                refine (if_pos c_70).trans ?_
                exact rfl
              exact ih_56 (v_38 + 1) H locs ls (z_up hmu_hlp_54 (by omega) trivial) (z_upc hi_55 (by omega) trivial) hX_72 hP hD hS (lv_sub hl [1, 2, 0] rfl)
            · skip
              refine lv_iconst (v := 0) hx hb dX8_is_54 (by decide) ?_
              have hX_74 : F_Te_is t_length t_kind t_start t_end c_tape i = ((0 : Int32) : Int32) := by
                refine hF_L28a.trans ?_
                refine (F_Te_is_L28a_s ..).trans ?_
                refine (if_neg c_59).trans ?_
                try (extract_lets -merge -useContext +onlyGivenNames y9; have e9 : x_63 = y9 := (by first | exact he_x_63 | exact he_x_63.symm); clear_value y9; subst e9)
                extract_lets -merge -useContext +onlyGivenNames w9 y9; have e9 : r_64 = w9 := he_r_64; clear_value w9; subst e9
                extract_lets -merge -useContext +onlyGivenNames w9 y9; have e9 : r_67 = w9 := he_r_67; clear_value w9; subst e9
                refine (if_neg c_70).trans ?_
                exact rfl
              exact hret _ _ _ _ _ _ () [0, 1] hP hD hS rfl (by decide) dX8_is_55 (Or.inl rfl) ⟨(congrArg (fun z9 => z9) hX_74).symm, (Or.inl rfl)⟩
      have hX_75 : F_Te_is t_length t_kind t_start t_end c_tape i = F_Te_is_L28a t_length t_start c_tape i ((2147483647 - (0 : Int32).toInt).toNat + 1) (0 : Int32) := by
        refine (F_Te_is_s ..).trans ?_
        refine (if_pos c_1).trans ?_
        try (extract_lets -merge -useContext +onlyGivenNames y9; have e9 : x_5 = y9 := (by first | exact he_x_5 | exact he_x_5.symm); clear_value y9; subst e9)
        refine (if_pos c_8).trans ?_
        exact rfl
      exact hlp_54 ((2147483647 - (0 : Int32).toInt).toNat + 1) 0 _ _ _ (Nat.lt_succ_self _) (by first | decide +kernel | omega) hX_75 hP hD hS (lv_sub hl [1, 2, 0] rfl)
    · skip
      refine lv_iconst (v := 0) hx hb dX8_is_24 (by decide) ?_
      have hX_77 : F_Te_is t_length t_kind t_start t_end c_tape i = ((0 : Int32) : Int32) := by
        refine (F_Te_is_s ..).trans ?_
        refine (if_pos c_1).trans ?_
        try (extract_lets -merge -useContext +onlyGivenNames y9; have e9 : x_5 = y9 := (by first | exact he_x_5 | exact he_x_5.symm); clear_value y9; subst e9)
        refine (if_neg c_8).trans ?_
        exact rfl
      exact hret _ _ _ _ _ _ () [0, 1] hP hD hS rfl (by decide) dX8_is_25 (Or.inl rfl) ⟨(congrArg (fun z9 => z9) hX_77).symm, (Or.inl rfl)⟩
set_option maxHeartbeats 40000000 in
set_option maxRecDepth 100000 in
theorem d_Te_isSign (l : Launch) (G : va_G) (cA : zCA) (t : Nat) (tape : Nat) (t_fed : Int32) (t_length : Int32) (t_kind : Int32) (t_start : Int32) (t_end : Int32) (t_number : Int32) (t_sign : Int32) (t_letters : Int64) (t_fault : Int32) (t_faultPlace : Int32) (k : Int32) : zCi l yX8_isSign cX8_isSign 2 (some .boolean) ({ frames := 0, cells := 0, slots := 0, locals := 0 }) G cA [.ref t, .int k] [(t, .inr (8, [.ref tape, .int t_fed, .int t_length, .int t_kind, .int t_start, .int t_end, .int t_number, .int t_sign, .long t_letters, .int t_fault, .int t_faultPlace]))] (S := Unit) (fun (r : Int32) (u : Unit) => (r = (F_Te_isSign t_kind t_sign k)) ∧ (r = 0 ∨ r = 1)) (fun (u : Unit) => [(t, .inr (8, [.ref tape, .int t_fed, .int t_length, .int t_kind, .int t_start, .int t_end, .int t_number, .int t_sign, .long t_letters, .int t_fault, .int t_faultPlace]))]) 0 0 := by
  refine z_start2z (own := RX8) (by decide) (Nat.le_of_ble_eq_true rfl) rfl ?_
  intro p e s m args below meth c A ls Q hx hb hml hts hown hK hE hT hP hD hS hA hl hret
  have hl : lv_has ls 2 [(0, .ref t), (1, .int k)] := hl
  refine lv_aload_n hx hb dX8_isSign_0 rfl (lv_at hl 0 rfl) ?_
  refine va_get (D := G) (ci := 8) (v := .int t_kind) (C := RX8) (T := TX8) (N := 11) hx hb hts inT8 hown hK hP 0 rfl rfl 3 (by decide) (hts _ tw_209) (fun _ h9 => h9) rfl dX8_isSign_1 ?_
  refine lv_iconst (v := 3) hx hb dX8_isSign_4 (by decide) ?_
  refine lv_icmp_ne (tgt := 20) hx hb dX8_isSign_5 (by decide) (fun c_1 => ?_) (fun c_1 => ?_)
  · skip
    refine lv_iconst (v := 0) hx hb dX8_isSign_20 (by decide) ?_
    have hX_3 : F_Te_isSign t_kind t_sign k = ((0 : Int32) : Int32) := by
      refine (F_Te_isSign_s ..).trans ?_
      refine (if_neg c_1).trans ?_
      exact rfl
    exact hret _ _ _ _ _ _ () [0] hP hD hS rfl (by decide) dX8_isSign_21 (Or.inl rfl) ⟨(congrArg (fun z9 => z9) hX_3).symm, (Or.inl rfl)⟩
  · skip
    refine lv_aload_n hx hb dX8_isSign_8 rfl (lv_at hl 0 rfl) ?_
    refine va_get (D := G) (ci := 8) (v := .int t_sign) (C := RX8) (T := TX8) (N := 11) hx hb hts inT8 hown hK hP 0 rfl rfl 7 (by decide) (hts _ tw_214) (fun _ h9 => h9) rfl dX8_isSign_9 ?_
    refine lv_iload_n hx hb dX8_isSign_12 rfl (lv_at hl 1 rfl) ?_
    refine lv_icmp_ne (tgt := 20) hx hb dX8_isSign_13 (by decide) (fun c_5 => ?_) (fun c_5 => ?_)
    · skip
      refine lv_iconst (v := 0) hx hb dX8_isSign_20 (by decide) ?_
      have hX_7 : F_Te_isSign t_kind t_sign k = ((0 : Int32) : Int32) := by
        refine (F_Te_isSign_s ..).trans ?_
        refine (if_pos c_1).trans ?_
        refine (if_neg c_5).trans ?_
        exact rfl
      exact hret _ _ _ _ _ _ () [0] hP hD hS rfl (by decide) dX8_isSign_21 (Or.inl rfl) ⟨(congrArg (fun z9 => z9) hX_7).symm, (Or.inl rfl)⟩
    · skip
      refine lv_iconst (v := 1) hx hb dX8_isSign_16 (by decide) ?_
      refine lv_goto (tgt := 21) hx hb dX8_isSign_17 (by decide) ?_
      have hX_9 : F_Te_isSign t_kind t_sign k = ((1 : Int32) : Int32) := by
        refine (F_Te_isSign_s ..).trans ?_
        refine (if_pos c_1).trans ?_
        refine (if_pos c_5).trans ?_
        exact rfl
      exact hret _ _ _ _ _ _ () [0] hP hD hS rfl (by decide) dX8_isSign_21 (Or.inr rfl) ⟨(congrArg (fun z9 => z9) hX_9).symm, (Or.inr rfl)⟩
set_option maxHeartbeats 40000000 in
set_option maxRecDepth 100000 in
theorem d_Te_isNumber (l : Launch) (G : va_G) (cA : zCA) (t : Nat) (tape : Nat) (t_fed : Int32) (t_length : Int32) (t_kind : Int32) (t_start : Int32) (t_end : Int32) (t_number : Int32) (t_sign : Int32) (t_letters : Int64) (t_fault : Int32) (t_faultPlace : Int32) : zCi l yX8_isNumber cX8_isNumber 1 (some .boolean) ({ frames := 0, cells := 0, slots := 0, locals := 0 }) G cA [.ref t] [(t, .inr (8, [.ref tape, .int t_fed, .int t_length, .int t_kind, .int t_start, .int t_end, .int t_number, .int t_sign, .long t_letters, .int t_fault, .int t_faultPlace]))] (S := Unit) (fun (r : Int32) (u : Unit) => (r = (F_Te_isNumber t_kind)) ∧ (r = 0 ∨ r = 1)) (fun (u : Unit) => [(t, .inr (8, [.ref tape, .int t_fed, .int t_length, .int t_kind, .int t_start, .int t_end, .int t_number, .int t_sign, .long t_letters, .int t_fault, .int t_faultPlace]))]) 0 0 := by
  refine z_start2z (own := RX8) (by decide) (Nat.le_of_ble_eq_true rfl) rfl ?_
  intro p e s m args below meth c A ls Q hx hb hml hts hown hK hE hT hP hD hS hA hl hret
  have hl : lv_has ls 1 [(0, .ref t)] := hl
  refine lv_aload_n hx hb dX8_isNumber_0 rfl (lv_at hl 0 rfl) ?_
  refine va_get (D := G) (ci := 8) (v := .int t_kind) (C := RX8) (T := TX8) (N := 11) hx hb hts inT8 hown hK hP 0 rfl rfl 3 (by decide) (hts _ tw_209) (fun _ h9 => h9) rfl dX8_isNumber_1 ?_
  refine lv_iconst (v := 2) hx hb dX8_isNumber_4 (by decide) ?_
  refine lv_icmp_ne (tgt := 12) hx hb dX8_isNumber_5 (by decide) (fun c_1 => ?_) (fun c_1 => ?_)
  · skip
    refine lv_iconst (v := 0) hx hb dX8_isNumber_12 (by decide) ?_
    have hX_3 : F_Te_isNumber t_kind = ((0 : Int32) : Int32) := by
      refine (F_Te_isNumber_s ..).trans ?_
      refine (if_neg c_1).trans ?_
      exact rfl
    exact hret _ _ _ _ _ _ () [0] hP hD hS rfl (by decide) dX8_isNumber_13 (Or.inl rfl) ⟨(congrArg (fun z9 => z9) hX_3).symm, (Or.inl rfl)⟩
  · skip
    refine lv_iconst (v := 1) hx hb dX8_isNumber_8 (by decide) ?_
    refine lv_goto (tgt := 13) hx hb dX8_isNumber_9 (by decide) ?_
    have hX_5 : F_Te_isNumber t_kind = ((1 : Int32) : Int32) := by
      refine (F_Te_isNumber_s ..).trans ?_
      refine (if_pos c_1).trans ?_
      exact rfl
    exact hret _ _ _ _ _ _ () [0] hP hD hS rfl (by decide) dX8_isNumber_13 (Or.inr rfl) ⟨(congrArg (fun z9 => z9) hX_5).symm, (Or.inr rfl)⟩
set_option maxHeartbeats 40000000 in
set_option maxRecDepth 100000 in
theorem d_Te_isName (l : Launch) (G : va_G) (cA : zCA) (t : Nat) (tape : Nat) (t_fed : Int32) (t_length : Int32) (t_kind : Int32) (t_start : Int32) (t_end : Int32) (t_number : Int32) (t_sign : Int32) (t_letters : Int64) (t_fault : Int32) (t_faultPlace : Int32) (c_tape : Nat → Int32) : zCi l yX8_isName cX8_isName 1 (some .boolean) ({ frames := 5, cells := 0, slots := 0, locals := 107 }) G cA [.ref t] [(t, .inr (8, [.ref tape, .int t_fed, .int t_length, .int t_kind, .int t_start, .int t_end, .int t_number, .int t_sign, .long t_letters, .int t_fault, .int t_faultPlace])), (tape, .inl (cA.1 2, 900, .inl c_tape))] (S := Unit) (fun (r : Int32) (u : Unit) => (r = (F_Te_isName t_length t_kind t_start t_end t_letters c_tape)) ∧ (r = 0 ∨ r = 1)) (fun (u : Unit) => [(t, .inr (8, [.ref tape, .int t_fed, .int t_length, .int t_kind, .int t_start, .int t_end, .int t_number, .int t_sign, .long t_letters, .int t_fault, .int t_faultPlace])), (tape, .inl (cA.1 2, 900, .inl c_tape))]) 0 0 := by
  refine z_start2z (own := RX8) (by decide) (Nat.le_of_ble_eq_true rfl) rfl ?_
  intro p e s m args below meth c A ls Q hx hb hml hts hown hK hE hT hP hD hS hA hl hret
  have hl : lv_has ls 1 [(0, .ref t)] := hl
  refine lv_aload_n hx hb dX8_isName_0 rfl (lv_at hl 0 rfl) ?_
  refine va_get (D := G) (ci := 8) (v := .int t_kind) (C := RX8) (T := TX8) (N := 11) hx hb hts inT8 hown hK hP 0 rfl rfl 3 (by decide) (hts _ tw_209) (fun _ h9 => h9) rfl dX8_isName_1 ?_
  refine lv_iconst (v := 1) hx hb dX8_isName_4 (by decide) ?_
  refine lv_icmp_ne (tgt := 17) hx hb dX8_isName_5 (by decide) (fun c_1 => ?_) (fun c_1 => ?_)
  · skip
    refine lv_iconst (v := 0) hx hb dX8_isName_17 (by decide) ?_
    have hX_3 : F_Te_isName t_length t_kind t_start t_end t_letters c_tape = ((0 : Int32) : Int32) := by
      refine (F_Te_isName_s ..).trans ?_
      refine (if_neg c_1).trans ?_
      exact rfl
    exact hret _ _ _ _ _ _ () [0, 1] hP hD hS rfl (by decide) dX8_isName_18 (Or.inl rfl) ⟨(congrArg (fun z9 => z9) hX_3).symm, (Or.inl rfl)⟩
  · skip
    refine lv_aload_n hx hb dX8_isName_8 rfl (lv_at hl 0 rfl) ?_
    refine va_get (D := G) (ci := 8) (v := .long t_letters) (C := RX8) (T := TX8) (N := 11) hx hb hts inT8 hown hK hP 0 rfl rfl 8 (by decide) (hts _ tw_217) (fun _ h9 => h9) rfl dX8_isName_9 ?_
    refine lv_lconst (v := 0) hx hb dX8_isName_12 (by decide) ?_
    refine W.lcmp hx hb dX8_isName_13 ?_
    refine lv_if_ne (tgt := 19) hx hb dX8_isName_14 (by decide) (fun c_5 => ?_) (fun c_5 => ?_)
    · skip
      refine lv_aload_n hx hb dX8_isName_19 rfl (lv_at hl 0 rfl) ?_
      refine va_ldcS hx hb hown (show vk_R "DarkRing$Text" 86 "feature" (cA.2.1 1) s from (hT.1 1 (by decide)).1) dX8_isName_20 ?_
      refine z_callVi (As := [.ref (cA.2.1 1)]) (rest := []) (wr := []) ⟨hx, hb, hml, hown, hts⟩ hK hE hT hP hD hS hA (d_Te_is l G cA t tape t_fed t_length t_kind t_start t_end t_number t_sign t_letters t_fault t_faultPlace c_tape 1 (by decide)) lk_RX8_88 ⟨rfl, rfl⟩ ⟨Nat.le_of_ble_eq_true rfl, Nat.le_of_ble_eq_true rfl⟩ 8 rfl rfl rfl [0, 1] [] rfl rfl (by decide) rfl hl.1 rfl (lv_room (Nat.le_of_ble_eq_true rfl)) dX8_isName_22 ⟨Nat.le_of_ble_eq_true rfl, Nat.le_of_ble_eq_true rfl⟩ (fun r_7 u_8 H locs hw hP hD hS => ?_)
      have hP : va_P G vwCl [(t, .inr (8, [.ref tape, .int t_fed, .int t_length, .int t_kind, .int t_start, .int t_end, .int t_number, .int t_sign, .long t_letters, .int t_fault, .int t_faultPlace])), (tape, .inl (cA.1 2, 900, .inl c_tape))] H := hP
      have hD : va_D A [(t, .inr (8, [.ref tape, .int t_fed, .int t_length, .int t_kind, .int t_start, .int t_end, .int t_number, .int t_sign, .long t_letters, .int t_fault, .int t_faultPlace])), (tape, .inl (cA.1 2, 900, .inl c_tape))] := hD
      obtain ⟨he_r_7, hw⟩ := hw
      have hz_r_7 := hw
      refine lv_if_ne (tgt := 158) hx hb dX8_isName_25 (by decide) (fun c_10 => ?_) (fun c_10 => ?_)
      · skip
        refine lv_iconst (v := 0) hx hb dX8_isName_158 (by decide) ?_
        have hX_12 : F_Te_isName t_length t_kind t_start t_end t_letters c_tape = ((0 : Int32) : Int32) := by
          refine (F_Te_isName_s ..).trans ?_
          refine (if_pos c_1).trans ?_
          refine (if_neg c_5).trans ?_
          extract_lets -merge -useContext +onlyGivenNames w9 y9; have e9 : r_7 = w9 := he_r_7; clear_value w9; subst e9
          refine (if_neg c_10).trans ?_
          exact rfl
        exact hret _ _ _ _ _ _ () [0, 1] hP hD hS rfl (by decide) dX8_isName_159 (Or.inl rfl) ⟨(congrArg (fun z9 => z9) hX_12).symm, (Or.inl rfl)⟩
      · skip
        refine lv_aload_n hx hb dX8_isName_28 rfl (lv_at hl 0 rfl) ?_
        refine va_ldcS hx hb hown (show vk_R "DarkRing$Text" 92 "steps" (cA.2.1 2) s from (hT.1 2 (by decide)).1) dX8_isName_29 ?_
        refine z_callVi (As := [.ref (cA.2.1 2)]) (rest := []) (wr := []) ⟨hx, hb, hml, hown, hts⟩ hK hE hT hP hD hS hA (d_Te_is l G cA t tape t_fed t_length t_kind t_start t_end t_number t_sign t_letters t_fault t_faultPlace c_tape 2 (by decide)) lk_RX8_88 ⟨rfl, rfl⟩ ⟨Nat.le_of_ble_eq_true rfl, Nat.le_of_ble_eq_true rfl⟩ 8 rfl rfl rfl [0, 1] [] rfl rfl (by decide) rfl hl.1 rfl (lv_room (Nat.le_of_ble_eq_true rfl)) dX8_isName_31 ⟨Nat.le_of_ble_eq_true rfl, Nat.le_of_ble_eq_true rfl⟩ (fun r_14 u_15 H locs hw hP hD hS => ?_)
        have hP : va_P G vwCl [(t, .inr (8, [.ref tape, .int t_fed, .int t_length, .int t_kind, .int t_start, .int t_end, .int t_number, .int t_sign, .long t_letters, .int t_fault, .int t_faultPlace])), (tape, .inl (cA.1 2, 900, .inl c_tape))] H := hP
        have hD : va_D A [(t, .inr (8, [.ref tape, .int t_fed, .int t_length, .int t_kind, .int t_start, .int t_end, .int t_number, .int t_sign, .long t_letters, .int t_fault, .int t_faultPlace])), (tape, .inl (cA.1 2, 900, .inl c_tape))] := hD
        obtain ⟨he_r_14, hw⟩ := hw
        have hz_r_14 := hw
        refine lv_if_ne (tgt := 158) hx hb dX8_isName_34 (by decide) (fun c_17 => ?_) (fun c_17 => ?_)
        · skip
          refine lv_iconst (v := 0) hx hb dX8_isName_158 (by decide) ?_
          have hX_19 : F_Te_isName t_length t_kind t_start t_end t_letters c_tape = ((0 : Int32) : Int32) := by
            refine (F_Te_isName_s ..).trans ?_
            refine (if_pos c_1).trans ?_
            refine (if_neg c_5).trans ?_
            extract_lets -merge -useContext +onlyGivenNames w9 y9; have e9 : r_7 = w9 := he_r_7; clear_value w9; subst e9
            refine (if_pos c_10).trans ?_
            extract_lets -merge -useContext +onlyGivenNames w9 y9; have e9 : r_14 = w9 := he_r_14; clear_value w9; subst e9
            refine (if_neg c_17).trans ?_
            exact rfl
          exact hret _ _ _ _ _ _ () [0, 1] hP hD hS rfl (by decide) dX8_isName_159 (Or.inl rfl) ⟨(congrArg (fun z9 => z9) hX_19).symm, (Or.inl rfl)⟩
        · skip
          refine lv_aload_n hx hb dX8_isName_37 rfl (lv_at hl 0 rfl) ?_
          refine va_ldcS hx hb hown (show vk_R "DarkRing$Text" 94 "turned" (cA.2.1 3) s from (hT.1 3 (by decide)).1) dX8_isName_38 ?_
          refine z_callVi (As := [.ref (cA.2.1 3)]) (rest := []) (wr := []) ⟨hx, hb, hml, hown, hts⟩ hK hE hT hP hD hS hA (d_Te_is l G cA t tape t_fed t_length t_kind t_start t_end t_number t_sign t_letters t_fault t_faultPlace c_tape 3 (by decide)) lk_RX8_88 ⟨rfl, rfl⟩ ⟨Nat.le_of_ble_eq_true rfl, Nat.le_of_ble_eq_true rfl⟩ 8 rfl rfl rfl [0, 1] [] rfl rfl (by decide) rfl hl.1 rfl (lv_room (Nat.le_of_ble_eq_true rfl)) dX8_isName_40 ⟨Nat.le_of_ble_eq_true rfl, Nat.le_of_ble_eq_true rfl⟩ (fun r_21 u_22 H locs hw hP hD hS => ?_)
          have hP : va_P G vwCl [(t, .inr (8, [.ref tape, .int t_fed, .int t_length, .int t_kind, .int t_start, .int t_end, .int t_number, .int t_sign, .long t_letters, .int t_fault, .int t_faultPlace])), (tape, .inl (cA.1 2, 900, .inl c_tape))] H := hP
          have hD : va_D A [(t, .inr (8, [.ref tape, .int t_fed, .int t_length, .int t_kind, .int t_start, .int t_end, .int t_number, .int t_sign, .long t_letters, .int t_fault, .int t_faultPlace])), (tape, .inl (cA.1 2, 900, .inl c_tape))] := hD
          obtain ⟨he_r_21, hw⟩ := hw
          have hz_r_21 := hw
          refine lv_if_ne (tgt := 158) hx hb dX8_isName_43 (by decide) (fun c_24 => ?_) (fun c_24 => ?_)
          · skip
            refine lv_iconst (v := 0) hx hb dX8_isName_158 (by decide) ?_
            have hX_26 : F_Te_isName t_length t_kind t_start t_end t_letters c_tape = ((0 : Int32) : Int32) := by
              refine (F_Te_isName_s ..).trans ?_
              refine (if_pos c_1).trans ?_
              refine (if_neg c_5).trans ?_
              extract_lets -merge -useContext +onlyGivenNames w9 y9; have e9 : r_7 = w9 := he_r_7; clear_value w9; subst e9
              refine (if_pos c_10).trans ?_
              extract_lets -merge -useContext +onlyGivenNames w9 y9; have e9 : r_14 = w9 := he_r_14; clear_value w9; subst e9
              refine (if_pos c_17).trans ?_
              extract_lets -merge -useContext +onlyGivenNames w9 y9; have e9 : r_21 = w9 := he_r_21; clear_value w9; subst e9
              refine (if_neg c_24).trans ?_
              exact rfl
            exact hret _ _ _ _ _ _ () [0, 1] hP hD hS rfl (by decide) dX8_isName_159 (Or.inl rfl) ⟨(congrArg (fun z9 => z9) hX_26).symm, (Or.inl rfl)⟩
          · skip
            refine lv_aload_n hx hb dX8_isName_46 rfl (lv_at hl 0 rfl) ?_
            refine va_ldcS hx hb hown (show vk_R "DarkRing$Text" 96 "feels" (cA.2.1 4) s from (hT.1 4 (by decide)).1) dX8_isName_47 ?_
            refine z_callVi (As := [.ref (cA.2.1 4)]) (rest := []) (wr := []) ⟨hx, hb, hml, hown, hts⟩ hK hE hT hP hD hS hA (d_Te_is l G cA t tape t_fed t_length t_kind t_start t_end t_number t_sign t_letters t_fault t_faultPlace c_tape 4 (by decide)) lk_RX8_88 ⟨rfl, rfl⟩ ⟨Nat.le_of_ble_eq_true rfl, Nat.le_of_ble_eq_true rfl⟩ 8 rfl rfl rfl [0, 1] [] rfl rfl (by decide) rfl hl.1 rfl (lv_room (Nat.le_of_ble_eq_true rfl)) dX8_isName_49 ⟨Nat.le_of_ble_eq_true rfl, Nat.le_of_ble_eq_true rfl⟩ (fun r_28 u_29 H locs hw hP hD hS => ?_)
            have hP : va_P G vwCl [(t, .inr (8, [.ref tape, .int t_fed, .int t_length, .int t_kind, .int t_start, .int t_end, .int t_number, .int t_sign, .long t_letters, .int t_fault, .int t_faultPlace])), (tape, .inl (cA.1 2, 900, .inl c_tape))] H := hP
            have hD : va_D A [(t, .inr (8, [.ref tape, .int t_fed, .int t_length, .int t_kind, .int t_start, .int t_end, .int t_number, .int t_sign, .long t_letters, .int t_fault, .int t_faultPlace])), (tape, .inl (cA.1 2, 900, .inl c_tape))] := hD
            obtain ⟨he_r_28, hw⟩ := hw
            have hz_r_28 := hw
            refine lv_if_ne (tgt := 158) hx hb dX8_isName_52 (by decide) (fun c_31 => ?_) (fun c_31 => ?_)
            · skip
              refine lv_iconst (v := 0) hx hb dX8_isName_158 (by decide) ?_
              have hX_33 : F_Te_isName t_length t_kind t_start t_end t_letters c_tape = ((0 : Int32) : Int32) := by
                refine (F_Te_isName_s ..).trans ?_
                refine (if_pos c_1).trans ?_
                refine (if_neg c_5).trans ?_
                extract_lets -merge -useContext +onlyGivenNames w9 y9; have e9 : r_7 = w9 := he_r_7; clear_value w9; subst e9
                refine (if_pos c_10).trans ?_
                extract_lets -merge -useContext +onlyGivenNames w9 y9; have e9 : r_14 = w9 := he_r_14; clear_value w9; subst e9
                refine (if_pos c_17).trans ?_
                extract_lets -merge -useContext +onlyGivenNames w9 y9; have e9 : r_21 = w9 := he_r_21; clear_value w9; subst e9
                refine (if_pos c_24).trans ?_
                extract_lets -merge -useContext +onlyGivenNames w9 y9; have e9 : r_28 = w9 := he_r_28; clear_value w9; subst e9
                refine (if_neg c_31).trans ?_
                exact rfl
              exact hret _ _ _ _ _ _ () [0, 1] hP hD hS rfl (by decide) dX8_isName_159 (Or.inl rfl) ⟨(congrArg (fun z9 => z9) hX_33).symm, (Or.inl rfl)⟩
            · skip
              refine lv_aload_n hx hb dX8_isName_55 rfl (lv_at hl 0 rfl) ?_
              refine va_ldcS hx hb hown (show vk_R "DarkRing$Text" 98 "key" (cA.2.1 5) s from (hT.1 5 (by decide)).1) dX8_isName_56 ?_
              refine z_callVi (As := [.ref (cA.2.1 5)]) (rest := []) (wr := []) ⟨hx, hb, hml, hown, hts⟩ hK hE hT hP hD hS hA (d_Te_is l G cA t tape t_fed t_length t_kind t_start t_end t_number t_sign t_letters t_fault t_faultPlace c_tape 5 (by decide)) lk_RX8_88 ⟨rfl, rfl⟩ ⟨Nat.le_of_ble_eq_true rfl, Nat.le_of_ble_eq_true rfl⟩ 8 rfl rfl rfl [0, 1] [] rfl rfl (by decide) rfl hl.1 rfl (lv_room (Nat.le_of_ble_eq_true rfl)) dX8_isName_58 ⟨Nat.le_of_ble_eq_true rfl, Nat.le_of_ble_eq_true rfl⟩ (fun r_35 u_36 H locs hw hP hD hS => ?_)
              have hP : va_P G vwCl [(t, .inr (8, [.ref tape, .int t_fed, .int t_length, .int t_kind, .int t_start, .int t_end, .int t_number, .int t_sign, .long t_letters, .int t_fault, .int t_faultPlace])), (tape, .inl (cA.1 2, 900, .inl c_tape))] H := hP
              have hD : va_D A [(t, .inr (8, [.ref tape, .int t_fed, .int t_length, .int t_kind, .int t_start, .int t_end, .int t_number, .int t_sign, .long t_letters, .int t_fault, .int t_faultPlace])), (tape, .inl (cA.1 2, 900, .inl c_tape))] := hD
              obtain ⟨he_r_35, hw⟩ := hw
              have hz_r_35 := hw
              refine lv_if_ne (tgt := 158) hx hb dX8_isName_61 (by decide) (fun c_38 => ?_) (fun c_38 => ?_)
              · skip
                refine lv_iconst (v := 0) hx hb dX8_isName_158 (by decide) ?_
                have hX_40 : F_Te_isName t_length t_kind t_start t_end t_letters c_tape = ((0 : Int32) : Int32) := by
                  refine (F_Te_isName_s ..).trans ?_
                  refine (if_pos c_1).trans ?_
                  refine (if_neg c_5).trans ?_
                  extract_lets -merge -useContext +onlyGivenNames w9 y9; have e9 : r_7 = w9 := he_r_7; clear_value w9; subst e9
                  refine (if_pos c_10).trans ?_
                  extract_lets -merge -useContext +onlyGivenNames w9 y9; have e9 : r_14 = w9 := he_r_14; clear_value w9; subst e9
                  refine (if_pos c_17).trans ?_
                  extract_lets -merge -useContext +onlyGivenNames w9 y9; have e9 : r_21 = w9 := he_r_21; clear_value w9; subst e9
                  refine (if_pos c_24).trans ?_
                  extract_lets -merge -useContext +onlyGivenNames w9 y9; have e9 : r_28 = w9 := he_r_28; clear_value w9; subst e9
                  refine (if_pos c_31).trans ?_
                  extract_lets -merge -useContext +onlyGivenNames w9 y9; have e9 : r_35 = w9 := he_r_35; clear_value w9; subst e9
                  refine (if_neg c_38).trans ?_
                  exact rfl
                exact hret _ _ _ _ _ _ () [0, 1] hP hD hS rfl (by decide) dX8_isName_159 (Or.inl rfl) ⟨(congrArg (fun z9 => z9) hX_40).symm, (Or.inl rfl)⟩
              · skip
                refine lv_aload_n hx hb dX8_isName_64 rfl (lv_at hl 0 rfl) ?_
                refine va_ldcS hx hb hown (show vk_R "DarkRing$Text" 100 "ring" (cA.2.1 6) s from (hT.1 6 (by decide)).1) dX8_isName_65 ?_
                refine z_callVi (As := [.ref (cA.2.1 6)]) (rest := []) (wr := []) ⟨hx, hb, hml, hown, hts⟩ hK hE hT hP hD hS hA (d_Te_is l G cA t tape t_fed t_length t_kind t_start t_end t_number t_sign t_letters t_fault t_faultPlace c_tape 6 (by decide)) lk_RX8_88 ⟨rfl, rfl⟩ ⟨Nat.le_of_ble_eq_true rfl, Nat.le_of_ble_eq_true rfl⟩ 8 rfl rfl rfl [0, 1] [] rfl rfl (by decide) rfl hl.1 rfl (lv_room (Nat.le_of_ble_eq_true rfl)) dX8_isName_67 ⟨Nat.le_of_ble_eq_true rfl, Nat.le_of_ble_eq_true rfl⟩ (fun r_42 u_43 H locs hw hP hD hS => ?_)
                have hP : va_P G vwCl [(t, .inr (8, [.ref tape, .int t_fed, .int t_length, .int t_kind, .int t_start, .int t_end, .int t_number, .int t_sign, .long t_letters, .int t_fault, .int t_faultPlace])), (tape, .inl (cA.1 2, 900, .inl c_tape))] H := hP
                have hD : va_D A [(t, .inr (8, [.ref tape, .int t_fed, .int t_length, .int t_kind, .int t_start, .int t_end, .int t_number, .int t_sign, .long t_letters, .int t_fault, .int t_faultPlace])), (tape, .inl (cA.1 2, 900, .inl c_tape))] := hD
                obtain ⟨he_r_42, hw⟩ := hw
                have hz_r_42 := hw
                refine lv_if_ne (tgt := 158) hx hb dX8_isName_70 (by decide) (fun c_45 => ?_) (fun c_45 => ?_)
                · skip
                  refine lv_iconst (v := 0) hx hb dX8_isName_158 (by decide) ?_
                  have hX_47 : F_Te_isName t_length t_kind t_start t_end t_letters c_tape = ((0 : Int32) : Int32) := by
                    refine (F_Te_isName_s ..).trans ?_
                    refine (if_pos c_1).trans ?_
                    refine (if_neg c_5).trans ?_
                    extract_lets -merge -useContext +onlyGivenNames w9 y9; have e9 : r_7 = w9 := he_r_7; clear_value w9; subst e9
                    refine (if_pos c_10).trans ?_
                    extract_lets -merge -useContext +onlyGivenNames w9 y9; have e9 : r_14 = w9 := he_r_14; clear_value w9; subst e9
                    refine (if_pos c_17).trans ?_
                    extract_lets -merge -useContext +onlyGivenNames w9 y9; have e9 : r_21 = w9 := he_r_21; clear_value w9; subst e9
                    refine (if_pos c_24).trans ?_
                    extract_lets -merge -useContext +onlyGivenNames w9 y9; have e9 : r_28 = w9 := he_r_28; clear_value w9; subst e9
                    refine (if_pos c_31).trans ?_
                    extract_lets -merge -useContext +onlyGivenNames w9 y9; have e9 : r_35 = w9 := he_r_35; clear_value w9; subst e9
                    refine (if_pos c_38).trans ?_
                    extract_lets -merge -useContext +onlyGivenNames w9 y9; have e9 : r_42 = w9 := he_r_42; clear_value w9; subst e9
                    refine (if_neg c_45).trans ?_
                    exact rfl
                  exact hret _ _ _ _ _ _ () [0, 1] hP hD hS rfl (by decide) dX8_isName_159 (Or.inl rfl) ⟨(congrArg (fun z9 => z9) hX_47).symm, (Or.inl rfl)⟩
                · skip
                  refine lv_aload_n hx hb dX8_isName_73 rfl (lv_at hl 0 rfl) ?_
                  refine va_ldcS hx hb hown (show vk_R "DarkRing$Text" 102 "door" (cA.2.1 7) s from (hT.1 7 (by decide)).1) dX8_isName_74 ?_
                  refine z_callVi (As := [.ref (cA.2.1 7)]) (rest := []) (wr := []) ⟨hx, hb, hml, hown, hts⟩ hK hE hT hP hD hS hA (d_Te_is l G cA t tape t_fed t_length t_kind t_start t_end t_number t_sign t_letters t_fault t_faultPlace c_tape 7 (by decide)) lk_RX8_88 ⟨rfl, rfl⟩ ⟨Nat.le_of_ble_eq_true rfl, Nat.le_of_ble_eq_true rfl⟩ 8 rfl rfl rfl [0, 1] [] rfl rfl (by decide) rfl hl.1 rfl (lv_room (Nat.le_of_ble_eq_true rfl)) dX8_isName_76 ⟨Nat.le_of_ble_eq_true rfl, Nat.le_of_ble_eq_true rfl⟩ (fun r_49 u_50 H locs hw hP hD hS => ?_)
                  have hP : va_P G vwCl [(t, .inr (8, [.ref tape, .int t_fed, .int t_length, .int t_kind, .int t_start, .int t_end, .int t_number, .int t_sign, .long t_letters, .int t_fault, .int t_faultPlace])), (tape, .inl (cA.1 2, 900, .inl c_tape))] H := hP
                  have hD : va_D A [(t, .inr (8, [.ref tape, .int t_fed, .int t_length, .int t_kind, .int t_start, .int t_end, .int t_number, .int t_sign, .long t_letters, .int t_fault, .int t_faultPlace])), (tape, .inl (cA.1 2, 900, .inl c_tape))] := hD
                  obtain ⟨he_r_49, hw⟩ := hw
                  have hz_r_49 := hw
                  refine lv_if_ne (tgt := 158) hx hb dX8_isName_79 (by decide) (fun c_52 => ?_) (fun c_52 => ?_)
                  · skip
                    refine lv_iconst (v := 0) hx hb dX8_isName_158 (by decide) ?_
                    have hX_54 : F_Te_isName t_length t_kind t_start t_end t_letters c_tape = ((0 : Int32) : Int32) := by
                      refine (F_Te_isName_s ..).trans ?_
                      refine (if_pos c_1).trans ?_
                      refine (if_neg c_5).trans ?_
                      extract_lets -merge -useContext +onlyGivenNames w9 y9; have e9 : r_7 = w9 := he_r_7; clear_value w9; subst e9
                      refine (if_pos c_10).trans ?_
                      extract_lets -merge -useContext +onlyGivenNames w9 y9; have e9 : r_14 = w9 := he_r_14; clear_value w9; subst e9
                      refine (if_pos c_17).trans ?_
                      extract_lets -merge -useContext +onlyGivenNames w9 y9; have e9 : r_21 = w9 := he_r_21; clear_value w9; subst e9
                      refine (if_pos c_24).trans ?_
                      extract_lets -merge -useContext +onlyGivenNames w9 y9; have e9 : r_28 = w9 := he_r_28; clear_value w9; subst e9
                      refine (if_pos c_31).trans ?_
                      extract_lets -merge -useContext +onlyGivenNames w9 y9; have e9 : r_35 = w9 := he_r_35; clear_value w9; subst e9
                      refine (if_pos c_38).trans ?_
                      extract_lets -merge -useContext +onlyGivenNames w9 y9; have e9 : r_42 = w9 := he_r_42; clear_value w9; subst e9
                      refine (if_pos c_45).trans ?_
                      extract_lets -merge -useContext +onlyGivenNames w9 y9; have e9 : r_49 = w9 := he_r_49; clear_value w9; subst e9
                      refine (if_neg c_52).trans ?_
                      exact rfl
                    exact hret _ _ _ _ _ _ () [0, 1] hP hD hS rfl (by decide) dX8_isName_159 (Or.inl rfl) ⟨(congrArg (fun z9 => z9) hX_54).symm, (Or.inl rfl)⟩
                  · skip
                    refine lv_aload_n hx hb dX8_isName_82 rfl (lv_at hl 0 rfl) ?_
                    refine va_ldcS hx hb hown (show vk_R "DarkRing$Text" 104 "wanted" (cA.2.1 8) s from (hT.1 8 (by decide)).1) dX8_isName_83 ?_
                    refine z_callVi (As := [.ref (cA.2.1 8)]) (rest := []) (wr := []) ⟨hx, hb, hml, hown, hts⟩ hK hE hT hP hD hS hA (d_Te_is l G cA t tape t_fed t_length t_kind t_start t_end t_number t_sign t_letters t_fault t_faultPlace c_tape 8 (by decide)) lk_RX8_88 ⟨rfl, rfl⟩ ⟨Nat.le_of_ble_eq_true rfl, Nat.le_of_ble_eq_true rfl⟩ 8 rfl rfl rfl [0, 1] [] rfl rfl (by decide) rfl hl.1 rfl (lv_room (Nat.le_of_ble_eq_true rfl)) dX8_isName_85 ⟨Nat.le_of_ble_eq_true rfl, Nat.le_of_ble_eq_true rfl⟩ (fun r_56 u_57 H locs hw hP hD hS => ?_)
                    have hP : va_P G vwCl [(t, .inr (8, [.ref tape, .int t_fed, .int t_length, .int t_kind, .int t_start, .int t_end, .int t_number, .int t_sign, .long t_letters, .int t_fault, .int t_faultPlace])), (tape, .inl (cA.1 2, 900, .inl c_tape))] H := hP
                    have hD : va_D A [(t, .inr (8, [.ref tape, .int t_fed, .int t_length, .int t_kind, .int t_start, .int t_end, .int t_number, .int t_sign, .long t_letters, .int t_fault, .int t_faultPlace])), (tape, .inl (cA.1 2, 900, .inl c_tape))] := hD
                    obtain ⟨he_r_56, hw⟩ := hw
                    have hz_r_56 := hw
                    refine lv_if_ne (tgt := 158) hx hb dX8_isName_88 (by decide) (fun c_59 => ?_) (fun c_59 => ?_)
                    · skip
                      refine lv_iconst (v := 0) hx hb dX8_isName_158 (by decide) ?_
                      have hX_61 : F_Te_isName t_length t_kind t_start t_end t_letters c_tape = ((0 : Int32) : Int32) := by
                        refine (F_Te_isName_s ..).trans ?_
                        refine (if_pos c_1).trans ?_
                        refine (if_neg c_5).trans ?_
                        extract_lets -merge -useContext +onlyGivenNames w9 y9; have e9 : r_7 = w9 := he_r_7; clear_value w9; subst e9
                        refine (if_pos c_10).trans ?_
                        extract_lets -merge -useContext +onlyGivenNames w9 y9; have e9 : r_14 = w9 := he_r_14; clear_value w9; subst e9
                        refine (if_pos c_17).trans ?_
                        extract_lets -merge -useContext +onlyGivenNames w9 y9; have e9 : r_21 = w9 := he_r_21; clear_value w9; subst e9
                        refine (if_pos c_24).trans ?_
                        extract_lets -merge -useContext +onlyGivenNames w9 y9; have e9 : r_28 = w9 := he_r_28; clear_value w9; subst e9
                        refine (if_pos c_31).trans ?_
                        extract_lets -merge -useContext +onlyGivenNames w9 y9; have e9 : r_35 = w9 := he_r_35; clear_value w9; subst e9
                        refine (if_pos c_38).trans ?_
                        extract_lets -merge -useContext +onlyGivenNames w9 y9; have e9 : r_42 = w9 := he_r_42; clear_value w9; subst e9
                        refine (if_pos c_45).trans ?_
                        extract_lets -merge -useContext +onlyGivenNames w9 y9; have e9 : r_49 = w9 := he_r_49; clear_value w9; subst e9
                        refine (if_pos c_52).trans ?_
                        extract_lets -merge -useContext +onlyGivenNames w9 y9; have e9 : r_56 = w9 := he_r_56; clear_value w9; subst e9
                        refine (if_neg c_59).trans ?_
                        exact rfl
                      exact hret _ _ _ _ _ _ () [0, 1] hP hD hS rfl (by decide) dX8_isName_159 (Or.inl rfl) ⟨(congrArg (fun z9 => z9) hX_61).symm, (Or.inl rfl)⟩
                    · skip
                      refine lv_aload_n hx hb dX8_isName_91 rfl (lv_at hl 0 rfl) ?_
                      refine va_ldcS hx hb hown (show vk_R "DarkRing$Text" 106 "by" (cA.2.1 9) s from (hT.1 9 (by decide)).1) dX8_isName_92 ?_
                      refine z_callVi (As := [.ref (cA.2.1 9)]) (rest := []) (wr := []) ⟨hx, hb, hml, hown, hts⟩ hK hE hT hP hD hS hA (d_Te_is l G cA t tape t_fed t_length t_kind t_start t_end t_number t_sign t_letters t_fault t_faultPlace c_tape 9 (by decide)) lk_RX8_88 ⟨rfl, rfl⟩ ⟨Nat.le_of_ble_eq_true rfl, Nat.le_of_ble_eq_true rfl⟩ 8 rfl rfl rfl [0, 1] [] rfl rfl (by decide) rfl hl.1 rfl (lv_room (Nat.le_of_ble_eq_true rfl)) dX8_isName_94 ⟨Nat.le_of_ble_eq_true rfl, Nat.le_of_ble_eq_true rfl⟩ (fun r_63 u_64 H locs hw hP hD hS => ?_)
                      have hP : va_P G vwCl [(t, .inr (8, [.ref tape, .int t_fed, .int t_length, .int t_kind, .int t_start, .int t_end, .int t_number, .int t_sign, .long t_letters, .int t_fault, .int t_faultPlace])), (tape, .inl (cA.1 2, 900, .inl c_tape))] H := hP
                      have hD : va_D A [(t, .inr (8, [.ref tape, .int t_fed, .int t_length, .int t_kind, .int t_start, .int t_end, .int t_number, .int t_sign, .long t_letters, .int t_fault, .int t_faultPlace])), (tape, .inl (cA.1 2, 900, .inl c_tape))] := hD
                      obtain ⟨he_r_63, hw⟩ := hw
                      have hz_r_63 := hw
                      refine lv_if_ne (tgt := 158) hx hb dX8_isName_97 (by decide) (fun c_66 => ?_) (fun c_66 => ?_)
                      · skip
                        refine lv_iconst (v := 0) hx hb dX8_isName_158 (by decide) ?_
                        have hX_68 : F_Te_isName t_length t_kind t_start t_end t_letters c_tape = ((0 : Int32) : Int32) := by
                          refine (F_Te_isName_s ..).trans ?_
                          refine (if_pos c_1).trans ?_
                          refine (if_neg c_5).trans ?_
                          extract_lets -merge -useContext +onlyGivenNames w9 y9; have e9 : r_7 = w9 := he_r_7; clear_value w9; subst e9
                          refine (if_pos c_10).trans ?_
                          extract_lets -merge -useContext +onlyGivenNames w9 y9; have e9 : r_14 = w9 := he_r_14; clear_value w9; subst e9
                          refine (if_pos c_17).trans ?_
                          extract_lets -merge -useContext +onlyGivenNames w9 y9; have e9 : r_21 = w9 := he_r_21; clear_value w9; subst e9
                          refine (if_pos c_24).trans ?_
                          extract_lets -merge -useContext +onlyGivenNames w9 y9; have e9 : r_28 = w9 := he_r_28; clear_value w9; subst e9
                          refine (if_pos c_31).trans ?_
                          extract_lets -merge -useContext +onlyGivenNames w9 y9; have e9 : r_35 = w9 := he_r_35; clear_value w9; subst e9
                          refine (if_pos c_38).trans ?_
                          extract_lets -merge -useContext +onlyGivenNames w9 y9; have e9 : r_42 = w9 := he_r_42; clear_value w9; subst e9
                          refine (if_pos c_45).trans ?_
                          extract_lets -merge -useContext +onlyGivenNames w9 y9; have e9 : r_49 = w9 := he_r_49; clear_value w9; subst e9
                          refine (if_pos c_52).trans ?_
                          extract_lets -merge -useContext +onlyGivenNames w9 y9; have e9 : r_56 = w9 := he_r_56; clear_value w9; subst e9
                          refine (if_pos c_59).trans ?_
                          extract_lets -merge -useContext +onlyGivenNames w9 y9; have e9 : r_63 = w9 := he_r_63; clear_value w9; subst e9
                          refine (if_neg c_66).trans ?_
                          exact rfl
                        exact hret _ _ _ _ _ _ () [0, 1] hP hD hS rfl (by decide) dX8_isName_159 (Or.inl rfl) ⟨(congrArg (fun z9 => z9) hX_68).symm, (Or.inl rfl)⟩
                      · skip
                        refine lv_aload_n hx hb dX8_isName_100 rfl (lv_at hl 0 rfl) ?_
                        refine va_ldcS hx hb hown (show vk_R "DarkRing$Text" 108 "seconds" (cA.2.1 10) s from (hT.1 10 (by decide)).1) dX8_isName_101 ?_
                        refine z_callVi (As := [.ref (cA.2.1 10)]) (rest := []) (wr := []) ⟨hx, hb, hml, hown, hts⟩ hK hE hT hP hD hS hA (d_Te_is l G cA t tape t_fed t_length t_kind t_start t_end t_number t_sign t_letters t_fault t_faultPlace c_tape 10 (by decide)) lk_RX8_88 ⟨rfl, rfl⟩ ⟨Nat.le_of_ble_eq_true rfl, Nat.le_of_ble_eq_true rfl⟩ 8 rfl rfl rfl [0, 1] [] rfl rfl (by decide) rfl hl.1 rfl (lv_room (Nat.le_of_ble_eq_true rfl)) dX8_isName_103 ⟨Nat.le_of_ble_eq_true rfl, Nat.le_of_ble_eq_true rfl⟩ (fun r_70 u_71 H locs hw hP hD hS => ?_)
                        have hP : va_P G vwCl [(t, .inr (8, [.ref tape, .int t_fed, .int t_length, .int t_kind, .int t_start, .int t_end, .int t_number, .int t_sign, .long t_letters, .int t_fault, .int t_faultPlace])), (tape, .inl (cA.1 2, 900, .inl c_tape))] H := hP
                        have hD : va_D A [(t, .inr (8, [.ref tape, .int t_fed, .int t_length, .int t_kind, .int t_start, .int t_end, .int t_number, .int t_sign, .long t_letters, .int t_fault, .int t_faultPlace])), (tape, .inl (cA.1 2, 900, .inl c_tape))] := hD
                        obtain ⟨he_r_70, hw⟩ := hw
                        have hz_r_70 := hw
                        refine lv_if_ne (tgt := 158) hx hb dX8_isName_106 (by decide) (fun c_73 => ?_) (fun c_73 => ?_)
                        · skip
                          refine lv_iconst (v := 0) hx hb dX8_isName_158 (by decide) ?_
                          have hX_75 : F_Te_isName t_length t_kind t_start t_end t_letters c_tape = ((0 : Int32) : Int32) := by
                            refine (F_Te_isName_s ..).trans ?_
                            refine (if_pos c_1).trans ?_
                            refine (if_neg c_5).trans ?_
                            extract_lets -merge -useContext +onlyGivenNames w9 y9; have e9 : r_7 = w9 := he_r_7; clear_value w9; subst e9
                            refine (if_pos c_10).trans ?_
                            extract_lets -merge -useContext +onlyGivenNames w9 y9; have e9 : r_14 = w9 := he_r_14; clear_value w9; subst e9
                            refine (if_pos c_17).trans ?_
                            extract_lets -merge -useContext +onlyGivenNames w9 y9; have e9 : r_21 = w9 := he_r_21; clear_value w9; subst e9
                            refine (if_pos c_24).trans ?_
                            extract_lets -merge -useContext +onlyGivenNames w9 y9; have e9 : r_28 = w9 := he_r_28; clear_value w9; subst e9
                            refine (if_pos c_31).trans ?_
                            extract_lets -merge -useContext +onlyGivenNames w9 y9; have e9 : r_35 = w9 := he_r_35; clear_value w9; subst e9
                            refine (if_pos c_38).trans ?_
                            extract_lets -merge -useContext +onlyGivenNames w9 y9; have e9 : r_42 = w9 := he_r_42; clear_value w9; subst e9
                            refine (if_pos c_45).trans ?_
                            extract_lets -merge -useContext +onlyGivenNames w9 y9; have e9 : r_49 = w9 := he_r_49; clear_value w9; subst e9
                            refine (if_pos c_52).trans ?_
                            extract_lets -merge -useContext +onlyGivenNames w9 y9; have e9 : r_56 = w9 := he_r_56; clear_value w9; subst e9
                            refine (if_pos c_59).trans ?_
                            extract_lets -merge -useContext +onlyGivenNames w9 y9; have e9 : r_63 = w9 := he_r_63; clear_value w9; subst e9
                            refine (if_pos c_66).trans ?_
                            extract_lets -merge -useContext +onlyGivenNames w9 y9; have e9 : r_70 = w9 := he_r_70; clear_value w9; subst e9
                            refine (if_neg c_73).trans ?_
                            exact rfl
                          exact hret _ _ _ _ _ _ () [0, 1] hP hD hS rfl (by decide) dX8_isName_159 (Or.inl rfl) ⟨(congrArg (fun z9 => z9) hX_75).symm, (Or.inl rfl)⟩
                        · skip
                          refine lv_aload_n hx hb dX8_isName_109 rfl (lv_at hl 0 rfl) ?_
                          refine va_ldcS hx hb hown (show vk_R "DarkRing$Text" 110 "feel" (cA.2.1 11) s from (hT.1 11 (by decide)).1) dX8_isName_110 ?_
                          refine z_callVi (As := [.ref (cA.2.1 11)]) (rest := []) (wr := []) ⟨hx, hb, hml, hown, hts⟩ hK hE hT hP hD hS hA (d_Te_is l G cA t tape t_fed t_length t_kind t_start t_end t_number t_sign t_letters t_fault t_faultPlace c_tape 11 (by decide)) lk_RX8_88 ⟨rfl, rfl⟩ ⟨Nat.le_of_ble_eq_true rfl, Nat.le_of_ble_eq_true rfl⟩ 8 rfl rfl rfl [0, 1] [] rfl rfl (by decide) rfl hl.1 rfl (lv_room (Nat.le_of_ble_eq_true rfl)) dX8_isName_112 ⟨Nat.le_of_ble_eq_true rfl, Nat.le_of_ble_eq_true rfl⟩ (fun r_77 u_78 H locs hw hP hD hS => ?_)
                          have hP : va_P G vwCl [(t, .inr (8, [.ref tape, .int t_fed, .int t_length, .int t_kind, .int t_start, .int t_end, .int t_number, .int t_sign, .long t_letters, .int t_fault, .int t_faultPlace])), (tape, .inl (cA.1 2, 900, .inl c_tape))] H := hP
                          have hD : va_D A [(t, .inr (8, [.ref tape, .int t_fed, .int t_length, .int t_kind, .int t_start, .int t_end, .int t_number, .int t_sign, .long t_letters, .int t_fault, .int t_faultPlace])), (tape, .inl (cA.1 2, 900, .inl c_tape))] := hD
                          obtain ⟨he_r_77, hw⟩ := hw
                          have hz_r_77 := hw
                          refine lv_if_ne (tgt := 158) hx hb dX8_isName_115 (by decide) (fun c_80 => ?_) (fun c_80 => ?_)
                          · skip
                            refine lv_iconst (v := 0) hx hb dX8_isName_158 (by decide) ?_
                            have hX_82 : F_Te_isName t_length t_kind t_start t_end t_letters c_tape = ((0 : Int32) : Int32) := by
                              refine (F_Te_isName_s ..).trans ?_
                              refine (if_pos c_1).trans ?_
                              refine (if_neg c_5).trans ?_
                              extract_lets -merge -useContext +onlyGivenNames w9 y9; have e9 : r_7 = w9 := he_r_7; clear_value w9; subst e9
                              refine (if_pos c_10).trans ?_
                              extract_lets -merge -useContext +onlyGivenNames w9 y9; have e9 : r_14 = w9 := he_r_14; clear_value w9; subst e9
                              refine (if_pos c_17).trans ?_
                              extract_lets -merge -useContext +onlyGivenNames w9 y9; have e9 : r_21 = w9 := he_r_21; clear_value w9; subst e9
                              refine (if_pos c_24).trans ?_
                              extract_lets -merge -useContext +onlyGivenNames w9 y9; have e9 : r_28 = w9 := he_r_28; clear_value w9; subst e9
                              refine (if_pos c_31).trans ?_
                              extract_lets -merge -useContext +onlyGivenNames w9 y9; have e9 : r_35 = w9 := he_r_35; clear_value w9; subst e9
                              refine (if_pos c_38).trans ?_
                              extract_lets -merge -useContext +onlyGivenNames w9 y9; have e9 : r_42 = w9 := he_r_42; clear_value w9; subst e9
                              refine (if_pos c_45).trans ?_
                              extract_lets -merge -useContext +onlyGivenNames w9 y9; have e9 : r_49 = w9 := he_r_49; clear_value w9; subst e9
                              refine (if_pos c_52).trans ?_
                              extract_lets -merge -useContext +onlyGivenNames w9 y9; have e9 : r_56 = w9 := he_r_56; clear_value w9; subst e9
                              refine (if_pos c_59).trans ?_
                              extract_lets -merge -useContext +onlyGivenNames w9 y9; have e9 : r_63 = w9 := he_r_63; clear_value w9; subst e9
                              refine (if_pos c_66).trans ?_
                              extract_lets -merge -useContext +onlyGivenNames w9 y9; have e9 : r_70 = w9 := he_r_70; clear_value w9; subst e9
                              refine (if_pos c_73).trans ?_
                              extract_lets -merge -useContext +onlyGivenNames w9 y9; have e9 : r_77 = w9 := he_r_77; clear_value w9; subst e9
                              refine (if_neg c_80).trans ?_
                              exact rfl
                            exact hret _ _ _ _ _ _ () [0, 1] hP hD hS rfl (by decide) dX8_isName_159 (Or.inl rfl) ⟨(congrArg (fun z9 => z9) hX_82).symm, (Or.inl rfl)⟩
                          · skip
                            refine lv_aload_n hx hb dX8_isName_118 rfl (lv_at hl 0 rfl) ?_
                            refine va_ldcS hx hb hown (show vk_R "DarkRing$Text" 112 "try" (cA.2.1 12) s from (hT.1 12 (by decide)).1) dX8_isName_119 ?_
                            refine z_callVi (As := [.ref (cA.2.1 12)]) (rest := []) (wr := []) ⟨hx, hb, hml, hown, hts⟩ hK hE hT hP hD hS hA (d_Te_is l G cA t tape t_fed t_length t_kind t_start t_end t_number t_sign t_letters t_fault t_faultPlace c_tape 12 (by decide)) lk_RX8_88 ⟨rfl, rfl⟩ ⟨Nat.le_of_ble_eq_true rfl, Nat.le_of_ble_eq_true rfl⟩ 8 rfl rfl rfl [0, 1] [] rfl rfl (by decide) rfl hl.1 rfl (lv_room (Nat.le_of_ble_eq_true rfl)) dX8_isName_121 ⟨Nat.le_of_ble_eq_true rfl, Nat.le_of_ble_eq_true rfl⟩ (fun r_84 u_85 H locs hw hP hD hS => ?_)
                            have hP : va_P G vwCl [(t, .inr (8, [.ref tape, .int t_fed, .int t_length, .int t_kind, .int t_start, .int t_end, .int t_number, .int t_sign, .long t_letters, .int t_fault, .int t_faultPlace])), (tape, .inl (cA.1 2, 900, .inl c_tape))] H := hP
                            have hD : va_D A [(t, .inr (8, [.ref tape, .int t_fed, .int t_length, .int t_kind, .int t_start, .int t_end, .int t_number, .int t_sign, .long t_letters, .int t_fault, .int t_faultPlace])), (tape, .inl (cA.1 2, 900, .inl c_tape))] := hD
                            obtain ⟨he_r_84, hw⟩ := hw
                            have hz_r_84 := hw
                            refine lv_if_ne (tgt := 158) hx hb dX8_isName_124 (by decide) (fun c_87 => ?_) (fun c_87 => ?_)
                            · skip
                              refine lv_iconst (v := 0) hx hb dX8_isName_158 (by decide) ?_
                              have hX_89 : F_Te_isName t_length t_kind t_start t_end t_letters c_tape = ((0 : Int32) : Int32) := by
                                refine (F_Te_isName_s ..).trans ?_
                                refine (if_pos c_1).trans ?_
                                refine (if_neg c_5).trans ?_
                                extract_lets -merge -useContext +onlyGivenNames w9 y9; have e9 : r_7 = w9 := he_r_7; clear_value w9; subst e9
                                refine (if_pos c_10).trans ?_
                                extract_lets -merge -useContext +onlyGivenNames w9 y9; have e9 : r_14 = w9 := he_r_14; clear_value w9; subst e9
                                refine (if_pos c_17).trans ?_
                                extract_lets -merge -useContext +onlyGivenNames w9 y9; have e9 : r_21 = w9 := he_r_21; clear_value w9; subst e9
                                refine (if_pos c_24).trans ?_
                                extract_lets -merge -useContext +onlyGivenNames w9 y9; have e9 : r_28 = w9 := he_r_28; clear_value w9; subst e9
                                refine (if_pos c_31).trans ?_
                                extract_lets -merge -useContext +onlyGivenNames w9 y9; have e9 : r_35 = w9 := he_r_35; clear_value w9; subst e9
                                refine (if_pos c_38).trans ?_
                                extract_lets -merge -useContext +onlyGivenNames w9 y9; have e9 : r_42 = w9 := he_r_42; clear_value w9; subst e9
                                refine (if_pos c_45).trans ?_
                                extract_lets -merge -useContext +onlyGivenNames w9 y9; have e9 : r_49 = w9 := he_r_49; clear_value w9; subst e9
                                refine (if_pos c_52).trans ?_
                                extract_lets -merge -useContext +onlyGivenNames w9 y9; have e9 : r_56 = w9 := he_r_56; clear_value w9; subst e9
                                refine (if_pos c_59).trans ?_
                                extract_lets -merge -useContext +onlyGivenNames w9 y9; have e9 : r_63 = w9 := he_r_63; clear_value w9; subst e9
                                refine (if_pos c_66).trans ?_
                                extract_lets -merge -useContext +onlyGivenNames w9 y9; have e9 : r_70 = w9 := he_r_70; clear_value w9; subst e9
                                refine (if_pos c_73).trans ?_
                                extract_lets -merge -useContext +onlyGivenNames w9 y9; have e9 : r_77 = w9 := he_r_77; clear_value w9; subst e9
                                refine (if_pos c_80).trans ?_
                                extract_lets -merge -useContext +onlyGivenNames w9 y9; have e9 : r_84 = w9 := he_r_84; clear_value w9; subst e9
                                refine (if_neg c_87).trans ?_
                                exact rfl
                              exact hret _ _ _ _ _ _ () [0, 1] hP hD hS rfl (by decide) dX8_isName_159 (Or.inl rfl) ⟨(congrArg (fun z9 => z9) hX_89).symm, (Or.inl rfl)⟩
                            · skip
                              refine lv_aload_n hx hb dX8_isName_127 rfl (lv_at hl 0 rfl) ?_
                              refine va_ldcS hx hb hown (show vk_R "DarkRing$Text" 114 "go" (cA.2.1 13) s from (hT.1 13 (by decide)).1) dX8_isName_128 ?_
                              refine z_callVi (As := [.ref (cA.2.1 13)]) (rest := []) (wr := []) ⟨hx, hb, hml, hown, hts⟩ hK hE hT hP hD hS hA (d_Te_is l G cA t tape t_fed t_length t_kind t_start t_end t_number t_sign t_letters t_fault t_faultPlace c_tape 13 (by decide)) lk_RX8_88 ⟨rfl, rfl⟩ ⟨Nat.le_of_ble_eq_true rfl, Nat.le_of_ble_eq_true rfl⟩ 8 rfl rfl rfl [0, 1] [] rfl rfl (by decide) rfl hl.1 rfl (lv_room (Nat.le_of_ble_eq_true rfl)) dX8_isName_130 ⟨Nat.le_of_ble_eq_true rfl, Nat.le_of_ble_eq_true rfl⟩ (fun r_91 u_92 H locs hw hP hD hS => ?_)
                              have hP : va_P G vwCl [(t, .inr (8, [.ref tape, .int t_fed, .int t_length, .int t_kind, .int t_start, .int t_end, .int t_number, .int t_sign, .long t_letters, .int t_fault, .int t_faultPlace])), (tape, .inl (cA.1 2, 900, .inl c_tape))] H := hP
                              have hD : va_D A [(t, .inr (8, [.ref tape, .int t_fed, .int t_length, .int t_kind, .int t_start, .int t_end, .int t_number, .int t_sign, .long t_letters, .int t_fault, .int t_faultPlace])), (tape, .inl (cA.1 2, 900, .inl c_tape))] := hD
                              obtain ⟨he_r_91, hw⟩ := hw
                              have hz_r_91 := hw
                              refine lv_if_ne (tgt := 158) hx hb dX8_isName_133 (by decide) (fun c_94 => ?_) (fun c_94 => ?_)
                              · skip
                                refine lv_iconst (v := 0) hx hb dX8_isName_158 (by decide) ?_
                                have hX_96 : F_Te_isName t_length t_kind t_start t_end t_letters c_tape = ((0 : Int32) : Int32) := by
                                  refine (F_Te_isName_s ..).trans ?_
                                  refine (if_pos c_1).trans ?_
                                  refine (if_neg c_5).trans ?_
                                  extract_lets -merge -useContext +onlyGivenNames w9 y9; have e9 : r_7 = w9 := he_r_7; clear_value w9; subst e9
                                  refine (if_pos c_10).trans ?_
                                  extract_lets -merge -useContext +onlyGivenNames w9 y9; have e9 : r_14 = w9 := he_r_14; clear_value w9; subst e9
                                  refine (if_pos c_17).trans ?_
                                  extract_lets -merge -useContext +onlyGivenNames w9 y9; have e9 : r_21 = w9 := he_r_21; clear_value w9; subst e9
                                  refine (if_pos c_24).trans ?_
                                  extract_lets -merge -useContext +onlyGivenNames w9 y9; have e9 : r_28 = w9 := he_r_28; clear_value w9; subst e9
                                  refine (if_pos c_31).trans ?_
                                  extract_lets -merge -useContext +onlyGivenNames w9 y9; have e9 : r_35 = w9 := he_r_35; clear_value w9; subst e9
                                  refine (if_pos c_38).trans ?_
                                  extract_lets -merge -useContext +onlyGivenNames w9 y9; have e9 : r_42 = w9 := he_r_42; clear_value w9; subst e9
                                  refine (if_pos c_45).trans ?_
                                  extract_lets -merge -useContext +onlyGivenNames w9 y9; have e9 : r_49 = w9 := he_r_49; clear_value w9; subst e9
                                  refine (if_pos c_52).trans ?_
                                  extract_lets -merge -useContext +onlyGivenNames w9 y9; have e9 : r_56 = w9 := he_r_56; clear_value w9; subst e9
                                  refine (if_pos c_59).trans ?_
                                  extract_lets -merge -useContext +onlyGivenNames w9 y9; have e9 : r_63 = w9 := he_r_63; clear_value w9; subst e9
                                  refine (if_pos c_66).trans ?_
                                  extract_lets -merge -useContext +onlyGivenNames w9 y9; have e9 : r_70 = w9 := he_r_70; clear_value w9; subst e9
                                  refine (if_pos c_73).trans ?_
                                  extract_lets -merge -useContext +onlyGivenNames w9 y9; have e9 : r_77 = w9 := he_r_77; clear_value w9; subst e9
                                  refine (if_pos c_80).trans ?_
                                  extract_lets -merge -useContext +onlyGivenNames w9 y9; have e9 : r_84 = w9 := he_r_84; clear_value w9; subst e9
                                  refine (if_pos c_87).trans ?_
                                  extract_lets -merge -useContext +onlyGivenNames w9 y9; have e9 : r_91 = w9 := he_r_91; clear_value w9; subst e9
                                  refine (if_neg c_94).trans ?_
                                  exact rfl
                                exact hret _ _ _ _ _ _ () [0, 1] hP hD hS rfl (by decide) dX8_isName_159 (Or.inl rfl) ⟨(congrArg (fun z9 => z9) hX_96).symm, (Or.inl rfl)⟩
                              · skip
                                refine lv_aload_n hx hb dX8_isName_136 rfl (lv_at hl 0 rfl) ?_
                                refine va_ldcS hx hb hown (show vk_R "DarkRing$Text" 116 "drop" (cA.2.1 14) s from (hT.1 14 (by decide)).1) dX8_isName_137 ?_
                                refine z_callVi (As := [.ref (cA.2.1 14)]) (rest := []) (wr := []) ⟨hx, hb, hml, hown, hts⟩ hK hE hT hP hD hS hA (d_Te_is l G cA t tape t_fed t_length t_kind t_start t_end t_number t_sign t_letters t_fault t_faultPlace c_tape 14 (by decide)) lk_RX8_88 ⟨rfl, rfl⟩ ⟨Nat.le_of_ble_eq_true rfl, Nat.le_of_ble_eq_true rfl⟩ 8 rfl rfl rfl [0, 1] [] rfl rfl (by decide) rfl hl.1 rfl (lv_room (Nat.le_of_ble_eq_true rfl)) dX8_isName_139 ⟨Nat.le_of_ble_eq_true rfl, Nat.le_of_ble_eq_true rfl⟩ (fun r_98 u_99 H locs hw hP hD hS => ?_)
                                have hP : va_P G vwCl [(t, .inr (8, [.ref tape, .int t_fed, .int t_length, .int t_kind, .int t_start, .int t_end, .int t_number, .int t_sign, .long t_letters, .int t_fault, .int t_faultPlace])), (tape, .inl (cA.1 2, 900, .inl c_tape))] H := hP
                                have hD : va_D A [(t, .inr (8, [.ref tape, .int t_fed, .int t_length, .int t_kind, .int t_start, .int t_end, .int t_number, .int t_sign, .long t_letters, .int t_fault, .int t_faultPlace])), (tape, .inl (cA.1 2, 900, .inl c_tape))] := hD
                                obtain ⟨he_r_98, hw⟩ := hw
                                have hz_r_98 := hw
                                refine lv_if_ne (tgt := 158) hx hb dX8_isName_142 (by decide) (fun c_101 => ?_) (fun c_101 => ?_)
                                · skip
                                  refine lv_iconst (v := 0) hx hb dX8_isName_158 (by decide) ?_
                                  have hX_103 : F_Te_isName t_length t_kind t_start t_end t_letters c_tape = ((0 : Int32) : Int32) := by
                                    refine (F_Te_isName_s ..).trans ?_
                                    refine (if_pos c_1).trans ?_
                                    refine (if_neg c_5).trans ?_
                                    extract_lets -merge -useContext +onlyGivenNames w9 y9; have e9 : r_7 = w9 := he_r_7; clear_value w9; subst e9
                                    refine (if_pos c_10).trans ?_
                                    extract_lets -merge -useContext +onlyGivenNames w9 y9; have e9 : r_14 = w9 := he_r_14; clear_value w9; subst e9
                                    refine (if_pos c_17).trans ?_
                                    extract_lets -merge -useContext +onlyGivenNames w9 y9; have e9 : r_21 = w9 := he_r_21; clear_value w9; subst e9
                                    refine (if_pos c_24).trans ?_
                                    extract_lets -merge -useContext +onlyGivenNames w9 y9; have e9 : r_28 = w9 := he_r_28; clear_value w9; subst e9
                                    refine (if_pos c_31).trans ?_
                                    extract_lets -merge -useContext +onlyGivenNames w9 y9; have e9 : r_35 = w9 := he_r_35; clear_value w9; subst e9
                                    refine (if_pos c_38).trans ?_
                                    extract_lets -merge -useContext +onlyGivenNames w9 y9; have e9 : r_42 = w9 := he_r_42; clear_value w9; subst e9
                                    refine (if_pos c_45).trans ?_
                                    extract_lets -merge -useContext +onlyGivenNames w9 y9; have e9 : r_49 = w9 := he_r_49; clear_value w9; subst e9
                                    refine (if_pos c_52).trans ?_
                                    extract_lets -merge -useContext +onlyGivenNames w9 y9; have e9 : r_56 = w9 := he_r_56; clear_value w9; subst e9
                                    refine (if_pos c_59).trans ?_
                                    extract_lets -merge -useContext +onlyGivenNames w9 y9; have e9 : r_63 = w9 := he_r_63; clear_value w9; subst e9
                                    refine (if_pos c_66).trans ?_
                                    extract_lets -merge -useContext +onlyGivenNames w9 y9; have e9 : r_70 = w9 := he_r_70; clear_value w9; subst e9
                                    refine (if_pos c_73).trans ?_
                                    extract_lets -merge -useContext +onlyGivenNames w9 y9; have e9 : r_77 = w9 := he_r_77; clear_value w9; subst e9
                                    refine (if_pos c_80).trans ?_
                                    extract_lets -merge -useContext +onlyGivenNames w9 y9; have e9 : r_84 = w9 := he_r_84; clear_value w9; subst e9
                                    refine (if_pos c_87).trans ?_
                                    extract_lets -merge -useContext +onlyGivenNames w9 y9; have e9 : r_91 = w9 := he_r_91; clear_value w9; subst e9
                                    refine (if_pos c_94).trans ?_
                                    extract_lets -merge -useContext +onlyGivenNames w9 y9; have e9 : r_98 = w9 := he_r_98; clear_value w9; subst e9
                                    refine (if_neg c_101).trans ?_
                                    exact rfl
                                  exact hret _ _ _ _ _ _ () [0, 1] hP hD hS rfl (by decide) dX8_isName_159 (Or.inl rfl) ⟨(congrArg (fun z9 => z9) hX_103).symm, (Or.inl rfl)⟩
                                · skip
                                  refine lv_aload_n hx hb dX8_isName_145 rfl (lv_at hl 0 rfl) ?_
                                  refine va_ldcS hx hb hown (show vk_R "DarkRing$Text" 118 "round" (cA.2.1 15) s from (hT.1 15 (by decide)).1) dX8_isName_146 ?_
                                  refine z_callVi (As := [.ref (cA.2.1 15)]) (rest := []) (wr := []) ⟨hx, hb, hml, hown, hts⟩ hK hE hT hP hD hS hA (d_Te_is l G cA t tape t_fed t_length t_kind t_start t_end t_number t_sign t_letters t_fault t_faultPlace c_tape 15 (by decide)) lk_RX8_88 ⟨rfl, rfl⟩ ⟨Nat.le_of_ble_eq_true rfl, Nat.le_of_ble_eq_true rfl⟩ 8 rfl rfl rfl [0, 1] [] rfl rfl (by decide) rfl hl.1 rfl (lv_room (Nat.le_of_ble_eq_true rfl)) dX8_isName_148 ⟨Nat.le_of_ble_eq_true rfl, Nat.le_of_ble_eq_true rfl⟩ (fun r_105 u_106 H locs hw hP hD hS => ?_)
                                  have hP : va_P G vwCl [(t, .inr (8, [.ref tape, .int t_fed, .int t_length, .int t_kind, .int t_start, .int t_end, .int t_number, .int t_sign, .long t_letters, .int t_fault, .int t_faultPlace])), (tape, .inl (cA.1 2, 900, .inl c_tape))] H := hP
                                  have hD : va_D A [(t, .inr (8, [.ref tape, .int t_fed, .int t_length, .int t_kind, .int t_start, .int t_end, .int t_number, .int t_sign, .long t_letters, .int t_fault, .int t_faultPlace])), (tape, .inl (cA.1 2, 900, .inl c_tape))] := hD
                                  obtain ⟨he_r_105, hw⟩ := hw
                                  have hz_r_105 := hw
                                  refine lv_if_ne (tgt := 158) hx hb dX8_isName_151 (by decide) (fun c_108 => ?_) (fun c_108 => ?_)
                                  · skip
                                    refine lv_iconst (v := 0) hx hb dX8_isName_158 (by decide) ?_
                                    have hX_110 : F_Te_isName t_length t_kind t_start t_end t_letters c_tape = ((0 : Int32) : Int32) := by
                                      refine (F_Te_isName_s ..).trans ?_
                                      refine (if_pos c_1).trans ?_
                                      refine (if_neg c_5).trans ?_
                                      extract_lets -merge -useContext +onlyGivenNames w9 y9; have e9 : r_7 = w9 := he_r_7; clear_value w9; subst e9
                                      refine (if_pos c_10).trans ?_
                                      extract_lets -merge -useContext +onlyGivenNames w9 y9; have e9 : r_14 = w9 := he_r_14; clear_value w9; subst e9
                                      refine (if_pos c_17).trans ?_
                                      extract_lets -merge -useContext +onlyGivenNames w9 y9; have e9 : r_21 = w9 := he_r_21; clear_value w9; subst e9
                                      refine (if_pos c_24).trans ?_
                                      extract_lets -merge -useContext +onlyGivenNames w9 y9; have e9 : r_28 = w9 := he_r_28; clear_value w9; subst e9
                                      refine (if_pos c_31).trans ?_
                                      extract_lets -merge -useContext +onlyGivenNames w9 y9; have e9 : r_35 = w9 := he_r_35; clear_value w9; subst e9
                                      refine (if_pos c_38).trans ?_
                                      extract_lets -merge -useContext +onlyGivenNames w9 y9; have e9 : r_42 = w9 := he_r_42; clear_value w9; subst e9
                                      refine (if_pos c_45).trans ?_
                                      extract_lets -merge -useContext +onlyGivenNames w9 y9; have e9 : r_49 = w9 := he_r_49; clear_value w9; subst e9
                                      refine (if_pos c_52).trans ?_
                                      extract_lets -merge -useContext +onlyGivenNames w9 y9; have e9 : r_56 = w9 := he_r_56; clear_value w9; subst e9
                                      refine (if_pos c_59).trans ?_
                                      extract_lets -merge -useContext +onlyGivenNames w9 y9; have e9 : r_63 = w9 := he_r_63; clear_value w9; subst e9
                                      refine (if_pos c_66).trans ?_
                                      extract_lets -merge -useContext +onlyGivenNames w9 y9; have e9 : r_70 = w9 := he_r_70; clear_value w9; subst e9
                                      refine (if_pos c_73).trans ?_
                                      extract_lets -merge -useContext +onlyGivenNames w9 y9; have e9 : r_77 = w9 := he_r_77; clear_value w9; subst e9
                                      refine (if_pos c_80).trans ?_
                                      extract_lets -merge -useContext +onlyGivenNames w9 y9; have e9 : r_84 = w9 := he_r_84; clear_value w9; subst e9
                                      refine (if_pos c_87).trans ?_
                                      extract_lets -merge -useContext +onlyGivenNames w9 y9; have e9 : r_91 = w9 := he_r_91; clear_value w9; subst e9
                                      refine (if_pos c_94).trans ?_
                                      extract_lets -merge -useContext +onlyGivenNames w9 y9; have e9 : r_98 = w9 := he_r_98; clear_value w9; subst e9
                                      refine (if_pos c_101).trans ?_
                                      extract_lets -merge -useContext +onlyGivenNames w9 y9; have e9 : r_105 = w9 := he_r_105; clear_value w9; subst e9
                                      refine (if_neg c_108).trans ?_
                                      exact rfl
                                    exact hret _ _ _ _ _ _ () [0, 1] hP hD hS rfl (by decide) dX8_isName_159 (Or.inl rfl) ⟨(congrArg (fun z9 => z9) hX_110).symm, (Or.inl rfl)⟩
                                  · skip
                                    refine lv_iconst (v := 1) hx hb dX8_isName_154 (by decide) ?_
                                    refine lv_goto (tgt := 159) hx hb dX8_isName_155 (by decide) ?_
                                    have hX_112 : F_Te_isName t_length t_kind t_start t_end t_letters c_tape = ((1 : Int32) : Int32) := by
                                      refine (F_Te_isName_s ..).trans ?_
                                      refine (if_pos c_1).trans ?_
                                      refine (if_neg c_5).trans ?_
                                      extract_lets -merge -useContext +onlyGivenNames w9 y9; have e9 : r_7 = w9 := he_r_7; clear_value w9; subst e9
                                      refine (if_pos c_10).trans ?_
                                      extract_lets -merge -useContext +onlyGivenNames w9 y9; have e9 : r_14 = w9 := he_r_14; clear_value w9; subst e9
                                      refine (if_pos c_17).trans ?_
                                      extract_lets -merge -useContext +onlyGivenNames w9 y9; have e9 : r_21 = w9 := he_r_21; clear_value w9; subst e9
                                      refine (if_pos c_24).trans ?_
                                      extract_lets -merge -useContext +onlyGivenNames w9 y9; have e9 : r_28 = w9 := he_r_28; clear_value w9; subst e9
                                      refine (if_pos c_31).trans ?_
                                      extract_lets -merge -useContext +onlyGivenNames w9 y9; have e9 : r_35 = w9 := he_r_35; clear_value w9; subst e9
                                      refine (if_pos c_38).trans ?_
                                      extract_lets -merge -useContext +onlyGivenNames w9 y9; have e9 : r_42 = w9 := he_r_42; clear_value w9; subst e9
                                      refine (if_pos c_45).trans ?_
                                      extract_lets -merge -useContext +onlyGivenNames w9 y9; have e9 : r_49 = w9 := he_r_49; clear_value w9; subst e9
                                      refine (if_pos c_52).trans ?_
                                      extract_lets -merge -useContext +onlyGivenNames w9 y9; have e9 : r_56 = w9 := he_r_56; clear_value w9; subst e9
                                      refine (if_pos c_59).trans ?_
                                      extract_lets -merge -useContext +onlyGivenNames w9 y9; have e9 : r_63 = w9 := he_r_63; clear_value w9; subst e9
                                      refine (if_pos c_66).trans ?_
                                      extract_lets -merge -useContext +onlyGivenNames w9 y9; have e9 : r_70 = w9 := he_r_70; clear_value w9; subst e9
                                      refine (if_pos c_73).trans ?_
                                      extract_lets -merge -useContext +onlyGivenNames w9 y9; have e9 : r_77 = w9 := he_r_77; clear_value w9; subst e9
                                      refine (if_pos c_80).trans ?_
                                      extract_lets -merge -useContext +onlyGivenNames w9 y9; have e9 : r_84 = w9 := he_r_84; clear_value w9; subst e9
                                      refine (if_pos c_87).trans ?_
                                      extract_lets -merge -useContext +onlyGivenNames w9 y9; have e9 : r_91 = w9 := he_r_91; clear_value w9; subst e9
                                      refine (if_pos c_94).trans ?_
                                      extract_lets -merge -useContext +onlyGivenNames w9 y9; have e9 : r_98 = w9 := he_r_98; clear_value w9; subst e9
                                      refine (if_pos c_101).trans ?_
                                      extract_lets -merge -useContext +onlyGivenNames w9 y9; have e9 : r_105 = w9 := he_r_105; clear_value w9; subst e9
                                      refine (if_pos c_108).trans ?_
                                      exact rfl
                                    exact hret _ _ _ _ _ _ () [0, 1] hP hD hS rfl (by decide) dX8_isName_159 (Or.inr rfl) ⟨(congrArg (fun z9 => z9) hX_112).symm, (Or.inr rfl)⟩
    · skip
      refine lv_iconst (v := 0) hx hb dX8_isName_17 (by decide) ?_
      have hX_114 : F_Te_isName t_length t_kind t_start t_end t_letters c_tape = ((0 : Int32) : Int32) := by
        refine (F_Te_isName_s ..).trans ?_
        refine (if_pos c_1).trans ?_
        refine (if_pos c_5).trans ?_
        exact rfl
      exact hret _ _ _ _ _ _ () [0, 1] hP hD hS rfl (by decide) dX8_isName_18 (Or.inl rfl) ⟨(congrArg (fun z9 => z9) hX_114).symm, (Or.inl rfl)⟩
set_option maxHeartbeats 40000000 in
set_option maxRecDepth 100000 in
theorem d_Te_refuse (l : Launch) (G : va_G) (cA : zCA) (t : Nat) (tape : Nat) (t_fed : Int32) (t_length : Int32) (t_kind : Int32) (t_start : Int32) (t_end : Int32) (t_number : Int32) (t_sign : Int32) (t_letters : Int64) (t_fault : Int32) (t_faultPlace : Int32) (k : Int32) : zCi l yX8_refuse cX8_refuse 2 (some .boolean) ({ frames := 0, cells := 0, slots := 0, locals := 0 }) G cA [.ref t, .int k] [(t, .inr (8, [.ref tape, .int t_fed, .int t_length, .int t_kind, .int t_start, .int t_end, .int t_number, .int t_sign, .long t_letters, .int t_fault, .int t_faultPlace]))] (S := Int32 × Int32) (fun (r : Int32) (u : Int32 × Int32) => (r = (F_Te_refuse t_kind t_start t_fault t_faultPlace k).1) ∧ (u.1 = (F_Te_refuse t_kind t_start t_fault t_faultPlace k).2.1) ∧ (u.2 = (F_Te_refuse t_kind t_start t_fault t_faultPlace k).2.2) ∧ (r = 0 ∨ r = 1)) (fun (u : Int32 × Int32) => [(t, .inr (8, [.ref tape, .int t_fed, .int t_length, .int t_kind, .int t_start, .int t_end, .int t_number, .int t_sign, .long t_letters, .int u.1, .int u.2]))]) 0 0 := by
  refine z_start2z (own := RX8) (by decide) (Nat.le_of_ble_eq_true rfl) rfl ?_
  intro p e s m args below meth c A ls Q hx hb hml hts hown hK hE hT hP hD hS hA hl hret
  have hl : lv_has ls 2 [(0, .ref t), (1, .int k)] := hl
  refine lv_aload_n hx hb dX8_refuse_0 rfl (lv_at hl 0 rfl) ?_
  refine va_get (D := G) (ci := 8) (v := .int t_fault) (C := RX8) (T := TX8) (N := 11) hx hb hts inT8 hown hK hP 0 rfl rfl 9 (by decide) (hts _ tw_218) (fun _ h9 => h9) rfl dX8_refuse_1 ?_
  refine lv_if_ne (tgt := 32) hx hb dX8_refuse_4 (by decide) (fun c_1 => ?_) (fun c_1 => ?_)
  · skip
    refine lv_iconst (v := 0) hx hb dX8_refuse_32 (by decide) ?_
    have hX_3 : F_Te_refuse t_kind t_start t_fault t_faultPlace k = (((0 : Int32), t_fault, t_faultPlace) : Int32 × Int32 × Int32) := by
      refine (F_Te_refuse_s ..).trans ?_
      refine (if_neg c_1).trans ?_
      exact rfl
    exact hret _ _ _ _ _ _ (t_fault, t_faultPlace) [0] hP hD hS rfl (by decide) dX8_refuse_33 (Or.inl rfl) ⟨(congrArg (fun z9 => z9.1) hX_3).symm, (congrArg (fun z9 => z9.2.1) hX_3).symm, (congrArg (fun z9 => z9.2.2) hX_3).symm, (Or.inl rfl)⟩
  · skip
    refine lv_aload_n hx hb dX8_refuse_7 rfl (lv_at hl 0 rfl) ?_
    refine lv_aload_n hx hb dX8_refuse_8 rfl (lv_at hl 0 rfl) ?_
    refine va_get (D := G) (ci := 8) (v := .int t_kind) (C := RX8) (T := TX8) (N := 11) hx hb hts inT8 hown hK hP 0 rfl rfl 3 (by decide) (hts _ tw_209) (fun _ h9 => h9) rfl dX8_refuse_9 ?_
    refine lv_iconst (v := 4) hx hb dX8_refuse_12 (by decide) ?_
    refine lv_icmp_ne (tgt := 20) hx hb dX8_refuse_13 (by decide) (fun c_5 => ?_) (fun c_5 => ?_)
    · skip
      refine lv_iload_n hx hb dX8_refuse_20 rfl (lv_at hl 1 rfl) ?_
      refine va_put (D := G) (ci := 8) (v := .int k) (ty := .int) (C := RX8) (T := TX8) (N := 11) hx hb hts inT8 tyX8 tyX8_ok nmX8 hown hK hP hD hS 0 rfl rfl 9 (by decide) (hts _ tw_218) (fun _ h9 => h9) rfl (tyX8_ok 9 (by decide)) rfl rfl (Nat.le_of_ble_eq_true rfl) dX8_refuse_21 (fun H locs hP hD hS => ?_)
      have hP : va_P G vwCl [(t, .inr (8, [.ref tape, .int t_fed, .int t_length, .int t_kind, .int t_start, .int t_end, .int t_number, .int t_sign, .long t_letters, .int k, .int t_faultPlace]))] H := hP
      have hD : va_D A [(t, .inr (8, [.ref tape, .int t_fed, .int t_length, .int t_kind, .int t_start, .int t_end, .int t_number, .int t_sign, .long t_letters, .int k, .int t_faultPlace]))] := hD
      refine lv_aload_n hx hb dX8_refuse_24 rfl (lv_at hl 0 rfl) ?_
      refine lv_aload_n hx hb dX8_refuse_25 rfl (lv_at hl 0 rfl) ?_
      refine va_get (D := G) (ci := 8) (v := .int t_start) (C := RX8) (T := TX8) (N := 11) hx hb hts inT8 hown hK hP 0 rfl rfl 4 (by decide) (hts _ tw_210) (fun _ h9 => h9) rfl dX8_refuse_26 ?_
      refine va_put (D := G) (ci := 8) (v := .int t_start) (ty := .int) (C := RX8) (T := TX8) (N := 11) hx hb hts inT8 tyX8 tyX8_ok nmX8 hown hK hP hD hS 0 rfl rfl 10 (by decide) (hts _ tw_222) (fun _ h9 => h9) rfl (tyX8_ok 10 (by decide)) rfl rfl (Nat.le_of_ble_eq_true rfl) dX8_refuse_29 (fun H locs hP hD hS => ?_)
      have hP : va_P G vwCl [(t, .inr (8, [.ref tape, .int t_fed, .int t_length, .int t_kind, .int t_start, .int t_end, .int t_number, .int t_sign, .long t_letters, .int k, .int t_start]))] H := hP
      have hD : va_D A [(t, .inr (8, [.ref tape, .int t_fed, .int t_length, .int t_kind, .int t_start, .int t_end, .int t_number, .int t_sign, .long t_letters, .int k, .int t_start]))] := hD
      refine lv_iconst (v := 0) hx hb dX8_refuse_32 (by decide) ?_
      have hX_7 : F_Te_refuse t_kind t_start t_fault t_faultPlace k = (((0 : Int32), k, t_start) : Int32 × Int32 × Int32) := by
        refine (F_Te_refuse_s ..).trans ?_
        refine (if_pos c_1).trans ?_
        refine (if_neg c_5).trans ?_
        exact rfl
      exact hret _ _ _ _ _ _ (k, t_start) [0] hP hD hS rfl (by decide) dX8_refuse_33 (Or.inl rfl) ⟨(congrArg (fun z9 => z9.1) hX_7).symm, (congrArg (fun z9 => z9.2.1) hX_7).symm, (congrArg (fun z9 => z9.2.2) hX_7).symm, (Or.inl rfl)⟩
    · skip
      refine lv_iconst (v := 1) hx hb dX8_refuse_16 (by decide) ?_
      refine lv_goto (tgt := 21) hx hb dX8_refuse_17 (by decide) ?_
      refine va_put (D := G) (ci := 8) (v := .int 1) (ty := .int) (C := RX8) (T := TX8) (N := 11) hx hb hts inT8 tyX8 tyX8_ok nmX8 hown hK hP hD hS 0 rfl rfl 9 (by decide) (hts _ tw_218) (fun _ h9 => h9) rfl (tyX8_ok 9 (by decide)) rfl rfl (Nat.le_of_ble_eq_true rfl) dX8_refuse_21 (fun H locs hP hD hS => ?_)
      have hP : va_P G vwCl [(t, .inr (8, [.ref tape, .int t_fed, .int t_length, .int t_kind, .int t_start, .int t_end, .int t_number, .int t_sign, .long t_letters, .int 1, .int t_faultPlace]))] H := hP
      have hD : va_D A [(t, .inr (8, [.ref tape, .int t_fed, .int t_length, .int t_kind, .int t_start, .int t_end, .int t_number, .int t_sign, .long t_letters, .int 1, .int t_faultPlace]))] := hD
      refine lv_aload_n hx hb dX8_refuse_24 rfl (lv_at hl 0 rfl) ?_
      refine lv_aload_n hx hb dX8_refuse_25 rfl (lv_at hl 0 rfl) ?_
      refine va_get (D := G) (ci := 8) (v := .int t_start) (C := RX8) (T := TX8) (N := 11) hx hb hts inT8 hown hK hP 0 rfl rfl 4 (by decide) (hts _ tw_210) (fun _ h9 => h9) rfl dX8_refuse_26 ?_
      refine va_put (D := G) (ci := 8) (v := .int t_start) (ty := .int) (C := RX8) (T := TX8) (N := 11) hx hb hts inT8 tyX8 tyX8_ok nmX8 hown hK hP hD hS 0 rfl rfl 10 (by decide) (hts _ tw_222) (fun _ h9 => h9) rfl (tyX8_ok 10 (by decide)) rfl rfl (Nat.le_of_ble_eq_true rfl) dX8_refuse_29 (fun H locs hP hD hS => ?_)
      have hP : va_P G vwCl [(t, .inr (8, [.ref tape, .int t_fed, .int t_length, .int t_kind, .int t_start, .int t_end, .int t_number, .int t_sign, .long t_letters, .int 1, .int t_start]))] H := hP
      have hD : va_D A [(t, .inr (8, [.ref tape, .int t_fed, .int t_length, .int t_kind, .int t_start, .int t_end, .int t_number, .int t_sign, .long t_letters, .int 1, .int t_start]))] := hD
      refine lv_iconst (v := 0) hx hb dX8_refuse_32 (by decide) ?_
      have hX_9 : F_Te_refuse t_kind t_start t_fault t_faultPlace k = (((0 : Int32), (1 : Int32), t_start) : Int32 × Int32 × Int32) := by
        refine (F_Te_refuse_s ..).trans ?_
        refine (if_pos c_1).trans ?_
        refine (if_pos c_5).trans ?_
        exact rfl
      exact hret _ _ _ _ _ _ (1, t_start) [0] hP hD hS rfl (by decide) dX8_refuse_33 (Or.inl rfl) ⟨(congrArg (fun z9 => z9.1) hX_9).symm, (congrArg (fun z9 => z9.2.1) hX_9).symm, (congrArg (fun z9 => z9.2.2) hX_9).symm, (Or.inl rfl)⟩
set_option maxHeartbeats 40000000 in
set_option maxRecDepth 100000 in
theorem d_Te_takeSign (l : Launch) (G : va_G) (cA : zCA) (t : Nat) (tape : Nat) (t_fed : Int32) (t_length : Int32) (t_kind : Int32) (t_start : Int32) (t_end : Int32) (t_number : Int32) (t_sign : Int32) (t_letters : Int64) (t_fault : Int32) (t_faultPlace : Int32) (c_tape : Nat → Int32) (k : Int32) : zCi l yX8_takeSign cX8_takeSign 2 (some .boolean) ({ frames := 3, cells := 0, slots := 0, locals := 62 }) G cA [.ref t, .int k] [(t, .inr (8, [.ref tape, .int t_fed, .int t_length, .int t_kind, .int t_start, .int t_end, .int t_number, .int t_sign, .long t_letters, .int t_fault, .int t_faultPlace])), (tape, .inl (cA.1 2, 900, .inl c_tape))] (S := Int32 × Int32 × Int32 × Int32 × Int32 × Int64 × Int32 × Int32) (fun (r : Int32) (u : Int32 × Int32 × Int32 × Int32 × Int32 × Int64 × Int32 × Int32) => (r = (F_Te_takeSign t_length t_kind t_start t_end t_number t_sign t_letters t_fault t_faultPlace c_tape k).1) ∧ (u.1 = (F_Te_takeSign t_length t_kind t_start t_end t_number t_sign t_letters t_fault t_faultPlace c_tape k).2.1) ∧ (u.2.1 = (F_Te_takeSign t_length t_kind t_start t_end t_number t_sign t_letters t_fault t_faultPlace c_tape k).2.2.1) ∧ (u.2.2.1 = (F_Te_takeSign t_length t_kind t_start t_end t_number t_sign t_letters t_fault t_faultPlace c_tape k).2.2.2.1) ∧ (u.2.2.2.1 = (F_Te_takeSign t_length t_kind t_start t_end t_number t_sign t_letters t_fault t_faultPlace c_tape k).2.2.2.2.1) ∧ (u.2.2.2.2.1 = (F_Te_takeSign t_length t_kind t_start t_end t_number t_sign t_letters t_fault t_faultPlace c_tape k).2.2.2.2.2.1) ∧ (u.2.2.2.2.2.1 = (F_Te_takeSign t_length t_kind t_start t_end t_number t_sign t_letters t_fault t_faultPlace c_tape k).2.2.2.2.2.2.1) ∧ (u.2.2.2.2.2.2.1 = (F_Te_takeSign t_length t_kind t_start t_end t_number t_sign t_letters t_fault t_faultPlace c_tape k).2.2.2.2.2.2.2.1) ∧ (u.2.2.2.2.2.2.2 = (F_Te_takeSign t_length t_kind t_start t_end t_number t_sign t_letters t_fault t_faultPlace c_tape k).2.2.2.2.2.2.2.2) ∧ (r = 0 ∨ r = 1)) (fun (u : Int32 × Int32 × Int32 × Int32 × Int32 × Int64 × Int32 × Int32) => [(t, .inr (8, [.ref tape, .int t_fed, .int t_length, .int u.1, .int u.2.1, .int u.2.2.1, .int u.2.2.2.1, .int u.2.2.2.2.1, .long u.2.2.2.2.2.1, .int u.2.2.2.2.2.2.1, .int u.2.2.2.2.2.2.2])), (tape, .inl (cA.1 2, 900, .inl c_tape))]) 0 0 := by
  refine z_start2z (own := RX8) (by decide) (Nat.le_of_ble_eq_true rfl) rfl ?_
  intro p e s m args below meth c A ls Q hx hb hml hts hown hK hE hT hP hD hS hA hl hret
  have hl : lv_has ls 2 [(0, .ref t), (1, .int k)] := hl
  refine lv_aload_n hx hb dX8_takeSign_0 rfl (lv_at hl 0 rfl) ?_
  refine lv_iload_n hx hb dX8_takeSign_1 rfl (lv_at hl 1 rfl) ?_
  refine z_callVi (As := [.int k]) (rest := []) (wr := [(tape, .inl (cA.1 2, 900, .inl c_tape))]) ⟨hx, hb, hml, hown, hts⟩ hK hE hT hP hD hS hA (d_Te_isSign l G cA t tape t_fed t_length t_kind t_start t_end t_number t_sign t_letters t_fault t_faultPlace k) lk_RX8_123 ⟨rfl, rfl⟩ ⟨Nat.le_of_ble_eq_true rfl, Nat.le_of_ble_eq_true rfl⟩ 8 rfl rfl rfl [0] [1] rfl rfl (by decide) rfl hl.1 rfl (lv_room (Nat.le_of_ble_eq_true rfl)) dX8_takeSign_2 ⟨Nat.le_of_ble_eq_true rfl, Nat.le_of_ble_eq_true rfl⟩ (fun r_1 u_2 H locs hw hP hD hS => ?_)
  have hP : va_P G vwCl [(tape, .inl (cA.1 2, 900, .inl c_tape)), (t, .inr (8, [.ref tape, .int t_fed, .int t_length, .int t_kind, .int t_start, .int t_end, .int t_number, .int t_sign, .long t_letters, .int t_fault, .int t_faultPlace]))] H := hP
  have hD : va_D A [(tape, .inl (cA.1 2, 900, .inl c_tape)), (t, .inr (8, [.ref tape, .int t_fed, .int t_length, .int t_kind, .int t_start, .int t_end, .int t_number, .int t_sign, .long t_letters, .int t_fault, .int t_faultPlace]))] := hD
  obtain ⟨he_r_1, hw⟩ := hw
  have hz_r_1 := hw
  refine lv_if_ne (tgt := 14) hx hb dX8_takeSign_5 (by decide) (fun c_4 => ?_) (fun c_4 => ?_)
  · skip
    refine lv_aload_n hx hb dX8_takeSign_14 rfl (lv_at hl 0 rfl) ?_
    refine z_callVv (As := []) (rest := []) (wr := []) ⟨hx, hb, hml, hown, hts⟩ hK hE hT hP hD hS hA (d_Te_advance l G cA t tape t_fed t_length t_kind t_start t_end t_number t_sign t_letters t_fault t_faultPlace c_tape) lk_RX8_31 ⟨rfl, rfl⟩ ⟨Nat.le_of_ble_eq_true rfl, Nat.le_of_ble_eq_true rfl⟩ 8 rfl rfl rfl [1, 0] [] rfl rfl (by decide) rfl hl.1 rfl (lv_room (Nat.le_of_ble_eq_true rfl)) dX8_takeSign_15 ⟨Nat.le_of_ble_eq_true rfl, Nat.le_of_ble_eq_true rfl⟩ (fun u_13 H locs hw hP hD hS => ?_)
    obtain ⟨nw0_6, nw1_7, nw2_8, nw3_9, nw4_10, nw5_11⟩ := u_13
    have hP : va_P G vwCl [(t, .inr (8, [.ref tape, .int t_fed, .int t_length, .int nw0_6, .int nw1_7, .int nw2_8, .int nw4_10, .int nw3_9, .long nw5_11, .int t_fault, .int t_faultPlace])), (tape, .inl (cA.1 2, 900, .inl c_tape))] H := hP
    have hD : va_D A [(t, .inr (8, [.ref tape, .int t_fed, .int t_length, .int nw0_6, .int nw1_7, .int nw2_8, .int nw4_10, .int nw3_9, .long nw5_11, .int t_fault, .int t_faultPlace])), (tape, .inl (cA.1 2, 900, .inl c_tape))] := hD
    obtain ⟨he_nw0_6, he_nw1_7, he_nw2_8, he_nw3_9, he_nw4_10, he_nw5_11, hw⟩ := hw
    refine lv_iconst (v := 1) hx hb dX8_takeSign_18 (by decide) ?_
    have hX_15 : F_Te_takeSign t_length t_kind t_start t_end t_number t_sign t_letters t_fault t_faultPlace c_tape k = (((1 : Int32), nw0_6, nw1_7, nw2_8, nw4_10, nw3_9, nw5_11, t_fault, t_faultPlace) : Int32 × Int32 × Int32 × Int32 × Int32 × Int32 × Int64 × Int32 × Int32) := by
      refine (F_Te_takeSign_s ..).trans ?_
      extract_lets -merge -useContext +onlyGivenNames w9 y9; have e9 : r_1 = w9 := he_r_1; clear_value w9; subst e9
      refine (if_neg c_4).trans ?_
      extract_lets -merge -useContext +onlyGivenNames w9 y2_0 y2_1 y2_2 y2_3 y2_4 y2_5; have e9 : (nw0_6, nw1_7, nw2_8, nw3_9, nw4_10, nw5_11) = w9 := ((z_tS he_nw0_6 (z_tS he_nw1_7 (z_tS he_nw2_8 (z_tS he_nw3_9 (z_tS he_nw4_10 he_nw5_11.symm)))))).symm; clear_value w9; subst e9
      exact rfl
    exact hret _ _ _ _ _ _ (nw0_6, nw1_7, nw2_8, nw4_10, nw3_9, nw5_11, t_fault, t_faultPlace) [0, 1] hP hD hS rfl (by decide) dX8_takeSign_19 (Or.inr rfl) ⟨(congrArg (fun z9 => z9.1) hX_15).symm, (congrArg (fun z9 => z9.2.1) hX_15).symm, (congrArg (fun z9 => z9.2.2.1) hX_15).symm, (congrArg (fun z9 => z9.2.2.2.1) hX_15).symm, (congrArg (fun z9 => z9.2.2.2.2.1) hX_15).symm, (congrArg (fun z9 => z9.2.2.2.2.2.1) hX_15).symm, (congrArg (fun z9 => z9.2.2.2.2.2.2.1) hX_15).symm, (congrArg (fun z9 => z9.2.2.2.2.2.2.2.1) hX_15).symm, (congrArg (fun z9 => z9.2.2.2.2.2.2.2.2) hX_15).symm, (Or.inr rfl)⟩
  · skip
    refine lv_aload_n hx hb dX8_takeSign_8 rfl (lv_at hl 0 rfl) ?_
    refine lv_iconst (v := 2) hx hb dX8_takeSign_9 (by decide) ?_
    refine z_callVi (As := [.int 2]) (rest := []) (wr := [(tape, .inl (cA.1 2, 900, .inl c_tape))]) ⟨hx, hb, hml, hown, hts⟩ hK hE hT hP hD hS hA (d_Te_refuse l G cA t tape t_fed t_length t_kind t_start t_end t_number t_sign t_letters t_fault t_faultPlace 2) lk_RX8_120 ⟨rfl, rfl⟩ ⟨Nat.le_of_ble_eq_true rfl, Nat.le_of_ble_eq_true rfl⟩ 8 rfl rfl rfl [1] [0] rfl rfl (by decide) rfl hl.1 rfl (lv_room (Nat.le_of_ble_eq_true rfl)) dX8_takeSign_10 ⟨Nat.le_of_ble_eq_true rfl, Nat.le_of_ble_eq_true rfl⟩ (fun r_19 u_20 H locs hw hP hD hS => ?_)
    obtain ⟨nw0_17, nw1_18⟩ := u_20
    have hP : va_P G vwCl [(tape, .inl (cA.1 2, 900, .inl c_tape)), (t, .inr (8, [.ref tape, .int t_fed, .int t_length, .int t_kind, .int t_start, .int t_end, .int t_number, .int t_sign, .long t_letters, .int nw0_17, .int nw1_18]))] H := hP
    have hD : va_D A [(tape, .inl (cA.1 2, 900, .inl c_tape)), (t, .inr (8, [.ref tape, .int t_fed, .int t_length, .int t_kind, .int t_start, .int t_end, .int t_number, .int t_sign, .long t_letters, .int nw0_17, .int nw1_18]))] := hD
    obtain ⟨he_r_19, he_nw0_17, he_nw1_18, hw⟩ := hw
    have hz_r_19 := hw
    have hX_22 : F_Te_takeSign t_length t_kind t_start t_end t_number t_sign t_letters t_fault t_faultPlace c_tape k = ((r_19, t_kind, t_start, t_end, t_number, t_sign, t_letters, nw0_17, nw1_18) : Int32 × Int32 × Int32 × Int32 × Int32 × Int32 × Int64 × Int32 × Int32) := by
      refine (F_Te_takeSign_s ..).trans ?_
      extract_lets -merge -useContext +onlyGivenNames w9 y9; have e9 : r_1 = w9 := he_r_1; clear_value w9; subst e9
      refine (if_pos c_4).trans ?_
      extract_lets -merge -useContext +onlyGivenNames w9 y2_0 y2_1 y2_2; have e9 : (r_19, nw0_17, nw1_18) = w9 := ((z_tS he_r_19 (z_tS he_nw0_17 he_nw1_18.symm))).symm; clear_value w9; subst e9
      exact rfl
    exact hret _ _ _ _ _ _ (t_kind, t_start, t_end, t_number, t_sign, t_letters, nw0_17, nw1_18) [1, 0] hP hD hS rfl (by decide) dX8_takeSign_13 hz_r_19 ⟨(congrArg (fun z9 => z9.1) hX_22).symm, (congrArg (fun z9 => z9.2.1) hX_22).symm, (congrArg (fun z9 => z9.2.2.1) hX_22).symm, (congrArg (fun z9 => z9.2.2.2.1) hX_22).symm, (congrArg (fun z9 => z9.2.2.2.2.1) hX_22).symm, (congrArg (fun z9 => z9.2.2.2.2.2.1) hX_22).symm, (congrArg (fun z9 => z9.2.2.2.2.2.2.1) hX_22).symm, (congrArg (fun z9 => z9.2.2.2.2.2.2.2.1) hX_22).symm, (congrArg (fun z9 => z9.2.2.2.2.2.2.2.2) hX_22).symm, hz_r_19⟩
