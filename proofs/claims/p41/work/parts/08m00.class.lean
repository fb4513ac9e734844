set_option maxHeartbeats 40000000 in
set_option maxRecDepth 100000 in
theorem d_at_3 (l : Launch) (G : va_G) (cA : zCA) (a : Nat) (c_a : Nat → Int32) (i : Int32) : zCi l yX11_at cX11_at 2 (some .int) ({ frames := 0, cells := 0, slots := 0, locals := 0 }) G cA [.ref a, .int i] [(a, .inl (cA.1 0, 3, .inl c_a))] (S := Unit) (fun (r : Int32) (u : Unit) => (r = (F_at_3 c_a i)) ∧ (r.toInt = zat 3 c_a i.toInt)) (fun (u : Unit) => [(a, .inl (cA.1 0, 3, .inl c_a))]) 0 0 := by
  refine z_start2i (own := RX11) (by decide) (Nat.le_of_ble_eq_true rfl) rfl ?_
  intro p e s m args below meth c A ls Q hx hb hml hts hown hK hE hT hP hD hS hA hl hret
  have hl : lv_has ls 2 [(0, .ref a), (1, .int i)] := hl
  refine lv_iload_n hx hb dX11_at_0 rfl (lv_at hl 1 rfl) ?_
  refine lv_if_lt (tgt := 16) hx hb dX11_at_1 (by decide) (fun c_1 => ?_) (fun c_1 => ?_)
  · have b_2 := z_b3 c_1 (K := 0) (by decide +kernel)
    refine lv_iconst (v := (-1)) hx hb dX11_at_16 (by decide) ?_
    have hX_3 : F_at_3 c_a i = ((-1 : Int32) : Int32) := by
      refine (F_at_3_s ..).trans ?_
      refine (if_pos c_1).trans ?_
      exact rfl
    exact hret _ _ _ _ _ _ () [0] hP hD hS rfl (by decide) dX11_at_17 ⟨(congrArg (fun z9 => z9) hX_3).symm, (z_at0 (by omega))⟩
  · have b_4 := z_b4 c_1 (K := 0) (by decide +kernel)
    refine lv_iload_n hx hb dX11_at_4 rfl (lv_at hl 1 rfl) ?_
    refine lv_aload_n hx hb dX11_at_5 rfl (lv_at hl 0 rfl) ?_
    refine va_alen (v := 3) hx hb hK hP 0 0 rfl rfl (show Int32.ofNat 3 = 3 by decide +kernel) dX11_at_6 ?_
    refine lv_icmp_ge (tgt := 16) hx hb dX11_at_7 (by decide) (fun c_5 => ?_) (fun c_5 => ?_)
    · have b_6 := z_b1 c_5 (K := 3) (by decide +kernel)
      refine lv_iconst (v := (-1)) hx hb dX11_at_16 (by decide) ?_
      have hX_7 : F_at_3 c_a i = ((-1 : Int32) : Int32) := by
        refine (F_at_3_s ..).trans ?_
        refine (if_neg c_1).trans ?_
        refine (if_pos c_5).trans ?_
        exact rfl
      exact hret _ _ _ _ _ _ () [0] hP hD hS rfl (by decide) dX11_at_17 ⟨(congrArg (fun z9 => z9) hX_7).symm, (z_at0 (by omega))⟩
    · have b_8 := z_b2 c_5 (K := 3) (by decide +kernel)
      refine lv_aload_n hx hb dX11_at_10 rfl (lv_at hl 0 rfl) ?_
      refine lv_iload_n hx hb dX11_at_11 rfl (lv_at hl 1 rfl) ?_
      refine va_iald hx hb hK hP 0 0 rfl rfl (z_inN (by omega) (by omega)) dX11_at_12 ?_
      refine lv_topi (fun x_9 he_x_9 => ?_)
      refine lv_goto (tgt := 17) hx hb dX11_at_13 (by decide) ?_
      have hX_10 : F_at_3 c_a i = (x_9 : Int32) := by
        refine (F_at_3_s ..).trans ?_
        refine (if_neg c_1).trans ?_
        refine (if_neg c_5).trans ?_
        try (extract_lets -merge -useContext +onlyGivenNames y9; have e9 : x_9 = y9 := (by first | exact he_x_9 | exact he_x_9.symm); clear_value y9; subst e9)
        exact rfl
      exact hret _ _ _ _ _ _ () [0] hP hD hS rfl (by decide) dX11_at_17 ⟨(congrArg (fun z9 => z9) hX_10).symm, ((congrArg Int32.toInt he_x_9).trans (z_at1 (by omega) (by omega)))⟩
set_option maxHeartbeats 40000000 in
set_option maxRecDepth 100000 in
theorem d_keepAt_3 (l : Launch) (G : va_G) (cA : zCA) (a : Nat) (c_a : Nat → Int32) (i : Int32) (v : Int32) : zCv l yX11_keepAt cX11_keepAt 3 none ({ frames := 0, cells := 0, slots := 0, locals := 0 }) G cA [.ref a, .int i, .int v] [(a, .inl (cA.1 0, 3, .inl c_a))] (S := (Nat → Int32)) (fun (u : (Nat → Int32)) => (u = (F_keepAt_3 c_a i v)) ∧ (u = c_a ∨ (0 ≤ i.toInt ∧ i.toInt < 3 ∧ u = upd c_a i.toNatClampNeg v))) (fun (u : (Nat → Int32)) => [(a, .inl (cA.1 0, 3, .inl u))]) 0 0 := by
  refine z_start2v (own := RX11) (by decide) (Nat.le_of_ble_eq_true rfl) rfl ?_
  intro p e s m args below meth c A ls Q hx hb hml hts hown hK hE hT hP hD hS hA hl hret
  have hl : lv_has ls 3 [(0, .ref a), (1, .int i), (2, .int v)] := hl
  refine lv_iload_n hx hb dX11_keepAt_0 rfl (lv_at hl 1 rfl) ?_
  refine lv_if_lt (tgt := 14) hx hb dX11_keepAt_1 (by decide) (fun c_1 => ?_) (fun c_1 => ?_)
  · have b_2 := z_b3 c_1 (K := 0) (by decide +kernel)
    have hX_3 : F_keepAt_3 c_a i v = (c_a : (Nat → Int32)) := by
      refine (F_keepAt_3_s ..).trans ?_
      refine (if_pos c_1).trans ?_
      exact rfl
    exact hret _ _ _ _ _ c_a [0] hP hD hS rfl (by decide) dX11_keepAt_14 ⟨(congrArg (fun z9 => z9) hX_3).symm, (Or.inl rfl)⟩
  · have b_4 := z_b4 c_1 (K := 0) (by decide +kernel)
    refine lv_iload_n hx hb dX11_keepAt_4 rfl (lv_at hl 1 rfl) ?_
    refine lv_aload_n hx hb dX11_keepAt_5 rfl (lv_at hl 0 rfl) ?_
    refine va_alen (v := 3) hx hb hK hP 0 0 rfl rfl (show Int32.ofNat 3 = 3 by decide +kernel) dX11_keepAt_6 ?_
    refine lv_icmp_ge (tgt := 14) hx hb dX11_keepAt_7 (by decide) (fun c_5 => ?_) (fun c_5 => ?_)
    · have b_6 := z_b1 c_5 (K := 3) (by decide +kernel)
      have hX_7 : F_keepAt_3 c_a i v = (c_a : (Nat → Int32)) := by
        refine (F_keepAt_3_s ..).trans ?_
        refine (if_neg c_1).trans ?_
        refine (if_pos c_5).trans ?_
        exact rfl
      exact hret _ _ _ _ _ c_a [0] hP hD hS rfl (by decide) dX11_keepAt_14 ⟨(congrArg (fun z9 => z9) hX_7).symm, (Or.inl rfl)⟩
    · have b_8 := z_b2 c_5 (K := 3) (by decide +kernel)
      refine lv_aload_n hx hb dX11_keepAt_10 rfl (lv_at hl 0 rfl) ?_
      refine lv_iload_n hx hb dX11_keepAt_11 rfl (lv_at hl 1 rfl) ?_
      refine lv_iload_n hx hb dX11_keepAt_12 rfl (lv_at hl 2 rfl) ?_
      refine va_iast hx hb hK hP hD hS 0 0 rfl rfl (z_inN (by omega) (by omega)) dX11_keepAt_13 (fun H locs hP hD hS => ?_)
      have hP : va_P G vwCl [(a, .inl (cA.1 0, 3, .inl (upd c_a (i : Int32).toNatClampNeg v)))] H := hP
      have hD : va_D A [(a, .inl (cA.1 0, 3, .inl (upd c_a (i : Int32).toNatClampNeg v)))] := hD
      generalize hg_g_9 : (upd c_a (i : Int32).toNatClampNeg v) = g_9 at hP hD
      have hX_10 : F_keepAt_3 c_a i v = (g_9 : (Nat → Int32)) := by
        refine (F_keepAt_3_s ..).trans ?_
        refine (if_neg c_1).trans ?_
        refine (if_neg c_5).trans ?_
        try (extract_lets -merge -useContext +onlyGivenNames y9; have e9 : g_9 = y9 := (by first | exact hg_g_9 | exact hg_g_9.symm); clear_value y9; subst e9)
        exact rfl
      exact hret _ _ _ _ _ g_9 [0] hP hD hS rfl (by decide) dX11_keepAt_14 ⟨(congrArg (fun z9 => z9) hX_10).symm, (Or.inr ⟨by omega, by omega, hg_g_9.symm⟩)⟩
set_option maxHeartbeats 40000000 in
set_option maxRecDepth 100000 in
theorem d_at_4 (l : Launch) (G : va_G) (cA : zCA) (a : Nat) (c_a : Nat → Int32) (i : Int32) : zCi l yX11_at cX11_at 2 (some .int) ({ frames := 0, cells := 0, slots := 0, locals := 0 }) G cA [.ref a, .int i] [(a, .inl (cA.1 0, 4, .inl c_a))] (S := Unit) (fun (r : Int32) (u : Unit) => (r = (F_at_4 c_a i)) ∧ (True)) (fun (u : Unit) => [(a, .inl (cA.1 0, 4, .inl c_a))]) 0 0 := by
  refine z_start2i (own := RX11) (by decide) (Nat.le_of_ble_eq_true rfl) rfl ?_
  intro p e s m args below meth c A ls Q hx hb hml hts hown hK hE hT hP hD hS hA hl hret
  have hl : lv_has ls 2 [(0, .ref a), (1, .int i)] := hl
  refine lv_iload_n hx hb dX11_at_0 rfl (lv_at hl 1 rfl) ?_
  refine lv_if_lt (tgt := 16) hx hb dX11_at_1 (by decide) (fun c_1 => ?_) (fun c_1 => ?_)
  · have b_2 := z_b3 c_1 (K := 0) (by decide +kernel)
    refine lv_iconst (v := (-1)) hx hb dX11_at_16 (by decide) ?_
    have hX_3 : F_at_4 c_a i = ((-1 : Int32) : Int32) := by
      refine (F_at_4_s ..).trans ?_
      refine (if_pos c_1).trans ?_
      exact rfl
    exact hret _ _ _ _ _ _ () [0] hP hD hS rfl (by decide) dX11_at_17 ⟨(congrArg (fun z9 => z9) hX_3).symm, trivial⟩
  · have b_4 := z_b4 c_1 (K := 0) (by decide +kernel)
    refine lv_iload_n hx hb dX11_at_4 rfl (lv_at hl 1 rfl) ?_
    refine lv_aload_n hx hb dX11_at_5 rfl (lv_at hl 0 rfl) ?_
    refine va_alen (v := 4) hx hb hK hP 0 0 rfl rfl (show Int32.ofNat 4 = 4 by decide +kernel) dX11_at_6 ?_
    refine lv_icmp_ge (tgt := 16) hx hb dX11_at_7 (by decide) (fun c_5 => ?_) (fun c_5 => ?_)
    · have b_6 := z_b1 c_5 (K := 4) (by decide +kernel)
      refine lv_iconst (v := (-1)) hx hb dX11_at_16 (by decide) ?_
      have hX_7 : F_at_4 c_a i = ((-1 : Int32) : Int32) := by
        refine (F_at_4_s ..).trans ?_
        refine (if_neg c_1).trans ?_
        refine (if_pos c_5).trans ?_
        exact rfl
      exact hret _ _ _ _ _ _ () [0] hP hD hS rfl (by decide) dX11_at_17 ⟨(congrArg (fun z9 => z9) hX_7).symm, trivial⟩
    · have b_8 := z_b2 c_5 (K := 4) (by decide +kernel)
      refine lv_aload_n hx hb dX11_at_10 rfl (lv_at hl 0 rfl) ?_
      refine lv_iload_n hx hb dX11_at_11 rfl (lv_at hl 1 rfl) ?_
      refine va_iald hx hb hK hP 0 0 rfl rfl (z_inN (by omega) (by omega)) dX11_at_12 ?_
      refine lv_topi (fun x_9 he_x_9 => ?_)
      refine lv_goto (tgt := 17) hx hb dX11_at_13 (by decide) ?_
      have hX_10 : F_at_4 c_a i = (x_9 : Int32) := by
        refine (F_at_4_s ..).trans ?_
        refine (if_neg c_1).trans ?_
        refine (if_neg c_5).trans ?_
        try (extract_lets -merge -useContext +onlyGivenNames y9; have e9 : x_9 = y9 := (by first | exact he_x_9 | exact he_x_9.symm); clear_value y9; subst e9)
        exact rfl
      exact hret _ _ _ _ _ _ () [0] hP hD hS rfl (by decide) dX11_at_17 ⟨(congrArg (fun z9 => z9) hX_10).symm, trivial⟩
set_option maxHeartbeats 40000000 in
set_option maxRecDepth 100000 in
theorem d_keepAt_4 (l : Launch) (G : va_G) (cA : zCA) (a : Nat) (c_a : Nat → Int32) (i : Int32) (v : Int32) : zCv l yX11_keepAt cX11_keepAt 3 none ({ frames := 0, cells := 0, slots := 0, locals := 0 }) G cA [.ref a, .int i, .int v] [(a, .inl (cA.1 0, 4, .inl c_a))] (S := (Nat → Int32)) (fun (u : (Nat → Int32)) => (u = (F_keepAt_4 c_a i v)) ∧ (True)) (fun (u : (Nat → Int32)) => [(a, .inl (cA.1 0, 4, .inl u))]) 0 0 := by
  refine z_start2v (own := RX11) (by decide) (Nat.le_of_ble_eq_true rfl) rfl ?_
  intro p e s m args below meth c A ls Q hx hb hml hts hown hK hE hT hP hD hS hA hl hret
  have hl : lv_has ls 3 [(0, .ref a), (1, .int i), (2, .int v)] := hl
  refine lv_iload_n hx hb dX11_keepAt_0 rfl (lv_at hl 1 rfl) ?_
  refine lv_if_lt (tgt := 14) hx hb dX11_keepAt_1 (by decide) (fun c_1 => ?_) (fun c_1 => ?_)
  · have b_2 := z_b3 c_1 (K := 0) (by decide +kernel)
    have hX_3 : F_keepAt_4 c_a i v = (c_a : (Nat → Int32)) := by
      refine (F_keepAt_4_s ..).trans ?_
      refine (if_pos c_1).trans ?_
      exact rfl
    exact hret _ _ _ _ _ c_a [0] hP hD hS rfl (by decide) dX11_keepAt_14 ⟨(congrArg (fun z9 => z9) hX_3).symm, trivial⟩
  · have b_4 := z_b4 c_1 (K := 0) (by decide +kernel)
    refine lv_iload_n hx hb dX11_keepAt_4 rfl (lv_at hl 1 rfl) ?_
    refine lv_aload_n hx hb dX11_keepAt_5 rfl (lv_at hl 0 rfl) ?_
    refine va_alen (v := 4) hx hb hK hP 0 0 rfl rfl (show Int32.ofNat 4 = 4 by decide +kernel) dX11_keepAt_6 ?_
    refine lv_icmp_ge (tgt := 14) hx hb dX11_keepAt_7 (by decide) (fun c_5 => ?_) (fun c_5 => ?_)
    · have b_6 := z_b1 c_5 (K := 4) (by decide +kernel)
      have hX_7 : F_keepAt_4 c_a i v = (c_a : (Nat → Int32)) := by
        refine (F_keepAt_4_s ..).trans ?_
        refine (if_neg c_1).trans ?_
        refine (if_pos c_5).trans ?_
        exact rfl
      exact hret _ _ _ _ _ c_a [0] hP hD hS rfl (by decide) dX11_keepAt_14 ⟨(congrArg (fun z9 => z9) hX_7).symm, trivial⟩
    · have b_8 := z_b2 c_5 (K := 4) (by decide +kernel)
      refine lv_aload_n hx hb dX11_keepAt_10 rfl (lv_at hl 0 rfl) ?_
      refine lv_iload_n hx hb dX11_keepAt_11 rfl (lv_at hl 1 rfl) ?_
      refine lv_iload_n hx hb dX11_keepAt_12 rfl (lv_at hl 2 rfl) ?_
      refine va_iast hx hb hK hP hD hS 0 0 rfl rfl (z_inN (by omega) (by omega)) dX11_keepAt_13 (fun H locs hP hD hS => ?_)
      have hP : va_P G vwCl [(a, .inl (cA.1 0, 4, .inl (upd c_a (i : Int32).toNatClampNeg v)))] H := hP
      have hD : va_D A [(a, .inl (cA.1 0, 4, .inl (upd c_a (i : Int32).toNatClampNeg v)))] := hD
      generalize hg_g_9 : (upd c_a (i : Int32).toNatClampNeg v) = g_9 at hP hD
      have hX_10 : F_keepAt_4 c_a i v = (g_9 : (Nat → Int32)) := by
        refine (F_keepAt_4_s ..).trans ?_
        refine (if_neg c_1).trans ?_
        refine (if_neg c_5).trans ?_
        try (extract_lets -merge -useContext +onlyGivenNames y9; have e9 : g_9 = y9 := (by first | exact hg_g_9 | exact hg_g_9.symm); clear_value y9; subst e9)
        exact rfl
      exact hret _ _ _ _ _ g_9 [0] hP hD hS rfl (by decide) dX11_keepAt_14 ⟨(congrArg (fun z9 => z9) hX_10).symm, trivial⟩
set_option maxHeartbeats 40000000 in
set_option maxRecDepth 100000 in
theorem d_at_5 (l : Launch) (G : va_G) (cA : zCA) (a : Nat) (c_a : Nat → Int32) (i : Int32) : zCi l yX11_at cX11_at 2 (some .int) ({ frames := 0, cells := 0, slots := 0, locals := 0 }) G cA [.ref a, .int i] [(a, .inl (cA.1 0, 5, .inl c_a))] (S := Unit) (fun (r : Int32) (u : Unit) => (r = (F_at_5 c_a i)) ∧ (True)) (fun (u : Unit) => [(a, .inl (cA.1 0, 5, .inl c_a))]) 0 0 := by
  refine z_start2i (own := RX11) (by decide) (Nat.le_of_ble_eq_true rfl) rfl ?_
  intro p e s m args below meth c A ls Q hx hb hml hts hown hK hE hT hP hD hS hA hl hret
  have hl : lv_has ls 2 [(0, .ref a), (1, .int i)] := hl
  refine lv_iload_n hx hb dX11_at_0 rfl (lv_at hl 1 rfl) ?_
  refine lv_if_lt (tgt := 16) hx hb dX11_at_1 (by decide) (fun c_1 => ?_) (fun c_1 => ?_)
  · have b_2 := z_b3 c_1 (K := 0) (by decide +kernel)
    refine lv_iconst (v := (-1)) hx hb dX11_at_16 (by decide) ?_
    have hX_3 : F_at_5 c_a i = ((-1 : Int32) : Int32) := by
      refine (F_at_5_s ..).trans ?_
      refine (if_pos c_1).trans ?_
      exact rfl
    exact hret _ _ _ _ _ _ () [0] hP hD hS rfl (by decide) dX11_at_17 ⟨(congrArg (fun z9 => z9) hX_3).symm, trivial⟩
  · have b_4 := z_b4 c_1 (K := 0) (by decide +kernel)
    refine lv_iload_n hx hb dX11_at_4 rfl (lv_at hl 1 rfl) ?_
    refine lv_aload_n hx hb dX11_at_5 rfl (lv_at hl 0 rfl) ?_
    refine va_alen (v := 5) hx hb hK hP 0 0 rfl rfl (show Int32.ofNat 5 = 5 by decide +kernel) dX11_at_6 ?_
    refine lv_icmp_ge (tgt := 16) hx hb dX11_at_7 (by decide) (fun c_5 => ?_) (fun c_5 => ?_)
    · have b_6 := z_b1 c_5 (K := 5) (by decide +kernel)
      refine lv_iconst (v := (-1)) hx hb dX11_at_16 (by decide) ?_
      have hX_7 : F_at_5 c_a i = ((-1 : Int32) : Int32) := by
        refine (F_at_5_s ..).trans ?_
        refine (if_neg c_1).trans ?_
        refine (if_pos c_5).trans ?_
        exact rfl
      exact hret _ _ _ _ _ _ () [0] hP hD hS rfl (by decide) dX11_at_17 ⟨(congrArg (fun z9 => z9) hX_7).symm, trivial⟩
    · have b_8 := z_b2 c_5 (K := 5) (by decide +kernel)
      refine lv_aload_n hx hb dX11_at_10 rfl (lv_at hl 0 rfl) ?_
      refine lv_iload_n hx hb dX11_at_11 rfl (lv_at hl 1 rfl) ?_
      refine va_iald hx hb hK hP 0 0 rfl rfl (z_inN (by omega) (by omega)) dX11_at_12 ?_
      refine lv_topi (fun x_9 he_x_9 => ?_)
      refine lv_goto (tgt := 17) hx hb dX11_at_13 (by decide) ?_
      have hX_10 : F_at_5 c_a i = (x_9 : Int32) := by
        refine (F_at_5_s ..).trans ?_
        refine (if_neg c_1).trans ?_
        refine (if_neg c_5).trans ?_
        try (extract_lets -merge -useContext +onlyGivenNames y9; have e9 : x_9 = y9 := (by first | exact he_x_9 | exact he_x_9.symm); clear_value y9; subst e9)
        exact rfl
      exact hret _ _ _ _ _ _ () [0] hP hD hS rfl (by decide) dX11_at_17 ⟨(congrArg (fun z9 => z9) hX_10).symm, trivial⟩
set_option maxHeartbeats 40000000 in
set_option maxRecDepth 100000 in
theorem d_keepAt_5 (l : Launch) (G : va_G) (cA : zCA) (a : Nat) (c_a : Nat → Int32) (i : Int32) (v : Int32) : zCv l yX11_keepAt cX11_keepAt 3 none ({ frames := 0, cells := 0, slots := 0, locals := 0 }) G cA [.ref a, .int i, .int v] [(a, .inl (cA.1 0, 5, .inl c_a))] (S := (Nat → Int32)) (fun (u : (Nat → Int32)) => (u = (F_keepAt_5 c_a i v)) ∧ (True)) (fun (u : (Nat → Int32)) => [(a, .inl (cA.1 0, 5, .inl u))]) 0 0 := by
  refine z_start2v (own := RX11) (by decide) (Nat.le_of_ble_eq_true rfl) rfl ?_
  intro p e s m args below meth c A ls Q hx hb hml hts hown hK hE hT hP hD hS hA hl hret
  have hl : lv_has ls 3 [(0, .ref a), (1, .int i), (2, .int v)] := hl
  refine lv_iload_n hx hb dX11_keepAt_0 rfl (lv_at hl 1 rfl) ?_
  refine lv_if_lt (tgt := 14) hx hb dX11_keepAt_1 (by decide) (fun c_1 => ?_) (fun c_1 => ?_)
  · have b_2 := z_b3 c_1 (K := 0) (by decide +kernel)
    have hX_3 : F_keepAt_5 c_a i v = (c_a : (Nat → Int32)) := by
      refine (F_keepAt_5_s ..).trans ?_
      refine (if_pos c_1).trans ?_
      exact rfl
    exact hret _ _ _ _ _ c_a [0] hP hD hS rfl (by decide) dX11_keepAt_14 ⟨(congrArg (fun z9 => z9) hX_3).symm, trivial⟩
  · have b_4 := z_b4 c_1 (K := 0) (by decide +kernel)
    refine lv_iload_n hx hb dX11_keepAt_4 rfl (lv_at hl 1 rfl) ?_
    refine lv_aload_n hx hb dX11_keepAt_5 rfl (lv_at hl 0 rfl) ?_
    refine va_alen (v := 5) hx hb hK hP 0 0 rfl rfl (show Int32.ofNat 5 = 5 by decide +kernel) dX11_keepAt_6 ?_
    refine lv_icmp_ge (tgt := 14) hx hb dX11_keepAt_7 (by decide) (fun c_5 => ?_) (fun c_5 => ?_)
    · have b_6 := z_b1 c_5 (K := 5) (by decide +kernel)
      have hX_7 : F_keepAt_5 c_a i v = (c_a : (Nat → Int32)) := by
        refine (F_keepAt_5_s ..).trans ?_
        refine (if_neg c_1).trans ?_
        refine (if_pos c_5).trans ?_
        exact rfl
      exact hret _ _ _ _ _ c_a [0] hP hD hS rfl (by decide) dX11_keepAt_14 ⟨(congrArg (fun z9 => z9) hX_7).symm, trivial⟩
    · have b_8 := z_b2 c_5 (K := 5) (by decide +kernel)
      refine lv_aload_n hx hb dX11_keepAt_10 rfl (lv_at hl 0 rfl) ?_
      refine lv_iload_n hx hb dX11_keepAt_11 rfl (lv_at hl 1 rfl) ?_
      refine lv_iload_n hx hb dX11_keepAt_12 rfl (lv_at hl 2 rfl) ?_
      refine va_iast hx hb hK hP hD hS 0 0 rfl rfl (z_inN (by omega) (by omega)) dX11_keepAt_13 (fun H locs hP hD hS => ?_)
      have hP : va_P G vwCl [(a, .inl (cA.1 0, 5, .inl (upd c_a (i : Int32).toNatClampNeg v)))] H := hP
      have hD : va_D A [(a, .inl (cA.1 0, 5, .inl (upd c_a (i : Int32).toNatClampNeg v)))] := hD
      generalize hg_g_9 : (upd c_a (i : Int32).toNatClampNeg v) = g_9 at hP hD
      have hX_10 : F_keepAt_5 c_a i v = (g_9 : (Nat → Int32)) := by
        refine (F_keepAt_5_s ..).trans ?_
        refine (if_neg c_1).trans ?_
        refine (if_neg c_5).trans ?_
        try (extract_lets -merge -useContext +onlyGivenNames y9; have e9 : g_9 = y9 := (by first | exact hg_g_9 | exact hg_g_9.symm); clear_value y9; subst e9)
        exact rfl
      exact hret _ _ _ _ _ g_9 [0] hP hD hS rfl (by decide) dX11_keepAt_14 ⟨(congrArg (fun z9 => z9) hX_10).symm, trivial⟩
set_option maxHeartbeats 40000000 in
set_option maxRecDepth 100000 in
theorem d_at_7 (l : Launch) (G : va_G) (cA : zCA) (a : Nat) (c_a : Nat → Int32) (i : Int32) : zCi l yX11_at cX11_at 2 (some .int) ({ frames := 0, cells := 0, slots := 0, locals := 0 }) G cA [.ref a, .int i] [(a, .inl (cA.1 0, 7, .inl c_a))] (S := Unit) (fun (r : Int32) (u : Unit) => (r = (F_at_7 c_a i)) ∧ (True)) (fun (u : Unit) => [(a, .inl (cA.1 0, 7, .inl c_a))]) 0 0 := by
  refine z_start2i (own := RX11) (by decide) (Nat.le_of_ble_eq_true rfl) rfl ?_
  intro p e s m args below meth c A ls Q hx hb hml hts hown hK hE hT hP hD hS hA hl hret
  have hl : lv_has ls 2 [(0, .ref a), (1, .int i)] := hl
  refine lv_iload_n hx hb dX11_at_0 rfl (lv_at hl 1 rfl) ?_
  refine lv_if_lt (tgt := 16) hx hb dX11_at_1 (by decide) (fun c_1 => ?_) (fun c_1 => ?_)
  · have b_2 := z_b3 c_1 (K := 0) (by decide +kernel)
    refine lv_iconst (v := (-1)) hx hb dX11_at_16 (by decide) ?_
    have hX_3 : F_at_7 c_a i = ((-1 : Int32) : Int32) := by
      refine (F_at_7_s ..).trans ?_
      refine (if_pos c_1).trans ?_
      exact rfl
    exact hret _ _ _ _ _ _ () [0] hP hD hS rfl (by decide) dX11_at_17 ⟨(congrArg (fun z9 => z9) hX_3).symm, trivial⟩
  · have b_4 := z_b4 c_1 (K := 0) (by decide +kernel)
    refine lv_iload_n hx hb dX11_at_4 rfl (lv_at hl 1 rfl) ?_
    refine lv_aload_n hx hb dX11_at_5 rfl (lv_at hl 0 rfl) ?_
    refine va_alen (v := 7) hx hb hK hP 0 0 rfl rfl (show Int32.ofNat 7 = 7 by decide +kernel) dX11_at_6 ?_
    refine lv_icmp_ge (tgt := 16) hx hb dX11_at_7 (by decide) (fun c_5 => ?_) (fun c_5 => ?_)
    · have b_6 := z_b1 c_5 (K := 7) (by decide +kernel)
      refine lv_iconst (v := (-1)) hx hb dX11_at_16 (by decide) ?_
      have hX_7 : F_at_7 c_a i = ((-1 : Int32) : Int32) := by
        refine (F_at_7_s ..).trans ?_
        refine (if_neg c_1).trans ?_
        refine (if_pos c_5).trans ?_
        exact rfl
      exact hret _ _ _ _ _ _ () [0] hP hD hS rfl (by decide) dX11_at_17 ⟨(congrArg (fun z9 => z9) hX_7).symm, trivial⟩
    · have b_8 := z_b2 c_5 (K := 7) (by decide +kernel)
      refine lv_aload_n hx hb dX11_at_10 rfl (lv_at hl 0 rfl) ?_
      refine lv_iload_n hx hb dX11_at_11 rfl (lv_at hl 1 rfl) ?_
      refine va_iald hx hb hK hP 0 0 rfl rfl (z_inN (by omega) (by omega)) dX11_at_12 ?_
      refine lv_topi (fun x_9 he_x_9 => ?_)
      refine lv_goto (tgt := 17) hx hb dX11_at_13 (by decide) ?_
      have hX_10 : F_at_7 c_a i = (x_9 : Int32) := by
        refine (F_at_7_s ..).trans ?_
        refine (if_neg c_1).trans ?_
        refine (if_neg c_5).trans ?_
        try (extract_lets -merge -useContext +onlyGivenNames y9; have e9 : x_9 = y9 := (by first | exact he_x_9 | exact he_x_9.symm); clear_value y9; subst e9)
        exact rfl
      exact hret _ _ _ _ _ _ () [0] hP hD hS rfl (by decide) dX11_at_17 ⟨(congrArg (fun z9 => z9) hX_10).symm, trivial⟩
set_option maxHeartbeats 40000000 in
set_option maxRecDepth 100000 in
theorem d_keepAt_7 (l : Launch) (G : va_G) (cA : zCA) (a : Nat) (c_a : Nat → Int32) (i : Int32) (v : Int32) : zCv l yX11_keepAt cX11_keepAt 3 none ({ frames := 0, cells := 0, slots := 0, locals := 0 }) G cA [.ref a, .int i, .int v] [(a, .inl (cA.1 0, 7, .inl c_a))] (S := (Nat → Int32)) (fun (u : (Nat → Int32)) => (u = (F_keepAt_7 c_a i v)) ∧ (True)) (fun (u : (Nat → Int32)) => [(a, .inl (cA.1 0, 7, .inl u))]) 0 0 := by
  refine z_start2v (own := RX11) (by decide) (Nat.le_of_ble_eq_true rfl) rfl ?_
  intro p e s m args below meth c A ls Q hx hb hml hts hown hK hE hT hP hD hS hA hl hret
  have hl : lv_has ls 3 [(0, .ref a), (1, .int i), (2, .int v)] := hl
  refine lv_iload_n hx hb dX11_keepAt_0 rfl (lv_at hl 1 rfl) ?_
  refine lv_if_lt (tgt := 14) hx hb dX11_keepAt_1 (by decide) (fun c_1 => ?_) (fun c_1 => ?_)
  · have b_2 := z_b3 c_1 (K := 0) (by decide +kernel)
    have hX_3 : F_keepAt_7 c_a i v = (c_a : (Nat → Int32)) := by
      refine (F_keepAt_7_s ..).trans ?_
      refine (if_pos c_1).trans ?_
      exact rfl
    exact hret _ _ _ _ _ c_a [0] hP hD hS rfl (by decide) dX11_keepAt_14 ⟨(congrArg (fun z9 => z9) hX_3).symm, trivial⟩
  · have b_4 := z_b4 c_1 (K := 0) (by decide +kernel)
    refine lv_iload_n hx hb dX11_keepAt_4 rfl (lv_at hl 1 rfl) ?_
    refine lv_aload_n hx hb dX11_keepAt_5 rfl (lv_at hl 0 rfl) ?_
    refine va_alen (v := 7) hx hb hK hP 0 0 rfl rfl (show Int32.ofNat 7 = 7 by decide +kernel) dX11_keepAt_6 ?_
    refine lv_icmp_ge (tgt := 14) hx hb dX11_keepAt_7 (by decide) (fun c_5 => ?_) (fun c_5 => ?_)
    · have b_6 := z_b1 c_5 (K := 7) (by decide +kernel)
      have hX_7 : F_keepAt_7 c_a i v = (c_a : (Nat → Int32)) := by
        refine (F_keepAt_7_s ..).trans ?_
        refine (if_neg c_1).trans ?_
        refine (if_pos c_5).trans ?_
        exact rfl
      exact hret _ _ _ _ _ c_a [0] hP hD hS rfl (by decide) dX11_keepAt_14 ⟨(congrArg (fun z9 => z9) hX_7).symm, trivial⟩
    · have b_8 := z_b2 c_5 (K := 7) (by decide +kernel)
      refine lv_aload_n hx hb dX11_keepAt_10 rfl (lv_at hl 0 rfl) ?_
      refine lv_iload_n hx hb dX11_keepAt_11 rfl (lv_at hl 1 rfl) ?_
      refine lv_iload_n hx hb dX11_keepAt_12 rfl (lv_at hl 2 rfl) ?_
      refine va_iast hx hb hK hP hD hS 0 0 rfl rfl (z_inN (by omega) (by omega)) dX11_keepAt_13 (fun H locs hP hD hS => ?_)
      have hP : va_P G vwCl [(a, .inl (cA.1 0, 7, .inl (upd c_a (i : Int32).toNatClampNeg v)))] H := hP
      have hD : va_D A [(a, .inl (cA.1 0, 7, .inl (upd c_a (i : Int32).toNatClampNeg v)))] := hD
      generalize hg_g_9 : (upd c_a (i : Int32).toNatClampNeg v) = g_9 at hP hD
      have hX_10 : F_keepAt_7 c_a i v = (g_9 : (Nat → Int32)) := by
        refine (F_keepAt_7_s ..).trans ?_
        refine (if_neg c_1).trans ?_
        refine (if_neg c_5).trans ?_
        try (extract_lets -merge -useContext +onlyGivenNames y9; have e9 : g_9 = y9 := (by first | exact hg_g_9 | exact hg_g_9.symm); clear_value y9; subst e9)
        exact rfl
      exact hret _ _ _ _ _ g_9 [0] hP hD hS rfl (by decide) dX11_keepAt_14 ⟨(congrArg (fun z9 => z9) hX_10).symm, trivial⟩
set_option maxHeartbeats 40000000 in
set_option maxRecDepth 100000 in
theorem d_at_10 (l : Launch) (G : va_G) (cA : zCA) (a : Nat) (c_a : Nat → Int32) (i : Int32) : zCi l yX11_at cX11_at 2 (some .int) ({ frames := 0, cells := 0, slots := 0, locals := 0 }) G cA [.ref a, .int i] [(a, .inl (cA.1 0, 10, .inl c_a))] (S := Unit) (fun (r : Int32) (u : Unit) => (r = (F_at_10 c_a i)) ∧ (True)) (fun (u : Unit) => [(a, .inl (cA.1 0, 10, .inl c_a))]) 0 0 := by
  refine z_start2i (own := RX11) (by decide) (Nat.le_of_ble_eq_true rfl) rfl ?_
  intro p e s m args below meth c A ls Q hx hb hml hts hown hK hE hT hP hD hS hA hl hret
  have hl : lv_has ls 2 [(0, .ref a), (1, .int i)] := hl
  refine lv_iload_n hx hb dX11_at_0 rfl (lv_at hl 1 rfl) ?_
  refine lv_if_lt (tgt := 16) hx hb dX11_at_1 (by decide) (fun c_1 => ?_) (fun c_1 => ?_)
  · have b_2 := z_b3 c_1 (K := 0) (by decide +kernel)
    refine lv_iconst (v := (-1)) hx hb dX11_at_16 (by decide) ?_
    have hX_3 : F_at_10 c_a i = ((-1 : Int32) : Int32) := by
      refine (F_at_10_s ..).trans ?_
      refine (if_pos c_1).trans ?_
      exact rfl
    exact hret _ _ _ _ _ _ () [0] hP hD hS rfl (by decide) dX11_at_17 ⟨(congrArg (fun z9 => z9) hX_3).symm, trivial⟩
  · have b_4 := z_b4 c_1 (K := 0) (by decide +kernel)
    refine lv_iload_n hx hb dX11_at_4 rfl (lv_at hl 1 rfl) ?_
    refine lv_aload_n hx hb dX11_at_5 rfl (lv_at hl 0 rfl) ?_
    refine va_alen (v := 10) hx hb hK hP 0 0 rfl rfl (show Int32.ofNat 10 = 10 by decide +kernel) dX11_at_6 ?_
    refine lv_icmp_ge (tgt := 16) hx hb dX11_at_7 (by decide) (fun c_5 => ?_) (fun c_5 => ?_)
    · have b_6 := z_b1 c_5 (K := 10) (by decide +kernel)
      refine lv_iconst (v := (-1)) hx hb dX11_at_16 (by decide) ?_
      have hX_7 : F_at_10 c_a i = ((-1 : Int32) : Int32) := by
        refine (F_at_10_s ..).trans ?_
        refine (if_neg c_1).trans ?_
        refine (if_pos c_5).trans ?_
        exact rfl
      exact hret _ _ _ _ _ _ () [0] hP hD hS rfl (by decide) dX11_at_17 ⟨(congrArg (fun z9 => z9) hX_7).symm, trivial⟩
    · have b_8 := z_b2 c_5 (K := 10) (by decide +kernel)
      refine lv_aload_n hx hb dX11_at_10 rfl (lv_at hl 0 rfl) ?_
      refine lv_iload_n hx hb dX11_at_11 rfl (lv_at hl 1 rfl) ?_
      refine va_iald hx hb hK hP 0 0 rfl rfl (z_inN (by omega) (by omega)) dX11_at_12 ?_
      refine lv_topi (fun x_9 he_x_9 => ?_)
      refine lv_goto (tgt := 17) hx hb dX11_at_13 (by decide) ?_
      have hX_10 : F_at_10 c_a i = (x_9 : Int32) := by
        refine (F_at_10_s ..).trans ?_
        refine (if_neg c_1).trans ?_
        refine (if_neg c_5).trans ?_
        try (extract_lets -merge -useContext +onlyGivenNames y9; have e9 : x_9 = y9 := (by first | exact he_x_9 | exact he_x_9.symm); clear_value y9; subst e9)
        exact rfl
      exact hret _ _ _ _ _ _ () [0] hP hD hS rfl (by decide) dX11_at_17 ⟨(congrArg (fun z9 => z9) hX_10).symm, trivial⟩
set_option maxHeartbeats 40000000 in
set_option maxRecDepth 100000 in
theorem d_keepAt_10 (l : Launch) (G : va_G) (cA : zCA) (a : Nat) (c_a : Nat → Int32) (i : Int32) (v : Int32) : zCv l yX11_keepAt cX11_keepAt 3 none ({ frames := 0, cells := 0, slots := 0, locals := 0 }) G cA [.ref a, .int i, .int v] [(a, .inl (cA.1 0, 10, .inl c_a))] (S := (Nat → Int32)) (fun (u : (Nat → Int32)) => (u = (F_keepAt_10 c_a i v)) ∧ (True)) (fun (u : (Nat → Int32)) => [(a, .inl (cA.1 0, 10, .inl u))]) 0 0 := by
  refine z_start2v (own := RX11) (by decide) (Nat.le_of_ble_eq_true rfl) rfl ?_
  intro p e s m args below meth c A ls Q hx hb hml hts hown hK hE hT hP hD hS hA hl hret
  have hl : lv_has ls 3 [(0, .ref a), (1, .int i), (2, .int v)] := hl
  refine lv_iload_n hx hb dX11_keepAt_0 rfl (lv_at hl 1 rfl) ?_
  refine lv_if_lt (tgt := 14) hx hb dX11_keepAt_1 (by decide) (fun c_1 => ?_) (fun c_1 => ?_)
  · have b_2 := z_b3 c_1 (K := 0) (by decide +kernel)
    have hX_3 : F_keepAt_10 c_a i v = (c_a : (Nat → Int32)) := by
      refine (F_keepAt_10_s ..).trans ?_
      refine (if_pos c_1).trans ?_
      exact rfl
    exact hret _ _ _ _ _ c_a [0] hP hD hS rfl (by decide) dX11_keepAt_14 ⟨(congrArg (fun z9 => z9) hX_3).symm, trivial⟩
  · have b_4 := z_b4 c_1 (K := 0) (by decide +kernel)
    refine lv_iload_n hx hb dX11_keepAt_4 rfl (lv_at hl 1 rfl) ?_
    refine lv_aload_n hx hb dX11_keepAt_5 rfl (lv_at hl 0 rfl) ?_
    refine va_alen (v := 10) hx hb hK hP 0 0 rfl rfl (show Int32.ofNat 10 = 10 by decide +kernel) dX11_keepAt_6 ?_
    refine lv_icmp_ge (tgt := 14) hx hb dX11_keepAt_7 (by decide) (fun c_5 => ?_) (fun c_5 => ?_)
    · have b_6 := z_b1 c_5 (K := 10) (by decide +kernel)
      have hX_7 : F_keepAt_10 c_a i v = (c_a : (Nat → Int32)) := by
        refine (F_keepAt_10_s ..).trans ?_
        refine (if_neg c_1).trans ?_
        refine (if_pos c_5).trans ?_
        exact rfl
      exact hret _ _ _ _ _ c_a [0] hP hD hS rfl (by decide) dX11_keepAt_14 ⟨(congrArg (fun z9 => z9) hX_7).symm, trivial⟩
    · have b_8 := z_b2 c_5 (K := 10) (by decide +kernel)
      refine lv_aload_n hx hb dX11_keepAt_10 rfl (lv_at hl 0 rfl) ?_
      refine lv_iload_n hx hb dX11_keepAt_11 rfl (lv_at hl 1 rfl) ?_
      refine lv_iload_n hx hb dX11_keepAt_12 rfl (lv_at hl 2 rfl) ?_
      refine va_iast hx hb hK hP hD hS 0 0 rfl rfl (z_inN (by omega) (by omega)) dX11_keepAt_13 (fun H locs hP hD hS => ?_)
      have hP : va_P G vwCl [(a, .inl (cA.1 0, 10, .inl (upd c_a (i : Int32).toNatClampNeg v)))] H := hP
      have hD : va_D A [(a, .inl (cA.1 0, 10, .inl (upd c_a (i : Int32).toNatClampNeg v)))] := hD
      generalize hg_g_9 : (upd c_a (i : Int32).toNatClampNeg v) = g_9 at hP hD
      have hX_10 : F_keepAt_10 c_a i v = (g_9 : (Nat → Int32)) := by
        refine (F_keepAt_10_s ..).trans ?_
        refine (if_neg c_1).trans ?_
        refine (if_neg c_5).trans ?_
        try (extract_lets -merge -useContext +onlyGivenNames y9; have e9 : g_9 = y9 := (by first | exact hg_g_9 | exact hg_g_9.symm); clear_value y9; subst e9)
        exact rfl
      exact hret _ _ _ _ _ g_9 [0] hP hD hS rfl (by decide) dX11_keepAt_14 ⟨(congrArg (fun z9 => z9) hX_10).symm, trivial⟩
set_option maxHeartbeats 40000000 in
set_option maxRecDepth 100000 in
theorem d_at_12 (l : Launch) (G : va_G) (cA : zCA) (a : Nat) (c_a : Nat → Int32) (i : Int32) : zCi l yX11_at cX11_at 2 (some .int) ({ frames := 0, cells := 0, slots := 0, locals := 0 }) G cA [.ref a, .int i] [(a, .inl (cA.1 0, 12, .inl c_a))] (S := Unit) (fun (r : Int32) (u : Unit) => (r = (F_at_12 c_a i)) ∧ (True)) (fun (u : Unit) => [(a, .inl (cA.1 0, 12, .inl c_a))]) 0 0 := by
  refine z_start2i (own := RX11) (by decide) (Nat.le_of_ble_eq_true rfl) rfl ?_
  intro p e s m args below meth c A ls Q hx hb hml hts hown hK hE hT hP hD hS hA hl hret
  have hl : lv_has ls 2 [(0, .ref a), (1, .int i)] := hl
  refine lv_iload_n hx hb dX11_at_0 rfl (lv_at hl 1 rfl) ?_
  refine lv_if_lt (tgt := 16) hx hb dX11_at_1 (by decide) (fun c_1 => ?_) (fun c_1 => ?_)
  · have b_2 := z_b3 c_1 (K := 0) (by decide +kernel)
    refine lv_iconst (v := (-1)) hx hb dX11_at_16 (by decide) ?_
    have hX_3 : F_at_12 c_a i = ((-1 : Int32) : Int32) := by
      refine (F_at_12_s ..).trans ?_
      refine (if_pos c_1).trans ?_
      exact rfl
    exact hret _ _ _ _ _ _ () [0] hP hD hS rfl (by decide) dX11_at_17 ⟨(congrArg (fun z9 => z9) hX_3).symm, trivial⟩
  · have b_4 := z_b4 c_1 (K := 0) (by decide +kernel)
    refine lv_iload_n hx hb dX11_at_4 rfl (lv_at hl 1 rfl) ?_
    refine lv_aload_n hx hb dX11_at_5 rfl (lv_at hl 0 rfl) ?_
    refine va_alen (v := 12) hx hb hK hP 0 0 rfl rfl (show Int32.ofNat 12 = 12 by decide +kernel) dX11_at_6 ?_
    refine lv_icmp_ge (tgt := 16) hx hb dX11_at_7 (by decide) (fun c_5 => ?_) (fun c_5 => ?_)
    · have b_6 := z_b1 c_5 (K := 12) (by decide +kernel)
      refine lv_iconst (v := (-1)) hx hb dX11_at_16 (by decide) ?_
      have hX_7 : F_at_12 c_a i = ((-1 : Int32) : Int32) := by
        refine (F_at_12_s ..).trans ?_
        refine (if_neg c_1).trans ?_
        refine (if_pos c_5).trans ?_
        exact rfl
      exact hret _ _ _ _ _ _ () [0] hP hD hS rfl (by decide) dX11_at_17 ⟨(congrArg (fun z9 => z9) hX_7).symm, trivial⟩
    · have b_8 := z_b2 c_5 (K := 12) (by decide +kernel)
      refine lv_aload_n hx hb dX11_at_10 rfl (lv_at hl 0 rfl) ?_
      refine lv_iload_n hx hb dX11_at_11 rfl (lv_at hl 1 rfl) ?_
      refine va_iald hx hb hK hP 0 0 rfl rfl (z_inN (by omega) (by omega)) dX11_at_12 ?_
      refine lv_topi (fun x_9 he_x_9 => ?_)
      refine lv_goto (tgt := 17) hx hb dX11_at_13 (by decide) ?_
      have hX_10 : F_at_12 c_a i = (x_9 : Int32) := by
        refine (F_at_12_s ..).trans ?_
        refine (if_neg c_1).trans ?_
        refine (if_neg c_5).trans ?_
        try (extract_lets -merge -useContext +onlyGivenNames y9; have e9 : x_9 = y9 := (by first | exact he_x_9 | exact he_x_9.symm); clear_value y9; subst e9)
        exact rfl
      exact hret _ _ _ _ _ _ () [0] hP hD hS rfl (by decide) dX11_at_17 ⟨(congrArg (fun z9 => z9) hX_10).symm, trivial⟩
set_option maxHeartbeats 40000000 in
set_option maxRecDepth 100000 in
theorem d_keepAt_12 (l : Launch) (G : va_G) (cA : zCA) (a : Nat) (c_a : Nat → Int32) (i : Int32) (v : Int32) : zCv l yX11_keepAt cX11_keepAt 3 none ({ frames := 0, cells := 0, slots := 0, locals := 0 }) G cA [.ref a, .int i, .int v] [(a, .inl (cA.1 0, 12, .inl c_a))] (S := (Nat → Int32)) (fun (u : (Nat → Int32)) => (u = (F_keepAt_12 c_a i v)) ∧ (True)) (fun (u : (Nat → Int32)) => [(a, .inl (cA.1 0, 12, .inl u))]) 0 0 := by
  refine z_start2v (own := RX11) (by decide) (Nat.le_of_ble_eq_true rfl) rfl ?_
  intro p e s m args below meth c A ls Q hx hb hml hts hown hK hE hT hP hD hS hA hl hret
  have hl : lv_has ls 3 [(0, .ref a), (1, .int i), (2, .int v)] := hl
  refine lv_iload_n hx hb dX11_keepAt_0 rfl (lv_at hl 1 rfl) ?_
  refine lv_if_lt (tgt := 14) hx hb dX11_keepAt_1 (by decide) (fun c_1 => ?_) (fun c_1 => ?_)
  · have b_2 := z_b3 c_1 (K := 0) (by decide +kernel)
    have hX_3 : F_keepAt_12 c_a i v = (c_a : (Nat → Int32)) := by
      refine (F_keepAt_12_s ..).trans ?_
      refine (if_pos c_1).trans ?_
      exact rfl
    exact hret _ _ _ _ _ c_a [0] hP hD hS rfl (by decide) dX11_keepAt_14 ⟨(congrArg (fun z9 => z9) hX_3).symm, trivial⟩
  · have b_4 := z_b4 c_1 (K := 0) (by decide +kernel)
    refine lv_iload_n hx hb dX11_keepAt_4 rfl (lv_at hl 1 rfl) ?_
    refine lv_aload_n hx hb dX11_keepAt_5 rfl (lv_at hl 0 rfl) ?_
    refine va_alen (v := 12) hx hb hK hP 0 0 rfl rfl (show Int32.ofNat 12 = 12 by decide +kernel) dX11_keepAt_6 ?_
    refine lv_icmp_ge (tgt := 14) hx hb dX11_keepAt_7 (by decide) (fun c_5 => ?_) (fun c_5 => ?_)
    · have b_6 := z_b1 c_5 (K := 12) (by decide +kernel)
      have hX_7 : F_keepAt_12 c_a i v = (c_a : (Nat → Int32)) := by
        refine (F_keepAt_12_s ..).trans ?_
        refine (if_neg c_1).trans ?_
        refine (if_pos c_5).trans ?_
        exact rfl
      exact hret _ _ _ _ _ c_a [0] hP hD hS rfl (by decide) dX11_keepAt_14 ⟨(congrArg (fun z9 => z9) hX_7).symm, trivial⟩
    · have b_8 := z_b2 c_5 (K := 12) (by decide +kernel)
      refine lv_aload_n hx hb dX11_keepAt_10 rfl (lv_at hl 0 rfl) ?_
      refine lv_iload_n hx hb dX11_keepAt_11 rfl (lv_at hl 1 rfl) ?_
      refine lv_iload_n hx hb dX11_keepAt_12 rfl (lv_at hl 2 rfl) ?_
      refine va_iast hx hb hK hP hD hS 0 0 rfl rfl (z_inN (by omega) (by omega)) dX11_keepAt_13 (fun H locs hP hD hS => ?_)
      have hP : va_P G vwCl [(a, .inl (cA.1 0, 12, .inl (upd c_a (i : Int32).toNatClampNeg v)))] H := hP
      have hD : va_D A [(a, .inl (cA.1 0, 12, .inl (upd c_a (i : Int32).toNatClampNeg v)))] := hD
      generalize hg_g_9 : (upd c_a (i : Int32).toNatClampNeg v) = g_9 at hP hD
      have hX_10 : F_keepAt_12 c_a i v = (g_9 : (Nat → Int32)) := by
        refine (F_keepAt_12_s ..).trans ?_
        refine (if_neg c_1).trans ?_
        refine (if_neg c_5).trans ?_
        try (extract_lets -merge -useContext +onlyGivenNames y9; have e9 : g_9 = y9 := (by first | exact hg_g_9 | exact hg_g_9.symm); clear_value y9; subst e9)
        exact rfl
      exact hret _ _ _ _ _ g_9 [0] hP hD hS rfl (by decide) dX11_keepAt_14 ⟨(congrArg (fun z9 => z9) hX_10).symm, trivial⟩
set_option maxHeartbeats 40000000 in
set_option maxRecDepth 100000 in
theorem d_at_20 (l : Launch) (G : va_G) (cA : zCA) (a : Nat) (c_a : Nat → Int32) (i : Int32) : zCi l yX11_at cX11_at 2 (some .int) ({ frames := 0, cells := 0, slots := 0, locals := 0 }) G cA [.ref a, .int i] [(a, .inl (cA.1 0, 20, .inl c_a))] (S := Unit) (fun (r : Int32) (u : Unit) => (r = (F_at_20 c_a i)) ∧ (True)) (fun (u : Unit) => [(a, .inl (cA.1 0, 20, .inl c_a))]) 0 0 := by
  refine z_start2i (own := RX11) (by decide) (Nat.le_of_ble_eq_true rfl) rfl ?_
  intro p e s m args below meth c A ls Q hx hb hml hts hown hK hE hT hP hD hS hA hl hret
  have hl : lv_has ls 2 [(0, .ref a), (1, .int i)] := hl
  refine lv_iload_n hx hb dX11_at_0 rfl (lv_at hl 1 rfl) ?_
  refine lv_if_lt (tgt := 16) hx hb dX11_at_1 (by decide) (fun c_1 => ?_) (fun c_1 => ?_)
  · have b_2 := z_b3 c_1 (K := 0) (by decide +kernel)
    refine lv_iconst (v := (-1)) hx hb dX11_at_16 (by decide) ?_
    have hX_3 : F_at_20 c_a i = ((-1 : Int32) : Int32) := by
      refine (F_at_20_s ..).trans ?_
      refine (if_pos c_1).trans ?_
      exact rfl
    exact hret _ _ _ _ _ _ () [0] hP hD hS rfl (by decide) dX11_at_17 ⟨(congrArg (fun z9 => z9) hX_3).symm, trivial⟩
  · have b_4 := z_b4 c_1 (K := 0) (by decide +kernel)
    refine lv_iload_n hx hb dX11_at_4 rfl (lv_at hl 1 rfl) ?_
    refine lv_aload_n hx hb dX11_at_5 rfl (lv_at hl 0 rfl) ?_
    refine va_alen (v := 20) hx hb hK hP 0 0 rfl rfl (show Int32.ofNat 20 = 20 by decide +kernel) dX11_at_6 ?_
    refine lv_icmp_ge (tgt := 16) hx hb dX11_at_7 (by decide) (fun c_5 => ?_) (fun c_5 => ?_)
    · have b_6 := z_b1 c_5 (K := 20) (by decide +kernel)
      refine lv_iconst (v := (-1)) hx hb dX11_at_16 (by decide) ?_
      have hX_7 : F_at_20 c_a i = ((-1 : Int32) : Int32) := by
        refine (F_at_20_s ..).trans ?_
        refine (if_neg c_1).trans ?_
        refine (if_pos c_5).trans ?_
        exact rfl
      exact hret _ _ _ _ _ _ () [0] hP hD hS rfl (by decide) dX11_at_17 ⟨(congrArg (fun z9 => z9) hX_7).symm, trivial⟩
    · have b_8 := z_b2 c_5 (K := 20) (by decide +kernel)
      refine lv_aload_n hx hb dX11_at_10 rfl (lv_at hl 0 rfl) ?_
      refine lv_iload_n hx hb dX11_at_11 rfl (lv_at hl 1 rfl) ?_
      refine va_iald hx hb hK hP 0 0 rfl rfl (z_inN (by omega) (by omega)) dX11_at_12 ?_
      refine lv_topi (fun x_9 he_x_9 => ?_)
      refine lv_goto (tgt := 17) hx hb dX11_at_13 (by decide) ?_
      have hX_10 : F_at_20 c_a i = (x_9 : Int32) := by
        refine (F_at_20_s ..).trans ?_
        refine (if_neg c_1).trans ?_
        refine (if_neg c_5).trans ?_
        try (extract_lets -merge -useContext +onlyGivenNames y9; have e9 : x_9 = y9 := (by first | exact he_x_9 | exact he_x_9.symm); clear_value y9; subst e9)
        exact rfl
      exact hret _ _ _ _ _ _ () [0] hP hD hS rfl (by decide) dX11_at_17 ⟨(congrArg (fun z9 => z9) hX_10).symm, trivial⟩
set_option maxHeartbeats 40000000 in
set_option maxRecDepth 100000 in
theorem d_keepAt_20 (l : Launch) (G : va_G) (cA : zCA) (a : Nat) (c_a : Nat → Int32) (i : Int32) (v : Int32) : zCv l yX11_keepAt cX11_keepAt 3 none ({ frames := 0, cells := 0, slots := 0, locals := 0 }) G cA [.ref a, .int i, .int v] [(a, .inl (cA.1 0, 20, .inl c_a))] (S := (Nat → Int32)) (fun (u : (Nat → Int32)) => (u = (F_keepAt_20 c_a i v)) ∧ (True)) (fun (u : (Nat → Int32)) => [(a, .inl (cA.1 0, 20, .inl u))]) 0 0 := by
  refine z_start2v (own := RX11) (by decide) (Nat.le_of_ble_eq_true rfl) rfl ?_
  intro p e s m args below meth c A ls Q hx hb hml hts hown hK hE hT hP hD hS hA hl hret
  have hl : lv_has ls 3 [(0, .ref a), (1, .int i), (2, .int v)] := hl
  refine lv_iload_n hx hb dX11_keepAt_0 rfl (lv_at hl 1 rfl) ?_
  refine lv_if_lt (tgt := 14) hx hb dX11_keepAt_1 (by decide) (fun c_1 => ?_) (fun c_1 => ?_)
  · have b_2 := z_b3 c_1 (K := 0) (by decide +kernel)
    have hX_3 : F_keepAt_20 c_a i v = (c_a : (Nat → Int32)) := by
      refine (F_keepAt_20_s ..).trans ?_
      refine (if_pos c_1).trans ?_
      exact rfl
    exact hret _ _ _ _ _ c_a [0] hP hD hS rfl (by decide) dX11_keepAt_14 ⟨(congrArg (fun z9 => z9) hX_3).symm, trivial⟩
  · have b_4 := z_b4 c_1 (K := 0) (by decide +kernel)
    refine lv_iload_n hx hb dX11_keepAt_4 rfl (lv_at hl 1 rfl) ?_
    refine lv_aload_n hx hb dX11_keepAt_5 rfl (lv_at hl 0 rfl) ?_
    refine va_alen (v := 20) hx hb hK hP 0 0 rfl rfl (show Int32.ofNat 20 = 20 by decide +kernel) dX11_keepAt_6 ?_
    refine lv_icmp_ge (tgt := 14) hx hb dX11_keepAt_7 (by decide) (fun c_5 => ?_) (fun c_5 => ?_)
    · have b_6 := z_b1 c_5 (K := 20) (by decide +kernel)
      have hX_7 : F_keepAt_20 c_a i v = (c_a : (Nat → Int32)) := by
        refine (F_keepAt_20_s ..).trans ?_
        refine (if_neg c_1).trans ?_
        refine (if_pos c_5).trans ?_
        exact rfl
      exact hret _ _ _ _ _ c_a [0] hP hD hS rfl (by decide) dX11_keepAt_14 ⟨(congrArg (fun z9 => z9) hX_7).symm, trivial⟩
    · have b_8 := z_b2 c_5 (K := 20) (by decide +kernel)
      refine lv_aload_n hx hb dX11_keepAt_10 rfl (lv_at hl 0 rfl) ?_
      refine lv_iload_n hx hb dX11_keepAt_11 rfl (lv_at hl 1 rfl) ?_
      refine lv_iload_n hx hb dX11_keepAt_12 rfl (lv_at hl 2 rfl) ?_
      refine va_iast hx hb hK hP hD hS 0 0 rfl rfl (z_inN (by omega) (by omega)) dX11_keepAt_13 (fun H locs hP hD hS => ?_)
      have hP : va_P G vwCl [(a, .inl (cA.1 0, 20, .inl (upd c_a (i : Int32).toNatClampNeg v)))] H := hP
      have hD : va_D A [(a, .inl (cA.1 0, 20, .inl (upd c_a (i : Int32).toNatClampNeg v)))] := hD
      generalize hg_g_9 : (upd c_a (i : Int32).toNatClampNeg v) = g_9 at hP hD
      have hX_10 : F_keepAt_20 c_a i v = (g_9 : (Nat → Int32)) := by
        refine (F_keepAt_20_s ..).trans ?_
        refine (if_neg c_1).trans ?_
        refine (if_neg c_5).trans ?_
        try (extract_lets -merge -useContext +onlyGivenNames y9; have e9 : g_9 = y9 := (by first | exact hg_g_9 | exact hg_g_9.symm); clear_value y9; subst e9)
        exact rfl
      exact hret _ _ _ _ _ g_9 [0] hP hD hS rfl (by decide) dX11_keepAt_14 ⟨(congrArg (fun z9 => z9) hX_10).symm, trivial⟩
set_option maxHeartbeats 40000000 in
set_option maxRecDepth 100000 in
theorem d_at_30 (l : Launch) (G : va_G) (cA : zCA) (a : Nat) (c_a : Nat → Int32) (i : Int32) : zCi l yX11_at cX11_at 2 (some .int) ({ frames := 0, cells := 0, slots := 0, locals := 0 }) G cA [.ref a, .int i] [(a, .inl (cA.1 0, 30, .inl c_a))] (S := Unit) (fun (r : Int32) (u : Unit) => (r = (F_at_30 c_a i)) ∧ (True)) (fun (u : Unit) => [(a, .inl (cA.1 0, 30, .inl c_a))]) 0 0 := by
  refine z_start2i (own := RX11) (by decide) (Nat.le_of_ble_eq_true rfl) rfl ?_
  intro p e s m args below meth c A ls Q hx hb hml hts hown hK hE hT hP hD hS hA hl hret
  have hl : lv_has ls 2 [(0, .ref a), (1, .int i)] := hl
  refine lv_iload_n hx hb dX11_at_0 rfl (lv_at hl 1 rfl) ?_
  refine lv_if_lt (tgt := 16) hx hb dX11_at_1 (by decide) (fun c_1 => ?_) (fun c_1 => ?_)
  · have b_2 := z_b3 c_1 (K := 0) (by decide +kernel)
    refine lv_iconst (v := (-1)) hx hb dX11_at_16 (by decide) ?_
    have hX_3 : F_at_30 c_a i = ((-1 : Int32) : Int32) := by
      refine (F_at_30_s ..).trans ?_
      refine (if_pos c_1).trans ?_
      exact rfl
    exact hret _ _ _ _ _ _ () [0] hP hD hS rfl (by decide) dX11_at_17 ⟨(congrArg (fun z9 => z9) hX_3).symm, trivial⟩
  · have b_4 := z_b4 c_1 (K := 0) (by decide +kernel)
    refine lv_iload_n hx hb dX11_at_4 rfl (lv_at hl 1 rfl) ?_
    refine lv_aload_n hx hb dX11_at_5 rfl (lv_at hl 0 rfl) ?_
    refine va_alen (v := 30) hx hb hK hP 0 0 rfl rfl (show Int32.ofNat 30 = 30 by decide +kernel) dX11_at_6 ?_
    refine lv_icmp_ge (tgt := 16) hx hb dX11_at_7 (by decide) (fun c_5 => ?_) (fun c_5 => ?_)
    · have b_6 := z_b1 c_5 (K := 30) (by decide +kernel)
      refine lv_iconst (v := (-1)) hx hb dX11_at_16 (by decide) ?_
      have hX_7 : F_at_30 c_a i = ((-1 : Int32) : Int32) := by
        refine (F_at_30_s ..).trans ?_
        refine (if_neg c_1).trans ?_
        refine (if_pos c_5).trans ?_
        exact rfl
      exact hret _ _ _ _ _ _ () [0] hP hD hS rfl (by decide) dX11_at_17 ⟨(congrArg (fun z9 => z9) hX_7).symm, trivial⟩
    · have b_8 := z_b2 c_5 (K := 30) (by decide +kernel)
      refine lv_aload_n hx hb dX11_at_10 rfl (lv_at hl 0 rfl) ?_
      refine lv_iload_n hx hb dX11_at_11 rfl (lv_at hl 1 rfl) ?_
      refine va_iald hx hb hK hP 0 0 rfl rfl (z_inN (by omega) (by omega)) dX11_at_12 ?_
      refine lv_topi (fun x_9 he_x_9 => ?_)
      refine lv_goto (tgt := 17) hx hb dX11_at_13 (by decide) ?_
      have hX_10 : F_at_30 c_a i = (x_9 : Int32) := by
        refine (F_at_30_s ..).trans ?_
        refine (if_neg c_1).trans ?_
        refine (if_neg c_5).trans ?_
        try (extract_lets -merge -useContext +onlyGivenNames y9; have e9 : x_9 = y9 := (by first | exact he_x_9 | exact he_x_9.symm); clear_value y9; subst e9)
        exact rfl
      exact hret _ _ _ _ _ _ () [0] hP hD hS rfl (by decide) dX11_at_17 ⟨(congrArg (fun z9 => z9) hX_10).symm, trivial⟩
set_option maxHeartbeats 40000000 in
set_option maxRecDepth 100000 in
theorem d_keepAt_30 (l : Launch) (G : va_G) (cA : zCA) (a : Nat) (c_a : Nat → Int32) (i : Int32) (v : Int32) : zCv l yX11_keepAt cX11_keepAt 3 none ({ frames := 0, cells := 0, slots := 0, locals := 0 }) G cA [.ref a, .int i, .int v] [(a, .inl (cA.1 0, 30, .inl c_a))] (S := (Nat → Int32)) (fun (u : (Nat → Int32)) => (u = (F_keepAt_30 c_a i v)) ∧ (True)) (fun (u : (Nat → Int32)) => [(a, .inl (cA.1 0, 30, .inl u))]) 0 0 := by
  refine z_start2v (own := RX11) (by decide) (Nat.le_of_ble_eq_true rfl) rfl ?_
  intro p e s m args below meth c A ls Q hx hb hml hts hown hK hE hT hP hD hS hA hl hret
  have hl : lv_has ls 3 [(0, .ref a), (1, .int i), (2, .int v)] := hl
  refine lv_iload_n hx hb dX11_keepAt_0 rfl (lv_at hl 1 rfl) ?_
  refine lv_if_lt (tgt := 14) hx hb dX11_keepAt_1 (by decide) (fun c_1 => ?_) (fun c_1 => ?_)
  · have b_2 := z_b3 c_1 (K := 0) (by decide +kernel)
    have hX_3 : F_keepAt_30 c_a i v = (c_a : (Nat → Int32)) := by
      refine (F_keepAt_30_s ..).trans ?_
      refine (if_pos c_1).trans ?_
      exact rfl
    exact hret _ _ _ _ _ c_a [0] hP hD hS rfl (by decide) dX11_keepAt_14 ⟨(congrArg (fun z9 => z9) hX_3).symm, trivial⟩
  · have b_4 := z_b4 c_1 (K := 0) (by decide +kernel)
    refine lv_iload_n hx hb dX11_keepAt_4 rfl (lv_at hl 1 rfl) ?_
    refine lv_aload_n hx hb dX11_keepAt_5 rfl (lv_at hl 0 rfl) ?_
    refine va_alen (v := 30) hx hb hK hP 0 0 rfl rfl (show Int32.ofNat 30 = 30 by decide +kernel) dX11_keepAt_6 ?_
    refine lv_icmp_ge (tgt := 14) hx hb dX11_keepAt_7 (by decide) (fun c_5 => ?_) (fun c_5 => ?_)
    · have b_6 := z_b1 c_5 (K := 30) (by decide +kernel)
      have hX_7 : F_keepAt_30 c_a i v = (c_a : (Nat → Int32)) := by
        refine (F_keepAt_30_s ..).trans ?_
        refine (if_neg c_1).trans ?_
        refine (if_pos c_5).trans ?_
        exact rfl
      exact hret _ _ _ _ _ c_a [0] hP hD hS rfl (by decide) dX11_keepAt_14 ⟨(congrArg (fun z9 => z9) hX_7).symm, trivial⟩
    · have b_8 := z_b2 c_5 (K := 30) (by decide +kernel)
      refine lv_aload_n hx hb dX11_keepAt_10 rfl (lv_at hl 0 rfl) ?_
      refine lv_iload_n hx hb dX11_keepAt_11 rfl (lv_at hl 1 rfl) ?_
      refine lv_iload_n hx hb dX11_keepAt_12 rfl (lv_at hl 2 rfl) ?_
      refine va_iast hx hb hK hP hD hS 0 0 rfl rfl (z_inN (by omega) (by omega)) dX11_keepAt_13 (fun H locs hP hD hS => ?_)
      have hP : va_P G vwCl [(a, .inl (cA.1 0, 30, .inl (upd c_a (i : Int32).toNatClampNeg v)))] H := hP
      have hD : va_D A [(a, .inl (cA.1 0, 30, .inl (upd c_a (i : Int32).toNatClampNeg v)))] := hD
      generalize hg_g_9 : (upd c_a (i : Int32).toNatClampNeg v) = g_9 at hP hD
      have hX_10 : F_keepAt_30 c_a i v = (g_9 : (Nat → Int32)) := by
        refine (F_keepAt_30_s ..).trans ?_
        refine (if_neg c_1).trans ?_
        refine (if_neg c_5).trans ?_
        try (extract_lets -merge -useContext +onlyGivenNames y9; have e9 : g_9 = y9 := (by first | exact hg_g_9 | exact hg_g_9.symm); clear_value y9; subst e9)
        exact rfl
      exact hret _ _ _ _ _ g_9 [0] hP hD hS rfl (by decide) dX11_keepAt_14 ⟨(congrArg (fun z9 => z9) hX_10).symm, trivial⟩
set_option maxHeartbeats 40000000 in
set_option maxRecDepth 100000 in
theorem d_at_48 (l : Launch) (G : va_G) (cA : zCA) (a : Nat) (c_a : Nat → Int32) (i : Int32) : zCi l yX11_at cX11_at 2 (some .int) ({ frames := 0, cells := 0, slots := 0, locals := 0 }) G cA [.ref a, .int i] [(a, .inl (cA.1 0, 48, .inl c_a))] (S := Unit) (fun (r : Int32) (u : Unit) => (r = (F_at_48 c_a i)) ∧ (True)) (fun (u : Unit) => [(a, .inl (cA.1 0, 48, .inl c_a))]) 0 0 := by
  refine z_start2i (own := RX11) (by decide) (Nat.le_of_ble_eq_true rfl) rfl ?_
  intro p e s m args below meth c A ls Q hx hb hml hts hown hK hE hT hP hD hS hA hl hret
  have hl : lv_has ls 2 [(0, .ref a), (1, .int i)] := hl
  refine lv_iload_n hx hb dX11_at_0 rfl (lv_at hl 1 rfl) ?_
  refine lv_if_lt (tgt := 16) hx hb dX11_at_1 (by decide) (fun c_1 => ?_) (fun c_1 => ?_)
  · have b_2 := z_b3 c_1 (K := 0) (by decide +kernel)
    refine lv_iconst (v := (-1)) hx hb dX11_at_16 (by decide) ?_
    have hX_3 : F_at_48 c_a i = ((-1 : Int32) : Int32) := by
      refine (F_at_48_s ..).trans ?_
      refine (if_pos c_1).trans ?_
      exact rfl
    exact hret _ _ _ _ _ _ () [0] hP hD hS rfl (by decide) dX11_at_17 ⟨(congrArg (fun z9 => z9) hX_3).symm, trivial⟩
  · have b_4 := z_b4 c_1 (K := 0) (by decide +kernel)
    refine lv_iload_n hx hb dX11_at_4 rfl (lv_at hl 1 rfl) ?_
    refine lv_aload_n hx hb dX11_at_5 rfl (lv_at hl 0 rfl) ?_
    refine va_alen (v := 48) hx hb hK hP 0 0 rfl rfl (show Int32.ofNat 48 = 48 by decide +kernel) dX11_at_6 ?_
    refine lv_icmp_ge (tgt := 16) hx hb dX11_at_7 (by decide) (fun c_5 => ?_) (fun c_5 => ?_)
    · have b_6 := z_b1 c_5 (K := 48) (by decide +kernel)
      refine lv_iconst (v := (-1)) hx hb dX11_at_16 (by decide) ?_
      have hX_7 : F_at_48 c_a i = ((-1 : Int32) : Int32) := by
        refine (F_at_48_s ..).trans ?_
        refine (if_neg c_1).trans ?_
        refine (if_pos c_5).trans ?_
        exact rfl
      exact hret _ _ _ _ _ _ () [0] hP hD hS rfl (by decide) dX11_at_17 ⟨(congrArg (fun z9 => z9) hX_7).symm, trivial⟩
    · have b_8 := z_b2 c_5 (K := 48) (by decide +kernel)
      refine lv_aload_n hx hb dX11_at_10 rfl (lv_at hl 0 rfl) ?_
      refine lv_iload_n hx hb dX11_at_11 rfl (lv_at hl 1 rfl) ?_
      refine va_iald hx hb hK hP 0 0 rfl rfl (z_inN (by omega) (by omega)) dX11_at_12 ?_
      refine lv_topi (fun x_9 he_x_9 => ?_)
      refine lv_goto (tgt := 17) hx hb dX11_at_13 (by decide) ?_
      have hX_10 : F_at_48 c_a i = (x_9 : Int32) := by
        refine (F_at_48_s ..).trans ?_
        refine (if_neg c_1).trans ?_
        refine (if_neg c_5).trans ?_
        try (extract_lets -merge -useContext +onlyGivenNames y9; have e9 : x_9 = y9 := (by first | exact he_x_9 | exact he_x_9.symm); clear_value y9; subst e9)
        exact rfl
      exact hret _ _ _ _ _ _ () [0] hP hD hS rfl (by decide) dX11_at_17 ⟨(congrArg (fun z9 => z9) hX_10).symm, trivial⟩
set_option maxHeartbeats 40000000 in
set_option maxRecDepth 100000 in
theorem d_keepAt_48 (l : Launch) (G : va_G) (cA : zCA) (a : Nat) (c_a : Nat → Int32) (i : Int32) (v : Int32) : zCv l yX11_keepAt cX11_keepAt 3 none ({ frames := 0, cells := 0, slots := 0, locals := 0 }) G cA [.ref a, .int i, .int v] [(a, .inl (cA.1 0, 48, .inl c_a))] (S := (Nat → Int32)) (fun (u : (Nat → Int32)) => (u = (F_keepAt_48 c_a i v)) ∧ (True)) (fun (u : (Nat → Int32)) => [(a, .inl (cA.1 0, 48, .inl u))]) 0 0 := by
  refine z_start2v (own := RX11) (by decide) (Nat.le_of_ble_eq_true rfl) rfl ?_
  intro p e s m args below meth c A ls Q hx hb hml hts hown hK hE hT hP hD hS hA hl hret
  have hl : lv_has ls 3 [(0, .ref a), (1, .int i), (2, .int v)] := hl
  refine lv_iload_n hx hb dX11_keepAt_0 rfl (lv_at hl 1 rfl) ?_
  refine lv_if_lt (tgt := 14) hx hb dX11_keepAt_1 (by decide) (fun c_1 => ?_) (fun c_1 => ?_)
  · have b_2 := z_b3 c_1 (K := 0) (by decide +kernel)
    have hX_3 : F_keepAt_48 c_a i v = (c_a : (Nat → Int32)) := by
      refine (F_keepAt_48_s ..).trans ?_
      refine (if_pos c_1).trans ?_
      exact rfl
    exact hret _ _ _ _ _ c_a [0] hP hD hS rfl (by decide) dX11_keepAt_14 ⟨(congrArg (fun z9 => z9) hX_3).symm, trivial⟩
  · have b_4 := z_b4 c_1 (K := 0) (by decide +kernel)
    refine lv_iload_n hx hb dX11_keepAt_4 rfl (lv_at hl 1 rfl) ?_
    refine lv_aload_n hx hb dX11_keepAt_5 rfl (lv_at hl 0 rfl) ?_
    refine va_alen (v := 48) hx hb hK hP 0 0 rfl rfl (show Int32.ofNat 48 = 48 by decide +kernel) dX11_keepAt_6 ?_
    refine lv_icmp_ge (tgt := 14) hx hb dX11_keepAt_7 (by decide) (fun c_5 => ?_) (fun c_5 => ?_)
    · have b_6 := z_b1 c_5 (K := 48) (by decide +kernel)
      have hX_7 : F_keepAt_48 c_a i v = (c_a : (Nat → Int32)) := by
        refine (F_keepAt_48_s ..).trans ?_
        refine (if_neg c_1).trans ?_
        refine (if_pos c_5).trans ?_
        exact rfl
      exact hret _ _ _ _ _ c_a [0] hP hD hS rfl (by decide) dX11_keepAt_14 ⟨(congrArg (fun z9 => z9) hX_7).symm, trivial⟩
    · have b_8 := z_b2 c_5 (K := 48) (by decide +kernel)
      refine lv_aload_n hx hb dX11_keepAt_10 rfl (lv_at hl 0 rfl) ?_
      refine lv_iload_n hx hb dX11_keepAt_11 rfl (lv_at hl 1 rfl) ?_
      refine lv_iload_n hx hb dX11_keepAt_12 rfl (lv_at hl 2 rfl) ?_
      refine va_iast hx hb hK hP hD hS 0 0 rfl rfl (z_inN (by omega) (by omega)) dX11_keepAt_13 (fun H locs hP hD hS => ?_)
      have hP : va_P G vwCl [(a, .inl (cA.1 0, 48, .inl (upd c_a (i : Int32).toNatClampNeg v)))] H := hP
      have hD : va_D A [(a, .inl (cA.1 0, 48, .inl (upd c_a (i : Int32).toNatClampNeg v)))] := hD
      generalize hg_g_9 : (upd c_a (i : Int32).toNatClampNeg v) = g_9 at hP hD
      have hX_10 : F_keepAt_48 c_a i v = (g_9 : (Nat → Int32)) := by
        refine (F_keepAt_48_s ..).trans ?_
        refine (if_neg c_1).trans ?_
        refine (if_neg c_5).trans ?_
        try (extract_lets -merge -useContext +onlyGivenNames y9; have e9 : g_9 = y9 := (by first | exact hg_g_9 | exact hg_g_9.symm); clear_value y9; subst e9)
        exact rfl
      exact hret _ _ _ _ _ g_9 [0] hP hD hS rfl (by decide) dX11_keepAt_14 ⟨(congrArg (fun z9 => z9) hX_10).symm, trivial⟩
set_option maxHeartbeats 40000000 in
set_option maxRecDepth 100000 in
theorem d_at_60 (l : Launch) (G : va_G) (cA : zCA) (a : Nat) (c_a : Nat → Int32) (i : Int32) : zCi l yX11_at cX11_at 2 (some .int) ({ frames := 0, cells := 0, slots := 0, locals := 0 }) G cA [.ref a, .int i] [(a, .inl (cA.1 0, 60, .inl c_a))] (S := Unit) (fun (r : Int32) (u : Unit) => (r = (F_at_60 c_a i)) ∧ (True)) (fun (u : Unit) => [(a, .inl (cA.1 0, 60, .inl c_a))]) 0 0 := by
  refine z_start2i (own := RX11) (by decide) (Nat.le_of_ble_eq_true rfl) rfl ?_
  intro p e s m args below meth c A ls Q hx hb hml hts hown hK hE hT hP hD hS hA hl hret
  have hl : lv_has ls 2 [(0, .ref a), (1, .int i)] := hl
  refine lv_iload_n hx hb dX11_at_0 rfl (lv_at hl 1 rfl) ?_
  refine lv_if_lt (tgt := 16) hx hb dX11_at_1 (by decide) (fun c_1 => ?_) (fun c_1 => ?_)
  · have b_2 := z_b3 c_1 (K := 0) (by decide +kernel)
    refine lv_iconst (v := (-1)) hx hb dX11_at_16 (by decide) ?_
    have hX_3 : F_at_60 c_a i = ((-1 : Int32) : Int32) := by
      refine (F_at_60_s ..).trans ?_
      refine (if_pos c_1).trans ?_
      exact rfl
    exact hret _ _ _ _ _ _ () [0] hP hD hS rfl (by decide) dX11_at_17 ⟨(congrArg (fun z9 => z9) hX_3).symm, trivial⟩
  · have b_4 := z_b4 c_1 (K := 0) (by decide +kernel)
    refine lv_iload_n hx hb dX11_at_4 rfl (lv_at hl 1 rfl) ?_
    refine lv_aload_n hx hb dX11_at_5 rfl (lv_at hl 0 rfl) ?_
    refine va_alen (v := 60) hx hb hK hP 0 0 rfl rfl (show Int32.ofNat 60 = 60 by decide +kernel) dX11_at_6 ?_
    refine lv_icmp_ge (tgt := 16) hx hb dX11_at_7 (by decide) (fun c_5 => ?_) (fun c_5 => ?_)
    · have b_6 := z_b1 c_5 (K := 60) (by decide +kernel)
      refine lv_iconst (v := (-1)) hx hb dX11_at_16 (by decide) ?_
      have hX_7 : F_at_60 c_a i = ((-1 : Int32) : Int32) := by
        refine (F_at_60_s ..).trans ?_
        refine (if_neg c_1).trans ?_
        refine (if_pos c_5).trans ?_
        exact rfl
      exact hret _ _ _ _ _ _ () [0] hP hD hS rfl (by decide) dX11_at_17 ⟨(congrArg (fun z9 => z9) hX_7).symm, trivial⟩
    · have b_8 := z_b2 c_5 (K := 60) (by decide +kernel)
      refine lv_aload_n hx hb dX11_at_10 rfl (lv_at hl 0 rfl) ?_
      refine lv_iload_n hx hb dX11_at_11 rfl (lv_at hl 1 rfl) ?_
      refine va_iald hx hb hK hP 0 0 rfl rfl (z_inN (by omega) (by omega)) dX11_at_12 ?_
      refine lv_topi (fun x_9 he_x_9 => ?_)
      refine lv_goto (tgt := 17) hx hb dX11_at_13 (by decide) ?_
      have hX_10 : F_at_60 c_a i = (x_9 : Int32) := by
        refine (F_at_60_s ..).trans ?_
        refine (if_neg c_1).trans ?_
        refine (if_neg c_5).trans ?_
        try (extract_lets -merge -useContext +onlyGivenNames y9; have e9 : x_9 = y9 := (by first | exact he_x_9 | exact he_x_9.symm); clear_value y9; subst e9)
        exact rfl
      exact hret _ _ _ _ _ _ () [0] hP hD hS rfl (by decide) dX11_at_17 ⟨(congrArg (fun z9 => z9) hX_10).symm, trivial⟩
set_option maxHeartbeats 40000000 in
set_option maxRecDepth 100000 in
theorem d_keepAt_60 (l : Launch) (G : va_G) (cA : zCA) (a : Nat) (c_a : Nat → Int32) (i : Int32) (v : Int32) : zCv l yX11_keepAt cX11_keepAt 3 none ({ frames := 0, cells := 0, slots := 0, locals := 0 }) G cA [.ref a, .int i, .int v] [(a, .inl (cA.1 0, 60, .inl c_a))] (S := (Nat → Int32)) (fun (u : (Nat → Int32)) => (u = (F_keepAt_60 c_a i v)) ∧ (True)) (fun (u : (Nat → Int32)) => [(a, .inl (cA.1 0, 60, .inl u))]) 0 0 := by
  refine z_start2v (own := RX11) (by decide) (Nat.le_of_ble_eq_true rfl) rfl ?_
  intro p e s m args below meth c A ls Q hx hb hml hts hown hK hE hT hP hD hS hA hl hret
  have hl : lv_has ls 3 [(0, .ref a), (1, .int i), (2, .int v)] := hl
  refine lv_iload_n hx hb dX11_keepAt_0 rfl (lv_at hl 1 rfl) ?_
  refine lv_if_lt (tgt := 14) hx hb dX11_keepAt_1 (by decide) (fun c_1 => ?_) (fun c_1 => ?_)
  · have b_2 := z_b3 c_1 (K := 0) (by decide +kernel)
    have hX_3 : F_keepAt_60 c_a i v = (c_a : (Nat → Int32)) := by
      refine (F_keepAt_60_s ..).trans ?_
      refine (if_pos c_1).trans ?_
      exact rfl
    exact hret _ _ _ _ _ c_a [0] hP hD hS rfl (by decide) dX11_keepAt_14 ⟨(congrArg (fun z9 => z9) hX_3).symm, trivial⟩
  · have b_4 := z_b4 c_1 (K := 0) (by decide +kernel)
    refine lv_iload_n hx hb dX11_keepAt_4 rfl (lv_at hl 1 rfl) ?_
    refine lv_aload_n hx hb dX11_keepAt_5 rfl (lv_at hl 0 rfl) ?_
    refine va_alen (v := 60) hx hb hK hP 0 0 rfl rfl (show Int32.ofNat 60 = 60 by decide +kernel) dX11_keepAt_6 ?_
    refine lv_icmp_ge (tgt := 14) hx hb dX11_keepAt_7 (by decide) (fun c_5 => ?_) (fun c_5 => ?_)
    · have b_6 := z_b1 c_5 (K := 60) (by decide +kernel)
      have hX_7 : F_keepAt_60 c_a i v = (c_a : (Nat → Int32)) := by
        refine (F_keepAt_60_s ..).trans ?_
        refine (if_neg c_1).trans ?_
        refine (if_pos c_5).trans ?_
        exact rfl
      exact hret _ _ _ _ _ c_a [0] hP hD hS rfl (by decide) dX11_keepAt_14 ⟨(congrArg (fun z9 => z9) hX_7).symm, trivial⟩
    · have b_8 := z_b2 c_5 (K := 60) (by decide +kernel)
      refine lv_aload_n hx hb dX11_keepAt_10 rfl (lv_at hl 0 rfl) ?_
      refine lv_iload_n hx hb dX11_keepAt_11 rfl (lv_at hl 1 rfl) ?_
      refine lv_iload_n hx hb dX11_keepAt_12 rfl (lv_at hl 2 rfl) ?_
      refine va_iast hx hb hK hP hD hS 0 0 rfl rfl (z_inN (by omega) (by omega)) dX11_keepAt_13 (fun H locs hP hD hS => ?_)
      have hP : va_P G vwCl [(a, .inl (cA.1 0, 60, .inl (upd c_a (i : Int32).toNatClampNeg v)))] H := hP
      have hD : va_D A [(a, .inl (cA.1 0, 60, .inl (upd c_a (i : Int32).toNatClampNeg v)))] := hD
      generalize hg_g_9 : (upd c_a (i : Int32).toNatClampNeg v) = g_9 at hP hD
      have hX_10 : F_keepAt_60 c_a i v = (g_9 : (Nat → Int32)) := by
        refine (F_keepAt_60_s ..).trans ?_
        refine (if_neg c_1).trans ?_
        refine (if_neg c_5).trans ?_
        try (extract_lets -merge -useContext +onlyGivenNames y9; have e9 : g_9 = y9 := (by first | exact hg_g_9 | exact hg_g_9.symm); clear_value y9; subst e9)
        exact rfl
      exact hret _ _ _ _ _ g_9 [0] hP hD hS rfl (by decide) dX11_keepAt_14 ⟨(congrArg (fun z9 => z9) hX_10).symm, trivial⟩
set_option maxHeartbeats 40000000 in
set_option maxRecDepth 100000 in
theorem d_longAt_3 (l : Launch) (G : va_G) (cA : zCA) (a : Nat) (c_a : Nat → Int64) (i : Int32) : zCl l yX11_longAt cX11_longAt 2 (some .long) ({ frames := 0, cells := 0, slots := 0, locals := 0 }) G cA [.ref a, .int i] [(a, .inl (cA.1 1, 3, .inr (.inl c_a)))] (S := Unit) (fun (r : Int64) (u : Unit) => (r = (F_longAt_3 c_a i)) ∧ (True)) (fun (u : Unit) => [(a, .inl (cA.1 1, 3, .inr (.inl c_a)))]) 0 0 := by
  refine z_start2l (own := RX11) (by decide) (Nat.le_of_ble_eq_true rfl) rfl ?_
  intro p e s m args below meth c A ls Q hx hb hml hts hown hK hE hT hP hD hS hA hl hret
  have hl : lv_has ls 2 [(0, .ref a), (1, .int i)] := hl
  refine lv_iload_n hx hb dX11_longAt_0 rfl (lv_at hl 1 rfl) ?_
  refine lv_if_lt (tgt := 16) hx hb dX11_longAt_1 (by decide) (fun c_1 => ?_) (fun c_1 => ?_)
  · have b_2 := z_b3 c_1 (K := 0) (by decide +kernel)
    refine lv_lconst (v := 0) hx hb dX11_longAt_16 (by decide) ?_
    have hX_3 : F_longAt_3 c_a i = ((0 : Int64) : Int64) := by
      refine (F_longAt_3_s ..).trans ?_
      refine (if_pos c_1).trans ?_
      exact rfl
    exact hret _ _ _ _ _ _ () [0] hP hD hS rfl (by decide) dX11_longAt_17 ⟨(congrArg (fun z9 => z9) hX_3).symm, trivial⟩
  · have b_4 := z_b4 c_1 (K := 0) (by decide +kernel)
    refine lv_iload_n hx hb dX11_longAt_4 rfl (lv_at hl 1 rfl) ?_
    refine lv_aload_n hx hb dX11_longAt_5 rfl (lv_at hl 0 rfl) ?_
    refine va_alen (v := 3) hx hb hK hP 0 1 rfl rfl (show Int32.ofNat 3 = 3 by decide +kernel) dX11_longAt_6 ?_
    refine lv_icmp_ge (tgt := 16) hx hb dX11_longAt_7 (by decide) (fun c_5 => ?_) (fun c_5 => ?_)
    · have b_6 := z_b1 c_5 (K := 3) (by decide +kernel)
      refine lv_lconst (v := 0) hx hb dX11_longAt_16 (by decide) ?_
      have hX_7 : F_longAt_3 c_a i = ((0 : Int64) : Int64) := by
        refine (F_longAt_3_s ..).trans ?_
        refine (if_neg c_1).trans ?_
        refine (if_pos c_5).trans ?_
        exact rfl
      exact hret _ _ _ _ _ _ () [0] hP hD hS rfl (by decide) dX11_longAt_17 ⟨(congrArg (fun z9 => z9) hX_7).symm, trivial⟩
    · have b_8 := z_b2 c_5 (K := 3) (by decide +kernel)
      refine lv_aload_n hx hb dX11_longAt_10 rfl (lv_at hl 0 rfl) ?_
      refine lv_iload_n hx hb dX11_longAt_11 rfl (lv_at hl 1 rfl) ?_
      refine va_lald hx hb hK hP 0 1 rfl rfl (z_inN (by omega) (by omega)) dX11_longAt_12 ?_
      refine lv_topl (fun x_9 he_x_9 => ?_)
      refine lv_goto (tgt := 17) hx hb dX11_longAt_13 (by decide) ?_
      have hX_10 : F_longAt_3 c_a i = (x_9 : Int64) := by
        refine (F_longAt_3_s ..).trans ?_
        refine (if_neg c_1).trans ?_
        refine (if_neg c_5).trans ?_
        try (extract_lets -merge -useContext +onlyGivenNames y9; have e9 : x_9 = y9 := (by first | exact he_x_9 | exact he_x_9.symm); clear_value y9; subst e9)
        exact rfl
      exact hret _ _ _ _ _ _ () [0] hP hD hS rfl (by decide) dX11_longAt_17 ⟨(congrArg (fun z9 => z9) hX_10).symm, trivial⟩
set_option maxHeartbeats 40000000 in
set_option maxRecDepth 100000 in
theorem d_keepLongAt_3 (l : Launch) (G : va_G) (cA : zCA) (a : Nat) (c_a : Nat → Int64) (i : Int32) (v : Int64) : zCv l yX11_keepLongAt cX11_keepLongAt 4 none ({ frames := 0, cells := 0, slots := 0, locals := 0 }) G cA [.ref a, .int i, .long v] [(a, .inl (cA.1 1, 3, .inr (.inl c_a)))] (S := (Nat → Int64)) (fun (u : (Nat → Int64)) => (u = (F_keepLongAt_3 c_a i v)) ∧ (True)) (fun (u : (Nat → Int64)) => [(a, .inl (cA.1 1, 3, .inr (.inl u)))]) 0 0 := by
  refine z_start2v (own := RX11) (by decide) (Nat.le_of_ble_eq_true rfl) rfl ?_
  intro p e s m args below meth c A ls Q hx hb hml hts hown hK hE hT hP hD hS hA hl hret
  have hl : lv_has ls 4 [(0, .ref a), (1, .int i), (2, .long v)] := hl
  refine lv_iload_n hx hb dX11_keepLongAt_0 rfl (lv_at hl 1 rfl) ?_
  refine lv_if_lt (tgt := 14) hx hb dX11_keepLongAt_1 (by decide) (fun c_1 => ?_) (fun c_1 => ?_)
  · have b_2 := z_b3 c_1 (K := 0) (by decide +kernel)
    have hX_3 : F_keepLongAt_3 c_a i v = (c_a : (Nat → Int64)) := by
      refine (F_keepLongAt_3_s ..).trans ?_
      refine (if_pos c_1).trans ?_
      exact rfl
    exact hret _ _ _ _ _ c_a [0] hP hD hS rfl (by decide) dX11_keepLongAt_14 ⟨(congrArg (fun z9 => z9) hX_3).symm, trivial⟩
  · have b_4 := z_b4 c_1 (K := 0) (by decide +kernel)
    refine lv_iload_n hx hb dX11_keepLongAt_4 rfl (lv_at hl 1 rfl) ?_
    refine lv_aload_n hx hb dX11_keepLongAt_5 rfl (lv_at hl 0 rfl) ?_
    refine va_alen (v := 3) hx hb hK hP 0 1 rfl rfl (show Int32.ofNat 3 = 3 by decide +kernel) dX11_keepLongAt_6 ?_
    refine lv_icmp_ge (tgt := 14) hx hb dX11_keepLongAt_7 (by decide) (fun c_5 => ?_) (fun c_5 => ?_)
    · have b_6 := z_b1 c_5 (K := 3) (by decide +kernel)
      have hX_7 : F_keepLongAt_3 c_a i v = (c_a : (Nat → Int64)) := by
        refine (F_keepLongAt_3_s ..).trans ?_
        refine (if_neg c_1).trans ?_
        refine (if_pos c_5).trans ?_
        exact rfl
      exact hret _ _ _ _ _ c_a [0] hP hD hS rfl (by decide) dX11_keepLongAt_14 ⟨(congrArg (fun z9 => z9) hX_7).symm, trivial⟩
    · have b_8 := z_b2 c_5 (K := 3) (by decide +kernel)
      refine lv_aload_n hx hb dX11_keepLongAt_10 rfl (lv_at hl 0 rfl) ?_
      refine lv_iload_n hx hb dX11_keepLongAt_11 rfl (lv_at hl 1 rfl) ?_
      refine lv_lload_n hx hb dX11_keepLongAt_12 rfl (lv_at hl 2 rfl) ?_
      refine va_last hx hb hK hP hD hS 0 1 rfl rfl (z_inN (by omega) (by omega)) dX11_keepLongAt_13 (fun H locs hP hD hS => ?_)
      have hP : va_P G vwCl [(a, .inl (cA.1 1, 3, .inr (.inl (vp_updL c_a (i : Int32).toNatClampNeg v))))] H := hP
      have hD : va_D A [(a, .inl (cA.1 1, 3, .inr (.inl (vp_updL c_a (i : Int32).toNatClampNeg v))))] := hD
      generalize hg_g_9 : (vp_updL c_a (i : Int32).toNatClampNeg v) = g_9 at hP hD
      have hX_10 : F_keepLongAt_3 c_a i v = (g_9 : (Nat → Int64)) := by
        refine (F_keepLongAt_3_s ..).trans ?_
        refine (if_neg c_1).trans ?_
        refine (if_neg c_5).trans ?_
        try (extract_lets -merge -useContext +onlyGivenNames y9; have e9 : g_9 = y9 := (by first | exact hg_g_9 | exact hg_g_9.symm); clear_value y9; subst e9)
        exact rfl
      exact hret _ _ _ _ _ g_9 [0] hP hD hS rfl (by decide) dX11_keepLongAt_14 ⟨(congrArg (fun z9 => z9) hX_10).symm, trivial⟩
set_option maxHeartbeats 40000000 in
set_option maxRecDepth 100000 in
theorem d_longAt_5 (l : Launch) (G : va_G) (cA : zCA) (a : Nat) (c_a : Nat → Int64) (i : Int32) : zCl l yX11_longAt cX11_longAt 2 (some .long) ({ frames := 0, cells := 0, slots := 0, locals := 0 }) G cA [.ref a, .int i] [(a, .inl (cA.1 1, 5, .inr (.inl c_a)))] (S := Unit) (fun (r : Int64) (u : Unit) => (r = (F_longAt_5 c_a i)) ∧ (True)) (fun (u : Unit) => [(a, .inl (cA.1 1, 5, .inr (.inl c_a)))]) 0 0 := by
  refine z_start2l (own := RX11) (by decide) (Nat.le_of_ble_eq_true rfl) rfl ?_
  intro p e s m args below meth c A ls Q hx hb hml hts hown hK hE hT hP hD hS hA hl hret
  have hl : lv_has ls 2 [(0, .ref a), (1, .int i)] := hl
  refine lv_iload_n hx hb dX11_longAt_0 rfl (lv_at hl 1 rfl) ?_
  refine lv_if_lt (tgt := 16) hx hb dX11_longAt_1 (by decide) (fun c_1 => ?_) (fun c_1 => ?_)
  · have b_2 := z_b3 c_1 (K := 0) (by decide +kernel)
    refine lv_lconst (v := 0) hx hb dX11_longAt_16 (by decide) ?_
    have hX_3 : F_longAt_5 c_a i = ((0 : Int64) : Int64) := by
      refine (F_longAt_5_s ..).trans ?_
      refine (if_pos c_1).trans ?_
      exact rfl
    exact hret _ _ _ _ _ _ () [0] hP hD hS rfl (by decide) dX11_longAt_17 ⟨(congrArg (fun z9 => z9) hX_3).symm, trivial⟩
  · have b_4 := z_b4 c_1 (K := 0) (by decide +kernel)
    refine lv_iload_n hx hb dX11_longAt_4 rfl (lv_at hl 1 rfl) ?_
    refine lv_aload_n hx hb dX11_longAt_5 rfl (lv_at hl 0 rfl) ?_
    refine va_alen (v := 5) hx hb hK hP 0 1 rfl rfl (show Int32.ofNat 5 = 5 by decide +kernel) dX11_longAt_6 ?_
    refine lv_icmp_ge (tgt := 16) hx hb dX11_longAt_7 (by decide) (fun c_5 => ?_) (fun c_5 => ?_)
    · have b_6 := z_b1 c_5 (K := 5) (by decide +kernel)
      refine lv_lconst (v := 0) hx hb dX11_longAt_16 (by decide) ?_
      have hX_7 : F_longAt_5 c_a i = ((0 : Int64) : Int64) := by
        refine (F_longAt_5_s ..).trans ?_
        refine (if_neg c_1).trans ?_
        refine (if_pos c_5).trans ?_
        exact rfl
      exact hret _ _ _ _ _ _ () [0] hP hD hS rfl (by decide) dX11_longAt_17 ⟨(congrArg (fun z9 => z9) hX_7).symm, trivial⟩
    · have b_8 := z_b2 c_5 (K := 5) (by decide +kernel)
      refine lv_aload_n hx hb dX11_longAt_10 rfl (lv_at hl 0 rfl) ?_
      refine lv_iload_n hx hb dX11_longAt_11 rfl (lv_at hl 1 rfl) ?_
      refine va_lald hx hb hK hP 0 1 rfl rfl (z_inN (by omega) (by omega)) dX11_longAt_12 ?_
      refine lv_topl (fun x_9 he_x_9 => ?_)
      refine lv_goto (tgt := 17) hx hb dX11_longAt_13 (by decide) ?_
      have hX_10 : F_longAt_5 c_a i = (x_9 : Int64) := by
        refine (F_longAt_5_s ..).trans ?_
        refine (if_neg c_1).trans ?_
        refine (if_neg c_5).trans ?_
        try (extract_lets -merge -useContext +onlyGivenNames y9; have e9 : x_9 = y9 := (by first | exact he_x_9 | exact he_x_9.symm); clear_value y9; subst e9)
        exact rfl
      exact hret _ _ _ _ _ _ () [0] hP hD hS rfl (by decide) dX11_longAt_17 ⟨(congrArg (fun z9 => z9) hX_10).symm, trivial⟩
set_option maxHeartbeats 40000000 in
set_option maxRecDepth 100000 in
theorem d_keepLongAt_5 (l : Launch) (G : va_G) (cA : zCA) (a : Nat) (c_a : Nat → Int64) (i : Int32) (v : Int64) : zCv l yX11_keepLongAt cX11_keepLongAt 4 none ({ frames := 0, cells := 0, slots := 0, locals := 0 }) G cA [.ref a, .int i, .long v] [(a, .inl (cA.1 1, 5, .inr (.inl c_a)))] (S := (Nat → Int64)) (fun (u : (Nat → Int64)) => (u = (F_keepLongAt_5 c_a i v)) ∧ (True)) (fun (u : (Nat → Int64)) => [(a, .inl (cA.1 1, 5, .inr (.inl u)))]) 0 0 := by
  refine z_start2v (own := RX11) (by decide) (Nat.le_of_ble_eq_true rfl) rfl ?_
  intro p e s m args below meth c A ls Q hx hb hml hts hown hK hE hT hP hD hS hA hl hret
  have hl : lv_has ls 4 [(0, .ref a), (1, .int i), (2, .long v)] := hl
  refine lv_iload_n hx hb dX11_keepLongAt_0 rfl (lv_at hl 1 rfl) ?_
  refine lv_if_lt (tgt := 14) hx hb dX11_keepLongAt_1 (by decide) (fun c_1 => ?_) (fun c_1 => ?_)
  · have b_2 := z_b3 c_1 (K := 0) (by decide +kernel)
    have hX_3 : F_keepLongAt_5 c_a i v = (c_a : (Nat → Int64)) := by
      refine (F_keepLongAt_5_s ..).trans ?_
      refine (if_pos c_1).trans ?_
      exact rfl
    exact hret _ _ _ _ _ c_a [0] hP hD hS rfl (by decide) dX11_keepLongAt_14 ⟨(congrArg (fun z9 => z9) hX_3).symm, trivial⟩
  · have b_4 := z_b4 c_1 (K := 0) (by decide +kernel)
    refine lv_iload_n hx hb dX11_keepLongAt_4 rfl (lv_at hl 1 rfl) ?_
    refine lv_aload_n hx hb dX11_keepLongAt_5 rfl (lv_at hl 0 rfl) ?_
    refine va_alen (v := 5) hx hb hK hP 0 1 rfl rfl (show Int32.ofNat 5 = 5 by decide +kernel) dX11_keepLongAt_6 ?_
    refine lv_icmp_ge (tgt := 14) hx hb dX11_keepLongAt_7 (by decide) (fun c_5 => ?_) (fun c_5 => ?_)
    · have b_6 := z_b1 c_5 (K := 5) (by decide +kernel)
      have hX_7 : F_keepLongAt_5 c_a i v = (c_a : (Nat → Int64)) := by
        refine (F_keepLongAt_5_s ..).trans ?_
        refine (if_neg c_1).trans ?_
        refine (if_pos c_5).trans ?_
        exact rfl
      exact hret _ _ _ _ _ c_a [0] hP hD hS rfl (by decide) dX11_keepLongAt_14 ⟨(congrArg (fun z9 => z9) hX_7).symm, trivial⟩
    · have b_8 := z_b2 c_5 (K := 5) (by decide +kernel)
      refine lv_aload_n hx hb dX11_keepLongAt_10 rfl (lv_at hl 0 rfl) ?_
      refine lv_iload_n hx hb dX11_keepLongAt_11 rfl (lv_at hl 1 rfl) ?_
      refine lv_lload_n hx hb dX11_keepLongAt_12 rfl (lv_at hl 2 rfl) ?_
      refine va_last hx hb hK hP hD hS 0 1 rfl rfl (z_inN (by omega) (by omega)) dX11_keepLongAt_13 (fun H locs hP hD hS => ?_)
      have hP : va_P G vwCl [(a, .inl (cA.1 1, 5, .inr (.inl (vp_updL c_a (i : Int32).toNatClampNeg v))))] H := hP
      have hD : va_D A [(a, .inl (cA.1 1, 5, .inr (.inl (vp_updL c_a (i : Int32).toNatClampNeg v))))] := hD
      generalize hg_g_9 : (vp_updL c_a (i : Int32).toNatClampNeg v) = g_9 at hP hD
      have hX_10 : F_keepLongAt_5 c_a i v = (g_9 : (Nat → Int64)) := by
        refine (F_keepLongAt_5_s ..).trans ?_
        refine (if_neg c_1).trans ?_
        refine (if_neg c_5).trans ?_
        try (extract_lets -merge -useContext +onlyGivenNames y9; have e9 : g_9 = y9 := (by first | exact hg_g_9 | exact hg_g_9.symm); clear_value y9; subst e9)
        exact rfl
      exact hret _ _ _ _ _ g_9 [0] hP hD hS rfl (by decide) dX11_keepLongAt_14 ⟨(congrArg (fun z9 => z9) hX_10).symm, trivial⟩
set_option maxHeartbeats 40000000 in
set_option maxRecDepth 100000 in
theorem d_longAt_10 (l : Launch) (G : va_G) (cA : zCA) (a : Nat) (c_a : Nat → Int64) (i : Int32) : zCl l yX11_longAt cX11_longAt 2 (some .long) ({ frames := 0, cells := 0, slots := 0, locals := 0 }) G cA [.ref a, .int i] [(a, .inl (cA.1 1, 10, .inr (.inl c_a)))] (S := Unit) (fun (r : Int64) (u : Unit) => (r = (F_longAt_10 c_a i)) ∧ (True)) (fun (u : Unit) => [(a, .inl (cA.1 1, 10, .inr (.inl c_a)))]) 0 0 := by
  refine z_start2l (own := RX11) (by decide) (Nat.le_of_ble_eq_true rfl) rfl ?_
  intro p e s m args below meth c A ls Q hx hb hml hts hown hK hE hT hP hD hS hA hl hret
  have hl : lv_has ls 2 [(0, .ref a), (1, .int i)] := hl
  refine lv_iload_n hx hb dX11_longAt_0 rfl (lv_at hl 1 rfl) ?_
  refine lv_if_lt (tgt := 16) hx hb dX11_longAt_1 (by decide) (fun c_1 => ?_) (fun c_1 => ?_)
  · have b_2 := z_b3 c_1 (K := 0) (by decide +kernel)
    refine lv_lconst (v := 0) hx hb dX11_longAt_16 (by decide) ?_
    have hX_3 : F_longAt_10 c_a i = ((0 : Int64) : Int64) := by
      refine (F_longAt_10_s ..).trans ?_
      refine (if_pos c_1).trans ?_
      exact rfl
    exact hret _ _ _ _ _ _ () [0] hP hD hS rfl (by decide) dX11_longAt_17 ⟨(congrArg (fun z9 => z9) hX_3).symm, trivial⟩
  · have b_4 := z_b4 c_1 (K := 0) (by decide +kernel)
    refine lv_iload_n hx hb dX11_longAt_4 rfl (lv_at hl 1 rfl) ?_
    refine lv_aload_n hx hb dX11_longAt_5 rfl (lv_at hl 0 rfl) ?_
    refine va_alen (v := 10) hx hb hK hP 0 1 rfl rfl (show Int32.ofNat 10 = 10 by decide +kernel) dX11_longAt_6 ?_
    refine lv_icmp_ge (tgt := 16) hx hb dX11_longAt_7 (by decide) (fun c_5 => ?_) (fun c_5 => ?_)
    · have b_6 := z_b1 c_5 (K := 10) (by decide +kernel)
      refine lv_lconst (v := 0) hx hb dX11_longAt_16 (by decide) ?_
      have hX_7 : F_longAt_10 c_a i = ((0 : Int64) : Int64) := by
        refine (F_longAt_10_s ..).trans ?_
        refine (if_neg c_1).trans ?_
        refine (if_pos c_5).trans ?_
        exact rfl
      exact hret _ _ _ _ _ _ () [0] hP hD hS rfl (by decide) dX11_longAt_17 ⟨(congrArg (fun z9 => z9) hX_7).symm, trivial⟩
    · have b_8 := z_b2 c_5 (K := 10) (by decide +kernel)
      refine lv_aload_n hx hb dX11_longAt_10 rfl (lv_at hl 0 rfl) ?_
      refine lv_iload_n hx hb dX11_longAt_11 rfl (lv_at hl 1 rfl) ?_
      refine va_lald hx hb hK hP 0 1 rfl rfl (z_inN (by omega) (by omega)) dX11_longAt_12 ?_
      refine lv_topl (fun x_9 he_x_9 => ?_)
      refine lv_goto (tgt := 17) hx hb dX11_longAt_13 (by decide) ?_
      have hX_10 : F_longAt_10 c_a i = (x_9 : Int64) := by
        refine (F_longAt_10_s ..).trans ?_
        refine (if_neg c_1).trans ?_
        refine (if_neg c_5).trans ?_
        try (extract_lets -merge -useContext +onlyGivenNames y9; have e9 : x_9 = y9 := (by first | exact he_x_9 | exact he_x_9.symm); clear_value y9; subst e9)
        exact rfl
      exact hret _ _ _ _ _ _ () [0] hP hD hS rfl (by decide) dX11_longAt_17 ⟨(congrArg (fun z9 => z9) hX_10).symm, trivial⟩
set_option maxHeartbeats 40000000 in
set_option maxRecDepth 100000 in
theorem d_keepLongAt_10 (l : Launch) (G : va_G) (cA : zCA) (a : Nat) (c_a : Nat → Int64) (i : Int32) (v : Int64) : zCv l yX11_keepLongAt cX11_keepLongAt 4 none ({ frames := 0, cells := 0, slots := 0, locals := 0 }) G cA [.ref a, .int i, .long v] [(a, .inl (cA.1 1, 10, .inr (.inl c_a)))] (S := (Nat → Int64)) (fun (u : (Nat → Int64)) => (u = (F_keepLongAt_10 c_a i v)) ∧ (True)) (fun (u : (Nat → Int64)) => [(a, .inl (cA.1 1, 10, .inr (.inl u)))]) 0 0 := by
  refine z_start2v (own := RX11) (by decide) (Nat.le_of_ble_eq_true rfl) rfl ?_
  intro p e s m args below meth c A ls Q hx hb hml hts hown hK hE hT hP hD hS hA hl hret
  have hl : lv_has ls 4 [(0, .ref a), (1, .int i), (2, .long v)] := hl
  refine lv_iload_n hx hb dX11_keepLongAt_0 rfl (lv_at hl 1 rfl) ?_
  refine lv_if_lt (tgt := 14) hx hb dX11_keepLongAt_1 (by decide) (fun c_1 => ?_) (fun c_1 => ?_)
  · have b_2 := z_b3 c_1 (K := 0) (by decide +kernel)
    have hX_3 : F_keepLongAt_10 c_a i v = (c_a : (Nat → Int64)) := by
      refine (F_keepLongAt_10_s ..).trans ?_
      refine (if_pos c_1).trans ?_
      exact rfl
    exact hret _ _ _ _ _ c_a [0] hP hD hS rfl (by decide) dX11_keepLongAt_14 ⟨(congrArg (fun z9 => z9) hX_3).symm, trivial⟩
  · have b_4 := z_b4 c_1 (K := 0) (by decide +kernel)
    refine lv_iload_n hx hb dX11_keepLongAt_4 rfl (lv_at hl 1 rfl) ?_
    refine lv_aload_n hx hb dX11_keepLongAt_5 rfl (lv_at hl 0 rfl) ?_
    refine va_alen (v := 10) hx hb hK hP 0 1 rfl rfl (show Int32.ofNat 10 = 10 by decide +kernel) dX11_keepLongAt_6 ?_
    refine lv_icmp_ge (tgt := 14) hx hb dX11_keepLongAt_7 (by decide) (fun c_5 => ?_) (fun c_5 => ?_)
    · have b_6 := z_b1 c_5 (K := 10) (by decide +kernel)
      have hX_7 : F_keepLongAt_10 c_a i v = (c_a : (Nat → Int64)) := by
        refine (F_keepLongAt_10_s ..).trans ?_
        refine (if_neg c_1).trans ?_
        refine (if_pos c_5).trans ?_
        exact rfl
      exact hret _ _ _ _ _ c_a [0] hP hD hS rfl (by decide) dX11_keepLongAt_14 ⟨(congrArg (fun z9 => z9) hX_7).symm, trivial⟩
    · have b_8 := z_b2 c_5 (K := 10) (by decide +kernel)
      refine lv_aload_n hx hb dX11_keepLongAt_10 rfl (lv_at hl 0 rfl) ?_
      refine lv_iload_n hx hb dX11_keepLongAt_11 rfl (lv_at hl 1 rfl) ?_
      refine lv_lload_n hx hb dX11_keepLongAt_12 rfl (lv_at hl 2 rfl) ?_
      refine va_last hx hb hK hP hD hS 0 1 rfl rfl (z_inN (by omega) (by omega)) dX11_keepLongAt_13 (fun H locs hP hD hS => ?_)
      have hP : va_P G vwCl [(a, .inl (cA.1 1, 10, .inr (.inl (vp_updL c_a (i : Int32).toNatClampNeg v))))] H := hP
      have hD : va_D A [(a, .inl (cA.1 1, 10, .inr (.inl (vp_updL c_a (i : Int32).toNatClampNeg v))))] := hD
      generalize hg_g_9 : (vp_updL c_a (i : Int32).toNatClampNeg v) = g_9 at hP hD
      have hX_10 : F_keepLongAt_10 c_a i v = (g_9 : (Nat → Int64)) := by
        refine (F_keepLongAt_10_s ..).trans ?_
        refine (if_neg c_1).trans ?_
        refine (if_neg c_5).trans ?_
        try (extract_lets -merge -useContext +onlyGivenNames y9; have e9 : g_9 = y9 := (by first | exact hg_g_9 | exact hg_g_9.symm); clear_value y9; subst e9)
        exact rfl
      exact hret _ _ _ _ _ g_9 [0] hP hD hS rfl (by decide) dX11_keepLongAt_14 ⟨(congrArg (fun z9 => z9) hX_10).symm, trivial⟩
set_option maxHeartbeats 40000000 in
set_option maxRecDepth 100000 in
theorem d_longAt_20 (l : Launch) (G : va_G) (cA : zCA) (a : Nat) (c_a : Nat → Int64) (i : Int32) : zCl l yX11_longAt cX11_longAt 2 (some .long) ({ frames := 0, cells := 0, slots := 0, locals := 0 }) G cA [.ref a, .int i] [(a, .inl (cA.1 1, 20, .inr (.inl c_a)))] (S := Unit) (fun (r : Int64) (u : Unit) => (r = (F_longAt_20 c_a i)) ∧ (True)) (fun (u : Unit) => [(a, .inl (cA.1 1, 20, .inr (.inl c_a)))]) 0 0 := by
  refine z_start2l (own := RX11) (by decide) (Nat.le_of_ble_eq_true rfl) rfl ?_
  intro p e s m args below meth c A ls Q hx hb hml hts hown hK hE hT hP hD hS hA hl hret
  have hl : lv_has ls 2 [(0, .ref a), (1, .int i)] := hl
  refine lv_iload_n hx hb dX11_longAt_0 rfl (lv_at hl 1 rfl) ?_
  refine lv_if_lt (tgt := 16) hx hb dX11_longAt_1 (by decide) (fun c_1 => ?_) (fun c_1 => ?_)
  · have b_2 := z_b3 c_1 (K := 0) (by decide +kernel)
    refine lv_lconst (v := 0) hx hb dX11_longAt_16 (by decide) ?_
    have hX_3 : F_longAt_20 c_a i = ((0 : Int64) : Int64) := by
      refine (F_longAt_20_s ..).trans ?_
      refine (if_pos c_1).trans ?_
      exact rfl
    exact hret _ _ _ _ _ _ () [0] hP hD hS rfl (by decide) dX11_longAt_17 ⟨(congrArg (fun z9 => z9) hX_3).symm, trivial⟩
  · have b_4 := z_b4 c_1 (K := 0) (by decide +kernel)
    refine lv_iload_n hx hb dX11_longAt_4 rfl (lv_at hl 1 rfl) ?_
    refine lv_aload_n hx hb dX11_longAt_5 rfl (lv_at hl 0 rfl) ?_
    refine va_alen (v := 20) hx hb hK hP 0 1 rfl rfl (show Int32.ofNat 20 = 20 by decide +kernel) dX11_longAt_6 ?_
    refine lv_icmp_ge (tgt := 16) hx hb dX11_longAt_7 (by decide) (fun c_5 => ?_) (fun c_5 => ?_)
    · have b_6 := z_b1 c_5 (K := 20) (by decide +kernel)
      refine lv_lconst (v := 0) hx hb dX11_longAt_16 (by decide) ?_
      have hX_7 : F_longAt_20 c_a i = ((0 : Int64) : Int64) := by
        refine (F_longAt_20_s ..).trans ?_
        refine (if_neg c_1).trans ?_
        refine (if_pos c_5).trans ?_
        exact rfl
      exact hret _ _ _ _ _ _ () [0] hP hD hS rfl (by decide) dX11_longAt_17 ⟨(congrArg (fun z9 => z9) hX_7).symm, trivial⟩
    · have b_8 := z_b2 c_5 (K := 20) (by decide +kernel)
      refine lv_aload_n hx hb dX11_longAt_10 rfl (lv_at hl 0 rfl) ?_
      refine lv_iload_n hx hb dX11_longAt_11 rfl (lv_at hl 1 rfl) ?_
      refine va_lald hx hb hK hP 0 1 rfl rfl (z_inN (by omega) (by omega)) dX11_longAt_12 ?_
      refine lv_topl (fun x_9 he_x_9 => ?_)
      refine lv_goto (tgt := 17) hx hb dX11_longAt_13 (by decide) ?_
      have hX_10 : F_longAt_20 c_a i = (x_9 : Int64) := by
        refine (F_longAt_20_s ..).trans ?_
        refine (if_neg c_1).trans ?_
        refine (if_neg c_5).trans ?_
        try (extract_lets -merge -useContext +onlyGivenNames y9; have e9 : x_9 = y9 := (by first | exact he_x_9 | exact he_x_9.symm); clear_value y9; subst e9)
        exact rfl
      exact hret _ _ _ _ _ _ () [0] hP hD hS rfl (by decide) dX11_longAt_17 ⟨(congrArg (fun z9 => z9) hX_10).symm, trivial⟩
set_option maxHeartbeats 40000000 in
set_option maxRecDepth 100000 in
theorem d_keepLongAt_20 (l : Launch) (G : va_G) (cA : zCA) (a : Nat) (c_a : Nat → Int64) (i : Int32) (v : Int64) : zCv l yX11_keepLongAt cX11_keepLongAt 4 none ({ frames := 0, cells := 0, slots := 0, locals := 0 }) G cA [.ref a, .int i, .long v] [(a, .inl (cA.1 1, 20, .inr (.inl c_a)))] (S := (Nat → Int64)) (fun (u : (Nat → Int64)) => (u = (F_keepLongAt_20 c_a i v)) ∧ (True)) (fun (u : (Nat → Int64)) => [(a, .inl (cA.1 1, 20, .inr (.inl u)))]) 0 0 := by
  refine z_start2v (own := RX11) (by decide) (Nat.le_of_ble_eq_true rfl) rfl ?_
  intro p e s m args below meth c A ls Q hx hb hml hts hown hK hE hT hP hD hS hA hl hret
  have hl : lv_has ls 4 [(0, .ref a), (1, .int i), (2, .long v)] := hl
  refine lv_iload_n hx hb dX11_keepLongAt_0 rfl (lv_at hl 1 rfl) ?_
  refine lv_if_lt (tgt := 14) hx hb dX11_keepLongAt_1 (by decide) (fun c_1 => ?_) (fun c_1 => ?_)
  · have b_2 := z_b3 c_1 (K := 0) (by decide +kernel)
    have hX_3 : F_keepLongAt_20 c_a i v = (c_a : (Nat → Int64)) := by
      refine (F_keepLongAt_20_s ..).trans ?_
      refine (if_pos c_1).trans ?_
      exact rfl
    exact hret _ _ _ _ _ c_a [0] hP hD hS rfl (by decide) dX11_keepLongAt_14 ⟨(congrArg (fun z9 => z9) hX_3).symm, trivial⟩
  · have b_4 := z_b4 c_1 (K := 0) (by decide +kernel)
    refine lv_iload_n hx hb dX11_keepLongAt_4 rfl (lv_at hl 1 rfl) ?_
    refine lv_aload_n hx hb dX11_keepLongAt_5 rfl (lv_at hl 0 rfl) ?_
    refine va_alen (v := 20) hx hb hK hP 0 1 rfl rfl (show Int32.ofNat 20 = 20 by decide +kernel) dX11_keepLongAt_6 ?_
    refine lv_icmp_ge (tgt := 14) hx hb dX11_keepLongAt_7 (by decide) (fun c_5 => ?_) (fun c_5 => ?_)
    · have b_6 := z_b1 c_5 (K := 20) (by decide +kernel)
      have hX_7 : F_keepLongAt_20 c_a i v = (c_a : (Nat → Int64)) := by
        refine (F_keepLongAt_20_s ..).trans ?_
        refine (if_neg c_1).trans ?_
        refine (if_pos c_5).trans ?_
        exact rfl
      exact hret _ _ _ _ _ c_a [0] hP hD hS rfl (by decide) dX11_keepLongAt_14 ⟨(congrArg (fun z9 => z9) hX_7).symm, trivial⟩
    · have b_8 := z_b2 c_5 (K := 20) (by decide +kernel)
      refine lv_aload_n hx hb dX11_keepLongAt_10 rfl (lv_at hl 0 rfl) ?_
      refine lv_iload_n hx hb dX11_keepLongAt_11 rfl (lv_at hl 1 rfl) ?_
      refine lv_lload_n hx hb dX11_keepLongAt_12 rfl (lv_at hl 2 rfl) ?_
      refine va_last hx hb hK hP hD hS 0 1 rfl rfl (z_inN (by omega) (by omega)) dX11_keepLongAt_13 (fun H locs hP hD hS => ?_)
      have hP : va_P G vwCl [(a, .inl (cA.1 1, 20, .inr (.inl (vp_updL c_a (i : Int32).toNatClampNeg v))))] H := hP
      have hD : va_D A [(a, .inl (cA.1 1, 20, .inr (.inl (vp_updL c_a (i : Int32).toNatClampNeg v))))] := hD
      generalize hg_g_9 : (vp_updL c_a (i : Int32).toNatClampNeg v) = g_9 at hP hD
      have hX_10 : F_keepLongAt_20 c_a i v = (g_9 : (Nat → Int64)) := by
        refine (F_keepLongAt_20_s ..).trans ?_
        refine (if_neg c_1).trans ?_
        refine (if_neg c_5).trans ?_
        try (extract_lets -merge -useContext +onlyGivenNames y9; have e9 : g_9 = y9 := (by first | exact hg_g_9 | exact hg_g_9.symm); clear_value y9; subst e9)
        exact rfl
      exact hret _ _ _ _ _ g_9 [0] hP hD hS rfl (by decide) dX11_keepLongAt_14 ⟨(congrArg (fun z9 => z9) hX_10).symm, trivial⟩
set_option maxHeartbeats 40000000 in
set_option maxRecDepth 100000 in
theorem d_longAt_60 (l : Launch) (G : va_G) (cA : zCA) (a : Nat) (c_a : Nat → Int64) (i : Int32) : zCl l yX11_longAt cX11_longAt 2 (some .long) ({ frames := 0, cells := 0, slots := 0, locals := 0 }) G cA [.ref a, .int i] [(a, .inl (cA.1 1, 60, .inr (.inl c_a)))] (S := Unit) (fun (r : Int64) (u : Unit) => (r = (F_longAt_60 c_a i)) ∧ (True)) (fun (u : Unit) => [(a, .inl (cA.1 1, 60, .inr (.inl c_a)))]) 0 0 := by
  refine z_start2l (own := RX11) (by decide) (Nat.le_of_ble_eq_true rfl) rfl ?_
  intro p e s m args below meth c A ls Q hx hb hml hts hown hK hE hT hP hD hS hA hl hret
  have hl : lv_has ls 2 [(0, .ref a), (1, .int i)] := hl
  refine lv_iload_n hx hb dX11_longAt_0 rfl (lv_at hl 1 rfl) ?_
  refine lv_if_lt (tgt := 16) hx hb dX11_longAt_1 (by decide) (fun c_1 => ?_) (fun c_1 => ?_)
  · have b_2 := z_b3 c_1 (K := 0) (by decide +kernel)
    refine lv_lconst (v := 0) hx hb dX11_longAt_16 (by decide) ?_
    have hX_3 : F_longAt_60 c_a i = ((0 : Int64) : Int64) := by
      refine (F_longAt_60_s ..).trans ?_
      refine (if_pos c_1).trans ?_
      exact rfl
    exact hret _ _ _ _ _ _ () [0] hP hD hS rfl (by decide) dX11_longAt_17 ⟨(congrArg (fun z9 => z9) hX_3).symm, trivial⟩
  · have b_4 := z_b4 c_1 (K := 0) (by decide +kernel)
    refine lv_iload_n hx hb dX11_longAt_4 rfl (lv_at hl 1 rfl) ?_
    refine lv_aload_n hx hb dX11_longAt_5 rfl (lv_at hl 0 rfl) ?_
    refine va_alen (v := 60) hx hb hK hP 0 1 rfl rfl (show Int32.ofNat 60 = 60 by decide +kernel) dX11_longAt_6 ?_
    refine lv_icmp_ge (tgt := 16) hx hb dX11_longAt_7 (by decide) (fun c_5 => ?_) (fun c_5 => ?_)
    · have b_6 := z_b1 c_5 (K := 60) (by decide +kernel)
      refine lv_lconst (v := 0) hx hb dX11_longAt_16 (by decide) ?_
      have hX_7 : F_longAt_60 c_a i = ((0 : Int64) : Int64) := by
        refine (F_longAt_60_s ..).trans ?_
        refine (if_neg c_1).trans ?_
        refine (if_pos c_5).trans ?_
        exact rfl
      exact hret _ _ _ _ _ _ () [0] hP hD hS rfl (by decide) dX11_longAt_17 ⟨(congrArg (fun z9 => z9) hX_7).symm, trivial⟩
    · have b_8 := z_b2 c_5 (K := 60) (by decide +kernel)
      refine lv_aload_n hx hb dX11_longAt_10 rfl (lv_at hl 0 rfl) ?_
      refine lv_iload_n hx hb dX11_longAt_11 rfl (lv_at hl 1 rfl) ?_
      refine va_lald hx hb hK hP 0 1 rfl rfl (z_inN (by omega) (by omega)) dX11_longAt_12 ?_
      refine lv_topl (fun x_9 he_x_9 => ?_)
      refine lv_goto (tgt := 17) hx hb dX11_longAt_13 (by decide) ?_
      have hX_10 : F_longAt_60 c_a i = (x_9 : Int64) := by
        refine (F_longAt_60_s ..).trans ?_
        refine (if_neg c_1).trans ?_
        refine (if_neg c_5).trans ?_
        try (extract_lets -merge -useContext +onlyGivenNames y9; have e9 : x_9 = y9 := (by first | exact he_x_9 | exact he_x_9.symm); clear_value y9; subst e9)
        exact rfl
      exact hret _ _ _ _ _ _ () [0] hP hD hS rfl (by decide) dX11_longAt_17 ⟨(congrArg (fun z9 => z9) hX_10).symm, trivial⟩
set_option maxHeartbeats 40000000 in
set_option maxRecDepth 100000 in
theorem d_keepLongAt_60 (l : Launch) (G : va_G) (cA : zCA) (a : Nat) (c_a : Nat → Int64) (i : Int32) (v : Int64) : zCv l yX11_keepLongAt cX11_keepLongAt 4 none ({ frames := 0, cells := 0, slots := 0, locals := 0 }) G cA [.ref a, .int i, .long v] [(a, .inl (cA.1 1, 60, .inr (.inl c_a)))] (S := (Nat → Int64)) (fun (u : (Nat → Int64)) => (u = (F_keepLongAt_60 c_a i v)) ∧ (True)) (fun (u : (Nat → Int64)) => [(a, .inl (cA.1 1, 60, .inr (.inl u)))]) 0 0 := by
  refine z_start2v (own := RX11) (by decide) (Nat.le_of_ble_eq_true rfl) rfl ?_
  intro p e s m args below meth c A ls Q hx hb hml hts hown hK hE hT hP hD hS hA hl hret
  have hl : lv_has ls 4 [(0, .ref a), (1, .int i), (2, .long v)] := hl
  refine lv_iload_n hx hb dX11_keepLongAt_0 rfl (lv_at hl 1 rfl) ?_
  refine lv_if_lt (tgt := 14) hx hb dX11_keepLongAt_1 (by decide) (fun c_1 => ?_) (fun c_1 => ?_)
  · have b_2 := z_b3 c_1 (K := 0) (by decide +kernel)
    have hX_3 : F_keepLongAt_60 c_a i v = (c_a : (Nat → Int64)) := by
      refine (F_keepLongAt_60_s ..).trans ?_
      refine (if_pos c_1).trans ?_
      exact rfl
    exact hret _ _ _ _ _ c_a [0] hP hD hS rfl (by decide) dX11_keepLongAt_14 ⟨(congrArg (fun z9 => z9) hX_3).symm, trivial⟩
  · have b_4 := z_b4 c_1 (K := 0) (by decide +kernel)
    refine lv_iload_n hx hb dX11_keepLongAt_4 rfl (lv_at hl 1 rfl) ?_
    refine lv_aload_n hx hb dX11_keepLongAt_5 rfl (lv_at hl 0 rfl) ?_
    refine va_alen (v := 60) hx hb hK hP 0 1 rfl rfl (show Int32.ofNat 60 = 60 by decide +kernel) dX11_keepLongAt_6 ?_
    refine lv_icmp_ge (tgt := 14) hx hb dX11_keepLongAt_7 (by decide) (fun c_5 => ?_) (fun c_5 => ?_)
    · have b_6 := z_b1 c_5 (K := 60) (by decide +kernel)
      have hX_7 : F_keepLongAt_60 c_a i v = (c_a : (Nat → Int64)) := by
        refine (F_keepLongAt_60_s ..).trans ?_
        refine (if_neg c_1).trans ?_
        refine (if_pos c_5).trans ?_
        exact rfl
      exact hret _ _ _ _ _ c_a [0] hP hD hS rfl (by decide) dX11_keepLongAt_14 ⟨(congrArg (fun z9 => z9) hX_7).symm, trivial⟩
    · have b_8 := z_b2 c_5 (K := 60) (by decide +kernel)
      refine lv_aload_n hx hb dX11_keepLongAt_10 rfl (lv_at hl 0 rfl) ?_
      refine lv_iload_n hx hb dX11_keepLongAt_11 rfl (lv_at hl 1 rfl) ?_
      refine lv_lload_n hx hb dX11_keepLongAt_12 rfl (lv_at hl 2 rfl) ?_
      refine va_last hx hb hK hP hD hS 0 1 rfl rfl (z_inN (by omega) (by omega)) dX11_keepLongAt_13 (fun H locs hP hD hS => ?_)
      have hP : va_P G vwCl [(a, .inl (cA.1 1, 60, .inr (.inl (vp_updL c_a (i : Int32).toNatClampNeg v))))] H := hP
      have hD : va_D A [(a, .inl (cA.1 1, 60, .inr (.inl (vp_updL c_a (i : Int32).toNatClampNeg v))))] := hD
      generalize hg_g_9 : (vp_updL c_a (i : Int32).toNatClampNeg v) = g_9 at hP hD
      have hX_10 : F_keepLongAt_60 c_a i v = (g_9 : (Nat → Int64)) := by
        refine (F_keepLongAt_60_s ..).trans ?_
        refine (if_neg c_1).trans ?_
        refine (if_neg c_5).trans ?_
        try (extract_lets -merge -useContext +onlyGivenNames y9; have e9 : g_9 = y9 := (by first | exact hg_g_9 | exact hg_g_9.symm); clear_value y9; subst e9)
        exact rfl
      exact hret _ _ _ _ _ g_9 [0] hP hD hS rfl (by decide) dX11_keepLongAt_14 ⟨(congrArg (fun z9 => z9) hX_10).symm, trivial⟩
set_option maxHeartbeats 40000000 in
set_option maxRecDepth 100000 in
theorem d_longAt_100 (l : Launch) (G : va_G) (cA : zCA) (a : Nat) (c_a : Nat → Int64) (i : Int32) : zCl l yX11_longAt cX11_longAt 2 (some .long) ({ frames := 0, cells := 0, slots := 0, locals := 0 }) G cA [.ref a, .int i] [(a, .inl (cA.1 1, 100, .inr (.inl c_a)))] (S := Unit) (fun (r : Int64) (u : Unit) => (r = (F_longAt_100 c_a i)) ∧ (True)) (fun (u : Unit) => [(a, .inl (cA.1 1, 100, .inr (.inl c_a)))]) 0 0 := by
  refine z_start2l (own := RX11) (by decide) (Nat.le_of_ble_eq_true rfl) rfl ?_
  intro p e s m args below meth c A ls Q hx hb hml hts hown hK hE hT hP hD hS hA hl hret
  have hl : lv_has ls 2 [(0, .ref a), (1, .int i)] := hl
  refine lv_iload_n hx hb dX11_longAt_0 rfl (lv_at hl 1 rfl) ?_
  refine lv_if_lt (tgt := 16) hx hb dX11_longAt_1 (by decide) (fun c_1 => ?_) (fun c_1 => ?_)
  · have b_2 := z_b3 c_1 (K := 0) (by decide +kernel)
    refine lv_lconst (v := 0) hx hb dX11_longAt_16 (by decide) ?_
    have hX_3 : F_longAt_100 c_a i = ((0 : Int64) : Int64) := by
      refine (F_longAt_100_s ..).trans ?_
      refine (if_pos c_1).trans ?_
      exact rfl
    exact hret _ _ _ _ _ _ () [0] hP hD hS rfl (by decide) dX11_longAt_17 ⟨(congrArg (fun z9 => z9) hX_3).symm, trivial⟩
  · have b_4 := z_b4 c_1 (K := 0) (by decide +kernel)
    refine lv_iload_n hx hb dX11_longAt_4 rfl (lv_at hl 1 rfl) ?_
    refine lv_aload_n hx hb dX11_longAt_5 rfl (lv_at hl 0 rfl) ?_
    refine va_alen (v := 100) hx hb hK hP 0 1 rfl rfl (show Int32.ofNat 100 = 100 by decide +kernel) dX11_longAt_6 ?_
    refine lv_icmp_ge (tgt := 16) hx hb dX11_longAt_7 (by decide) (fun c_5 => ?_) (fun c_5 => ?_)
    · have b_6 := z_b1 c_5 (K := 100) (by decide +kernel)
      refine lv_lconst (v := 0) hx hb dX11_longAt_16 (by decide) ?_
      have hX_7 : F_longAt_100 c_a i = ((0 : Int64) : Int64) := by
        refine (F_longAt_100_s ..).trans ?_
        refine (if_neg c_1).trans ?_
        refine (if_pos c_5).trans ?_
        exact rfl
      exact hret _ _ _ _ _ _ () [0] hP hD hS rfl (by decide) dX11_longAt_17 ⟨(congrArg (fun z9 => z9) hX_7).symm, trivial⟩
    · have b_8 := z_b2 c_5 (K := 100) (by decide +kernel)
      refine lv_aload_n hx hb dX11_longAt_10 rfl (lv_at hl 0 rfl) ?_
      refine lv_iload_n hx hb dX11_longAt_11 rfl (lv_at hl 1 rfl) ?_
      refine va_lald hx hb hK hP 0 1 rfl rfl (z_inN (by omega) (by omega)) dX11_longAt_12 ?_
      refine lv_topl (fun x_9 he_x_9 => ?_)
      refine lv_goto (tgt := 17) hx hb dX11_longAt_13 (by decide) ?_
      have hX_10 : F_longAt_100 c_a i = (x_9 : Int64) := by
        refine (F_longAt_100_s ..).trans ?_
        refine (if_neg c_1).trans ?_
        refine (if_neg c_5).trans ?_
        try (extract_lets -merge -useContext +onlyGivenNames y9; have e9 : x_9 = y9 := (by first | exact he_x_9 | exact he_x_9.symm); clear_value y9; subst e9)
        exact rfl
      exact hret _ _ _ _ _ _ () [0] hP hD hS rfl (by decide) dX11_longAt_17 ⟨(congrArg (fun z9 => z9) hX_10).symm, trivial⟩
set_option maxHeartbeats 40000000 in
set_option maxRecDepth 100000 in
theorem d_keepLongAt_100 (l : Launch) (G : va_G) (cA : zCA) (a : Nat) (c_a : Nat → Int64) (i : Int32) (v : Int64) : zCv l yX11_keepLongAt cX11_keepLongAt 4 none ({ frames := 0, cells := 0, slots := 0, locals := 0 }) G cA [.ref a, .int i, .long v] [(a, .inl (cA.1 1, 100, .inr (.inl c_a)))] (S := (Nat → Int64)) (fun (u : (Nat → Int64)) => (u = (F_keepLongAt_100 c_a i v)) ∧ (True)) (fun (u : (Nat → Int64)) => [(a, .inl (cA.1 1, 100, .inr (.inl u)))]) 0 0 := by
  refine z_start2v (own := RX11) (by decide) (Nat.le_of_ble_eq_true rfl) rfl ?_
  intro p e s m args below meth c A ls Q hx hb hml hts hown hK hE hT hP hD hS hA hl hret
  have hl : lv_has ls 4 [(0, .ref a), (1, .int i), (2, .long v)] := hl
  refine lv_iload_n hx hb dX11_keepLongAt_0 rfl (lv_at hl 1 rfl) ?_
  refine lv_if_lt (tgt := 14) hx hb dX11_keepLongAt_1 (by decide) (fun c_1 => ?_) (fun c_1 => ?_)
  · have b_2 := z_b3 c_1 (K := 0) (by decide +kernel)
    have hX_3 : F_keepLongAt_100 c_a i v = (c_a : (Nat → Int64)) := by
      refine (F_keepLongAt_100_s ..).trans ?_
      refine (if_pos c_1).trans ?_
      exact rfl
    exact hret _ _ _ _ _ c_a [0] hP hD hS rfl (by decide) dX11_keepLongAt_14 ⟨(congrArg (fun z9 => z9) hX_3).symm, trivial⟩
  · have b_4 := z_b4 c_1 (K := 0) (by decide +kernel)
    refine lv_iload_n hx hb dX11_keepLongAt_4 rfl (lv_at hl 1 rfl) ?_
    refine lv_aload_n hx hb dX11_keepLongAt_5 rfl (lv_at hl 0 rfl) ?_
    refine va_alen (v := 100) hx hb hK hP 0 1 rfl rfl (show Int32.ofNat 100 = 100 by decide +kernel) dX11_keepLongAt_6 ?_
    refine lv_icmp_ge (tgt := 14) hx hb dX11_keepLongAt_7 (by decide) (fun c_5 => ?_) (fun c_5 => ?_)
    · have b_6 := z_b1 c_5 (K := 100) (by decide +kernel)
      have hX_7 : F_keepLongAt_100 c_a i v = (c_a : (Nat → Int64)) := by
        refine (F_keepLongAt_100_s ..).trans ?_
        refine (if_neg c_1).trans ?_
        refine (if_pos c_5).trans ?_
        exact rfl
      exact hret _ _ _ _ _ c_a [0] hP hD hS rfl (by decide) dX11_keepLongAt_14 ⟨(congrArg (fun z9 => z9) hX_7).symm, trivial⟩
    · have b_8 := z_b2 c_5 (K := 100) (by decide +kernel)
      refine lv_aload_n hx hb dX11_keepLongAt_10 rfl (lv_at hl 0 rfl) ?_
      refine lv_iload_n hx hb dX11_keepLongAt_11 rfl (lv_at hl 1 rfl) ?_
      refine lv_lload_n hx hb dX11_keepLongAt_12 rfl (lv_at hl 2 rfl) ?_
      refine va_last hx hb hK hP hD hS 0 1 rfl rfl (z_inN (by omega) (by omega)) dX11_keepLongAt_13 (fun H locs hP hD hS => ?_)
      have hP : va_P G vwCl [(a, .inl (cA.1 1, 100, .inr (.inl (vp_updL c_a (i : Int32).toNatClampNeg v))))] H := hP
      have hD : va_D A [(a, .inl (cA.1 1, 100, .inr (.inl (vp_updL c_a (i : Int32).toNatClampNeg v))))] := hD
      generalize hg_g_9 : (vp_updL c_a (i : Int32).toNatClampNeg v) = g_9 at hP hD
      have hX_10 : F_keepLongAt_100 c_a i v = (g_9 : (Nat → Int64)) := by
        refine (F_keepLongAt_100_s ..).trans ?_
        refine (if_neg c_1).trans ?_
        refine (if_neg c_5).trans ?_
        try (extract_lets -merge -useContext +onlyGivenNames y9; have e9 : g_9 = y9 := (by first | exact hg_g_9 | exact hg_g_9.symm); clear_value y9; subst e9)
        exact rfl
      exact hret _ _ _ _ _ g_9 [0] hP hD hS rfl (by decide) dX11_keepLongAt_14 ⟨(congrArg (fun z9 => z9) hX_10).symm, trivial⟩
set_option maxHeartbeats 40000000 in
set_option maxRecDepth 100000 in
theorem d_H_hasFeature (l : Launch) (G : va_G) (cA : zCA) (h : Nat) (h_features : Int32) (h_featureNames : Nat) (h_steps : Nat) (h_turnedFeatures : Nat) (h_sixteenths : Nat) (h_keys : Int32) (h_keySteps : Nat) (h_lent : Int32) (h_rings : Int32) (h_on : Nat) (h_onMany : Nat) (h_doors : Int32) (h_wanted : Nat) (h_openers : Nat) (h_seconds : Nat) (h_turned : Int32) (h_roundMany : Int32) (h_roundDoors : Nat) (k : Int32) (hm_h_features : 0 ≤ h_features.toInt ∧ h_features.toInt ≤ 3) : zCi l yX2_hasFeature cX2_hasFeature 2 (some .boolean) ({ frames := 0, cells := 0, slots := 0, locals := 0 }) G cA [.ref h, .int k] [(h, .inr (2, [.int h_features, .ref h_featureNames, .ref h_steps, .ref h_turnedFeatures, .ref h_sixteenths, .int h_keys, .ref h_keySteps, .int h_lent, .int h_rings, .ref h_on, .ref h_onMany, .int h_doors, .ref h_wanted, .ref h_openers, .ref h_seconds, .int h_turned, .int h_roundMany, .ref h_roundDoors]))] (S := Unit) (fun (r : Int32) (u : Unit) => (r = (F_H_hasFeature h_features k)) ∧ (r = 0 ∨ r = 1)) (fun (u : Unit) => [(h, .inr (2, [.int h_features, .ref h_featureNames, .ref h_steps, .ref h_turnedFeatures, .ref h_sixteenths, .int h_keys, .ref h_keySteps, .int h_lent, .int h_rings, .ref h_on, .ref h_onMany, .int h_doors, .ref h_wanted, .ref h_openers, .ref h_seconds, .int h_turned, .int h_roundMany, .ref h_roundDoors]))]) 0 0 := by
  refine z_start2z (own := RX2) (by decide) (Nat.le_of_ble_eq_true rfl) rfl ?_
  intro p e s m args below meth c A ls Q hx hb hml hts hown hK hE hT hP hD hS hA hl hret
  have hl : lv_has ls 2 [(0, .ref h), (1, .int k)] := hl
  refine lv_iload_n hx hb dX2_hasFeature_0 rfl (lv_at hl 1 rfl) ?_
  refine lv_if_lt (tgt := 16) hx hb dX2_hasFeature_1 (by decide) (fun c_1 => ?_) (fun c_1 => ?_)
  · have b_2 := z_b3 c_1 (K := 0) (by decide +kernel)
    refine lv_iconst (v := 0) hx hb dX2_hasFeature_16 (by decide) ?_
    have hX_3 : F_H_hasFeature h_features k = ((0 : Int32) : Int32) := by
      refine (F_H_hasFeature_s ..).trans ?_
      refine (if_pos c_1).trans ?_
      exact rfl
    exact hret _ _ _ _ _ _ () [0] hP hD hS rfl (by decide) dX2_hasFeature_17 (Or.inl rfl) ⟨(congrArg (fun z9 => z9) hX_3).symm, (Or.inl rfl)⟩
  · have b_4 := z_b4 c_1 (K := 0) (by decide +kernel)
    refine lv_iload_n hx hb dX2_hasFeature_4 rfl (lv_at hl 1 rfl) ?_
    refine lv_aload_n hx hb dX2_hasFeature_5 rfl (lv_at hl 0 rfl) ?_
    refine va_get (D := G) (ci := 2) (v := .int h_features) (C := RX2) (T := TX2) (N := 18) hx hb hts inT2 hown hK hP 0 rfl rfl 0 (by decide) (hts _ tw_265) (fun _ h9 => h9) rfl dX2_hasFeature_6 ?_
    refine lv_icmp_ge (tgt := 16) hx hb dX2_hasFeature_9 (by decide) (fun c_5 => ?_) (fun c_5 => ?_)
    · have b_6 := z_s1 c_5
      refine lv_iconst (v := 0) hx hb dX2_hasFeature_16 (by decide) ?_
      have hX_7 : F_H_hasFeature h_features k = ((0 : Int32) : Int32) := by
        refine (F_H_hasFeature_s ..).trans ?_
        refine (if_neg c_1).trans ?_
        refine (if_pos c_5).trans ?_
        exact rfl
      exact hret _ _ _ _ _ _ () [0] hP hD hS rfl (by decide) dX2_hasFeature_17 (Or.inl rfl) ⟨(congrArg (fun z9 => z9) hX_7).symm, (Or.inl rfl)⟩
    · have b_8 := z_t2 c_5
      refine lv_iconst (v := 1) hx hb dX2_hasFeature_12 (by decide) ?_
      refine lv_goto (tgt := 17) hx hb dX2_hasFeature_13 (by decide) ?_
      have hX_9 : F_H_hasFeature h_features k = ((1 : Int32) : Int32) := by
        refine (F_H_hasFeature_s ..).trans ?_
        refine (if_neg c_1).trans ?_
        refine (if_neg c_5).trans ?_
        exact rfl
      exact hret _ _ _ _ _ _ () [0] hP hD hS rfl (by decide) dX2_hasFeature_17 (Or.inr rfl) ⟨(congrArg (fun z9 => z9) hX_9).symm, (Or.inr rfl)⟩
set_option maxHeartbeats 40000000 in
set_option maxRecDepth 100000 in
theorem d_H_hasKey (l : Launch) (G : va_G) (cA : zCA) (h : Nat) (h_features : Int32) (h_featureNames : Nat) (h_steps : Nat) (h_turnedFeatures : Nat) (h_sixteenths : Nat) (h_keys : Int32) (h_keySteps : Nat) (h_lent : Int32) (h_rings : Int32) (h_on : Nat) (h_onMany : Nat) (h_doors : Int32) (h_wanted : Nat) (h_openers : Nat) (h_seconds : Nat) (h_turned : Int32) (h_roundMany : Int32) (h_roundDoors : Nat) (k : Int32) (hm_h_features : 0 ≤ h_features.toInt ∧ h_features.toInt ≤ 3) : zCi l yX2_hasKey cX2_hasKey 2 (some .boolean) ({ frames := 0, cells := 0, slots := 0, locals := 0 }) G cA [.ref h, .int k] [(h, .inr (2, [.int h_features, .ref h_featureNames, .ref h_steps, .ref h_turnedFeatures, .ref h_sixteenths, .int h_keys, .ref h_keySteps, .int h_lent, .int h_rings, .ref h_on, .ref h_onMany, .int h_doors, .ref h_wanted, .ref h_openers, .ref h_seconds, .int h_turned, .int h_roundMany, .ref h_roundDoors]))] (S := Unit) (fun (r : Int32) (u : Unit) => (r = (F_H_hasKey h_keys k)) ∧ (r = 0 ∨ r = 1)) (fun (u : Unit) => [(h, .inr (2, [.int h_features, .ref h_featureNames, .ref h_steps, .ref h_turnedFeatures, .ref h_sixteenths, .int h_keys, .ref h_keySteps, .int h_lent, .int h_rings, .ref h_on, .ref h_onMany, .int h_doors, .ref h_wanted, .ref h_openers, .ref h_seconds, .int h_turned, .int h_roundMany, .ref h_roundDoors]))]) 0 0 := by
  refine z_start2z (own := RX2) (by decide) (Nat.le_of_ble_eq_true rfl) rfl ?_
  intro p e s m args below meth c A ls Q hx hb hml hts hown hK hE hT hP hD hS hA hl hret
  have hl : lv_has ls 2 [(0, .ref h), (1, .int k)] := hl
  refine lv_iload_n hx hb dX2_hasKey_0 rfl (lv_at hl 1 rfl) ?_
  refine lv_if_lt (tgt := 16) hx hb dX2_hasKey_1 (by decide) (fun c_1 => ?_) (fun c_1 => ?_)
  · have b_2 := z_b3 c_1 (K := 0) (by decide +kernel)
    refine lv_iconst (v := 0) hx hb dX2_hasKey_16 (by decide) ?_
    have hX_3 : F_H_hasKey h_keys k = ((0 : Int32) : Int32) := by
      refine (F_H_hasKey_s ..).trans ?_
      refine (if_pos c_1).trans ?_
      exact rfl
    exact hret _ _ _ _ _ _ () [0] hP hD hS rfl (by decide) dX2_hasKey_17 (Or.inl rfl) ⟨(congrArg (fun z9 => z9) hX_3).symm, (Or.inl rfl)⟩
  · have b_4 := z_b4 c_1 (K := 0) (by decide +kernel)
    refine lv_iload_n hx hb dX2_hasKey_4 rfl (lv_at hl 1 rfl) ?_
    refine lv_aload_n hx hb dX2_hasKey_5 rfl (lv_at hl 0 rfl) ?_
    refine va_get (D := G) (ci := 2) (v := .int h_keys) (C := RX2) (T := TX2) (N := 18) hx hb hts inT2 hown hK hP 0 rfl rfl 5 (by decide) (hts _ tw_274) (fun _ h9 => h9) rfl dX2_hasKey_6 ?_
    refine lv_icmp_ge (tgt := 16) hx hb dX2_hasKey_9 (by decide) (fun c_5 => ?_) (fun c_5 => ?_)
    · have b_6 := z_s1 c_5
      refine lv_iconst (v := 0) hx hb dX2_hasKey_16 (by decide) ?_
      have hX_7 : F_H_hasKey h_keys k = ((0 : Int32) : Int32) := by
        refine (F_H_hasKey_s ..).trans ?_
        refine (if_neg c_1).trans ?_
        refine (if_pos c_5).trans ?_
        exact rfl
      exact hret _ _ _ _ _ _ () [0] hP hD hS rfl (by decide) dX2_hasKey_17 (Or.inl rfl) ⟨(congrArg (fun z9 => z9) hX_7).symm, (Or.inl rfl)⟩
    · have b_8 := z_t2 c_5
      refine lv_iconst (v := 1) hx hb dX2_hasKey_12 (by decide) ?_
      refine lv_goto (tgt := 17) hx hb dX2_hasKey_13 (by decide) ?_
      have hX_9 : F_H_hasKey h_keys k = ((1 : Int32) : Int32) := by
        refine (F_H_hasKey_s ..).trans ?_
        refine (if_neg c_1).trans ?_
        refine (if_neg c_5).trans ?_
        exact rfl
      exact hret _ _ _ _ _ _ () [0] hP hD hS rfl (by decide) dX2_hasKey_17 (Or.inr rfl) ⟨(congrArg (fun z9 => z9) hX_9).symm, (Or.inr rfl)⟩
set_option maxHeartbeats 40000000 in
set_option maxRecDepth 100000 in
theorem d_H_hasDoor (l : Launch) (G : va_G) (cA : zCA) (h : Nat) (h_features : Int32) (h_featureNames : Nat) (h_steps : Nat) (h_turnedFeatures : Nat) (h_sixteenths : Nat) (h_keys : Int32) (h_keySteps : Nat) (h_lent : Int32) (h_rings : Int32) (h_on : Nat) (h_onMany : Nat) (h_doors : Int32) (h_wanted : Nat) (h_openers : Nat) (h_seconds : Nat) (h_turned : Int32) (h_roundMany : Int32) (h_roundDoors : Nat) (k : Int32) (hm_h_features : 0 ≤ h_features.toInt ∧ h_features.toInt ≤ 3) : zCi l yX2_hasDoor cX2_hasDoor 2 (some .boolean) ({ frames := 0, cells := 0, slots := 0, locals := 0 }) G cA [.ref h, .int k] [(h, .inr (2, [.int h_features, .ref h_featureNames, .ref h_steps, .ref h_turnedFeatures, .ref h_sixteenths, .int h_keys, .ref h_keySteps, .int h_lent, .int h_rings, .ref h_on, .ref h_onMany, .int h_doors, .ref h_wanted, .ref h_openers, .ref h_seconds, .int h_turned, .int h_roundMany, .ref h_roundDoors]))] (S := Unit) (fun (r : Int32) (u : Unit) => (r = (F_H_hasDoor h_doors k)) ∧ (r = 0 ∨ r = 1)) (fun (u : Unit) => [(h, .inr (2, [.int h_features, .ref h_featureNames, .ref h_steps, .ref h_turnedFeatures, .ref h_sixteenths, .int h_keys, .ref h_keySteps, .int h_lent, .int h_rings, .ref h_on, .ref h_onMany, .int h_doors, .ref h_wanted, .ref h_openers, .ref h_seconds, .int h_turned, .int h_roundMany, .ref h_roundDoors]))]) 0 0 := by
  refine z_start2z (own := RX2) (by decide) (Nat.le_of_ble_eq_true rfl) rfl ?_
  intro p e s m args below meth c A ls Q hx hb hml hts hown hK hE hT hP hD hS hA hl hret
  have hl : lv_has ls 2 [(0, .ref h), (1, .int k)] := hl
  refine lv_iload_n hx hb dX2_hasDoor_0 rfl (lv_at hl 1 rfl) ?_
  refine lv_if_lt (tgt := 16) hx hb dX2_hasDoor_1 (by decide) (fun c_1 => ?_) (fun c_1 => ?_)
  · have b_2 := z_b3 c_1 (K := 0) (by decide +kernel)
    refine lv_iconst (v := 0) hx hb dX2_hasDoor_16 (by decide) ?_
    have hX_3 : F_H_hasDoor h_doors k = ((0 : Int32) : Int32) := by
      refine (F_H_hasDoor_s ..).trans ?_
      refine (if_pos c_1).trans ?_
      exact rfl
    exact hret _ _ _ _ _ _ () [0] hP hD hS rfl (by decide) dX2_hasDoor_17 (Or.inl rfl) ⟨(congrArg (fun z9 => z9) hX_3).symm, (Or.inl rfl)⟩
  · have b_4 := z_b4 c_1 (K := 0) (by decide +kernel)
    refine lv_iload_n hx hb dX2_hasDoor_4 rfl (lv_at hl 1 rfl) ?_
    refine lv_aload_n hx hb dX2_hasDoor_5 rfl (lv_at hl 0 rfl) ?_
    refine va_get (D := G) (ci := 2) (v := .int h_doors) (C := RX2) (T := TX2) (N := 18) hx hb hts inT2 hown hK hP 0 rfl rfl 11 (by decide) (hts _ tw_285) (fun _ h9 => h9) rfl dX2_hasDoor_6 ?_
    refine lv_icmp_ge (tgt := 16) hx hb dX2_hasDoor_9 (by decide) (fun c_5 => ?_) (fun c_5 => ?_)
    · have b_6 := z_s1 c_5
      refine lv_iconst (v := 0) hx hb dX2_hasDoor_16 (by decide) ?_
      have hX_7 : F_H_hasDoor h_doors k = ((0 : Int32) : Int32) := by
        refine (F_H_hasDoor_s ..).trans ?_
        refine (if_neg c_1).trans ?_
        refine (if_pos c_5).trans ?_
        exact rfl
      exact hret _ _ _ _ _ _ () [0] hP hD hS rfl (by decide) dX2_hasDoor_17 (Or.inl rfl) ⟨(congrArg (fun z9 => z9) hX_7).symm, (Or.inl rfl)⟩
    · have b_8 := z_t2 c_5
      refine lv_iconst (v := 1) hx hb dX2_hasDoor_12 (by decide) ?_
      refine lv_goto (tgt := 17) hx hb dX2_hasDoor_13 (by decide) ?_
      have hX_9 : F_H_hasDoor h_doors k = ((1 : Int32) : Int32) := by
        refine (F_H_hasDoor_s ..).trans ?_
        refine (if_neg c_1).trans ?_
        refine (if_neg c_5).trans ?_
        exact rfl
      exact hret _ _ _ _ _ _ () [0] hP hD hS rfl (by decide) dX2_hasDoor_17 (Or.inr rfl) ⟨(congrArg (fun z9 => z9) hX_9).symm, (Or.inr rfl)⟩
set_option maxHeartbeats 40000000 in
set_option maxRecDepth 100000 in
theorem d_H_hasRing (l : Launch) (G : va_G) (cA : zCA) (h : Nat) (h_features : Int32) (h_featureNames : Nat) (h_steps : Nat) (h_turnedFeatures : Nat) (h_sixteenths : Nat) (h_keys : Int32) (h_keySteps : Nat) (h_lent : Int32) (h_rings : Int32) (h_on : Nat) (h_onMany : Nat) (h_doors : Int32) (h_wanted : Nat) (h_openers : Nat) (h_seconds : Nat) (h_turned : Int32) (h_roundMany : Int32) (h_roundDoors : Nat) (k : Int32) (hm_h_features : 0 ≤ h_features.toInt ∧ h_features.toInt ≤ 3) : zCi l yX2_hasRing cX2_hasRing 2 (some .boolean) ({ frames := 0, cells := 0, slots := 0, locals := 0 }) G cA [.ref h, .int k] [(h, .inr (2, [.int h_features, .ref h_featureNames, .ref h_steps, .ref h_turnedFeatures, .ref h_sixteenths, .int h_keys, .ref h_keySteps, .int h_lent, .int h_rings, .ref h_on, .ref h_onMany, .int h_doors, .ref h_wanted, .ref h_openers, .ref h_seconds, .int h_turned, .int h_roundMany, .ref h_roundDoors]))] (S := Unit) (fun (r : Int32) (u : Unit) => (r = (F_H_hasRing h_rings k)) ∧ ((r.toInt = zin h_rings.toInt k.toInt) ∧ (r = 0 ∨ r = 1))) (fun (u : Unit) => [(h, .inr (2, [.int h_features, .ref h_featureNames, .ref h_steps, .ref h_turnedFeatures, .ref h_sixteenths, .int h_keys, .ref h_keySteps, .int h_lent, .int h_rings, .ref h_on, .ref h_onMany, .int h_doors, .ref h_wanted, .ref h_openers, .ref h_seconds, .int h_turned, .int h_roundMany, .ref h_roundDoors]))]) 0 0 := by
  refine z_start2z (own := RX2) (by decide) (Nat.le_of_ble_eq_true rfl) rfl ?_
  intro p e s m args below meth c A ls Q hx hb hml hts hown hK hE hT hP hD hS hA hl hret
  have hl : lv_has ls 2 [(0, .ref h), (1, .int k)] := hl
  refine lv_iload_n hx hb dX2_hasRing_0 rfl (lv_at hl 1 rfl) ?_
  refine lv_if_lt (tgt := 16) hx hb dX2_hasRing_1 (by decide) (fun c_1 => ?_) (fun c_1 => ?_)
  · have b_2 := z_b3 c_1 (K := 0) (by decide +kernel)
    refine lv_iconst (v := 0) hx hb dX2_hasRing_16 (by decide) ?_
    have hX_3 : F_H_hasRing h_rings k = ((0 : Int32) : Int32) := by
      refine (F_H_hasRing_s ..).trans ?_
      refine (if_pos c_1).trans ?_
      exact rfl
    exact hret _ _ _ _ _ _ () [0] hP hD hS rfl (by decide) dX2_hasRing_17 (Or.inl rfl) ⟨(congrArg (fun z9 => z9) hX_3).symm, ⟨(z_zin0 (by omega)), (Or.inl rfl)⟩⟩
  · have b_4 := z_b4 c_1 (K := 0) (by decide +kernel)
    refine lv_iload_n hx hb dX2_hasRing_4 rfl (lv_at hl 1 rfl) ?_
    refine lv_aload_n hx hb dX2_hasRing_5 rfl (lv_at hl 0 rfl) ?_
    refine va_get (D := G) (ci := 2) (v := .int h_rings) (C := RX2) (T := TX2) (N := 18) hx hb hts inT2 hown hK hP 0 rfl rfl 8 (by decide) (hts _ tw_279) (fun _ h9 => h9) rfl dX2_hasRing_6 ?_
    refine lv_icmp_ge (tgt := 16) hx hb dX2_hasRing_9 (by decide) (fun c_5 => ?_) (fun c_5 => ?_)
    · have b_6 := z_s1 c_5
      refine lv_iconst (v := 0) hx hb dX2_hasRing_16 (by decide) ?_
      have hX_7 : F_H_hasRing h_rings k = ((0 : Int32) : Int32) := by
        refine (F_H_hasRing_s ..).trans ?_
        refine (if_neg c_1).trans ?_
        refine (if_pos c_5).trans ?_
        exact rfl
      exact hret _ _ _ _ _ _ () [0] hP hD hS rfl (by decide) dX2_hasRing_17 (Or.inl rfl) ⟨(congrArg (fun z9 => z9) hX_7).symm, ⟨(z_zin0 (by omega)), (Or.inl rfl)⟩⟩
    · have b_8 := z_t2 c_5
      refine lv_iconst (v := 1) hx hb dX2_hasRing_12 (by decide) ?_
      refine lv_goto (tgt := 17) hx hb dX2_hasRing_13 (by decide) ?_
      have hX_9 : F_H_hasRing h_rings k = ((1 : Int32) : Int32) := by
        refine (F_H_hasRing_s ..).trans ?_
        refine (if_neg c_1).trans ?_
        refine (if_neg c_5).trans ?_
        exact rfl
      exact hret _ _ _ _ _ _ () [0] hP hD hS rfl (by decide) dX2_hasRing_17 (Or.inr rfl) ⟨(congrArg (fun z9 => z9) hX_9).symm, ⟨(z_zin1 (by omega) (by omega)), (Or.inr rfl)⟩⟩
set_option maxHeartbeats 40000000 in
set_option maxRecDepth 100000 in
theorem d_H_stepsOf (l : Launch) (G : va_G) (cA : zCA) (h : Nat) (h_features : Int32) (h_featureNames : Nat) (h_steps : Nat) (h_turnedFeatures : Nat) (h_sixteenths : Nat) (h_keys : Int32) (h_keySteps : Nat) (h_lent : Int32) (h_rings : Int32) (h_on : Nat) (h_onMany : Nat) (h_doors : Int32) (h_wanted : Nat) (h_openers : Nat) (h_seconds : Nat) (h_turned : Int32) (h_roundMany : Int32) (h_roundDoors : Nat) (c_h_steps : Nat → Int32) (k : Int32) (hm_h_features : 0 ≤ h_features.toInt ∧ h_features.toInt ≤ 3) : zCi l yX2_stepsOf cX2_stepsOf 2 (some .int) ({ frames := 1, cells := 0, slots := 0, locals := 21 }) G cA [.ref h, .int k] [(h, .inr (2, [.int h_features, .ref h_featureNames, .ref h_steps, .ref h_turnedFeatures, .ref h_sixteenths, .int h_keys, .ref h_keySteps, .int h_lent, .int h_rings, .ref h_on, .ref h_onMany, .int h_doors, .ref h_wanted, .ref h_openers, .ref h_seconds, .int h_turned, .int h_roundMany, .ref h_roundDoors])), (h_steps, .inl (cA.1 0, 3, .inl c_h_steps))] (S := Unit) (fun (r : Int32) (u : Unit) => (r = (F_H_stepsOf h_features c_h_steps k)) ∧ (True)) (fun (u : Unit) => [(h, .inr (2, [.int h_features, .ref h_featureNames, .ref h_steps, .ref h_turnedFeatures, .ref h_sixteenths, .int h_keys, .ref h_keySteps, .int h_lent, .int h_rings, .ref h_on, .ref h_onMany, .int h_doors, .ref h_wanted, .ref h_openers, .ref h_seconds, .int h_turned, .int h_roundMany, .ref h_roundDoors])), (h_steps, .inl (cA.1 0, 3, .inl c_h_steps))]) 0 0 := by
  refine z_start2i (own := RX2) (by decide) (Nat.le_of_ble_eq_true rfl) rfl ?_
  intro p e s m args below meth c A ls Q hx hb hml hts hown hK hE hT hP hD hS hA hl hret
  have hl : lv_has ls 2 [(0, .ref h), (1, .int k)] := hl
  refine lv_aload_n hx hb dX2_stepsOf_0 rfl (lv_at hl 0 rfl) ?_
  refine lv_iload_n hx hb dX2_stepsOf_1 rfl (lv_at hl 1 rfl) ?_
  refine z_callVi (As := [.int k]) (rest := []) (wr := [(h_steps, .inl (cA.1 0, 3, .inl c_h_steps))]) ⟨hx, hb, hml, hown, hts⟩ hK hE hT hP hD hS hA (d_H_hasFeature l G cA h h_features h_featureNames h_steps h_turnedFeatures h_sixteenths h_keys h_keySteps h_lent h_rings h_on h_onMany h_doors h_wanted h_openers h_seconds h_turned h_roundMany h_roundDoors k (by omega)) lk_RX2_85 ⟨rfl, rfl⟩ ⟨Nat.le_of_ble_eq_true rfl, Nat.le_of_ble_eq_true rfl⟩ 2 rfl rfl rfl [0] [1] rfl rfl (by decide) rfl hl.1 rfl (lv_room (Nat.le_of_ble_eq_true rfl)) dX2_stepsOf_2 ⟨Nat.le_of_ble_eq_true rfl, Nat.le_of_ble_eq_true rfl⟩ (fun r_1 u_2 H locs hw hP hD hS => ?_)
  have hP : va_P G vwCl [(h_steps, .inl (cA.1 0, 3, .inl c_h_steps)), (h, .inr (2, [.int h_features, .ref h_featureNames, .ref h_steps, .ref h_turnedFeatures, .ref h_sixteenths, .int h_keys, .ref h_keySteps, .int h_lent, .int h_rings, .ref h_on, .ref h_onMany, .int h_doors, .ref h_wanted, .ref h_openers, .ref h_seconds, .int h_turned, .int h_roundMany, .ref h_roundDoors]))] H := hP
  have hD : va_D A [(h_steps, .inl (cA.1 0, 3, .inl c_h_steps)), (h, .inr (2, [.int h_features, .ref h_featureNames, .ref h_steps, .ref h_turnedFeatures, .ref h_sixteenths, .int h_keys, .ref h_keySteps, .int h_lent, .int h_rings, .ref h_on, .ref h_onMany, .int h_doors, .ref h_wanted, .ref h_openers, .ref h_seconds, .int h_turned, .int h_roundMany, .ref h_roundDoors]))] := hD
  obtain ⟨he_r_1, hw⟩ := hw
  have hz_r_1 := hw
  refine lv_if_eq (tgt := 19) hx hb dX2_stepsOf_5 (by decide) (fun c_4 => ?_) (fun c_4 => ?_)
  · skip
    refine lv_iconst (v := 0) hx hb dX2_stepsOf_19 (by decide) ?_
    have hX_6 : F_H_stepsOf h_features c_h_steps k = ((0 : Int32) : Int32) := by
      refine (F_H_stepsOf_s ..).trans ?_
      extract_lets -merge -useContext +onlyGivenNames w9 y9; have e9 : r_1 = w9 := he_r_1; clear_value w9; subst e9
      refine (if_pos c_4).trans ?_
      exact rfl
    exact hret _ _ _ _ _ _ () [1, 0] hP hD hS rfl (by decide) dX2_stepsOf_20 ⟨(congrArg (fun z9 => z9) hX_6).symm, trivial⟩
  · skip
    refine lv_aload_n hx hb dX2_stepsOf_8 rfl (lv_at hl 0 rfl) ?_
    refine va_get (D := G) (ci := 2) (v := .ref h_steps) (C := RX2) (T := TX2) (N := 18) hx hb hts inT2 hown hK hP 1 rfl rfl 2 (by decide) (hts _ tw_271) (fun _ h9 => h9) rfl dX2_stepsOf_9 ?_
    refine lv_iload_n hx hb dX2_stepsOf_12 rfl (lv_at hl 1 rfl) ?_
    refine z_callSNi (As := [.ref h_steps, .int k]) (rest := []) (wr := [(h, .inr (2, [.int h_features, .ref h_featureNames, .ref h_steps, .ref h_turnedFeatures, .ref h_sixteenths, .int h_keys, .ref h_keySteps, .int h_lent, .int h_rings, .ref h_on, .ref h_onMany, .int h_doors, .ref h_wanted, .ref h_openers, .ref h_seconds, .int h_turned, .int h_roundMany, .ref h_roundDoors]))]) ⟨hx, hb, hml, hown, hts⟩ hK hE hT hP hD hS hA (d_at_3 l G cA h_steps c_h_steps k) lk_RX2_89 ⟨rfl, rfl⟩ ⟨Nat.le_of_ble_eq_true rfl, Nat.le_of_ble_eq_true rfl⟩ [0] [1] rfl rfl (by decide) rfl hl.1 rfl (lv_room (Nat.le_of_ble_eq_true rfl)) dX2_stepsOf_13 ⟨Nat.le_of_ble_eq_true rfl, Nat.le_of_ble_eq_true rfl⟩ (fun r_8 u_9 H locs hw hP hD hS => ?_)
    have hP : va_P G vwCl [(h, .inr (2, [.int h_features, .ref h_featureNames, .ref h_steps, .ref h_turnedFeatures, .ref h_sixteenths, .int h_keys, .ref h_keySteps, .int h_lent, .int h_rings, .ref h_on, .ref h_onMany, .int h_doors, .ref h_wanted, .ref h_openers, .ref h_seconds, .int h_turned, .int h_roundMany, .ref h_roundDoors])), (h_steps, .inl (cA.1 0, 3, .inl c_h_steps))] H := hP
    have hD : va_D A [(h, .inr (2, [.int h_features, .ref h_featureNames, .ref h_steps, .ref h_turnedFeatures, .ref h_sixteenths, .int h_keys, .ref h_keySteps, .int h_lent, .int h_rings, .ref h_on, .ref h_onMany, .int h_doors, .ref h_wanted, .ref h_openers, .ref h_seconds, .int h_turned, .int h_roundMany, .ref h_roundDoors])), (h_steps, .inl (cA.1 0, 3, .inl c_h_steps))] := hD
    obtain ⟨he_r_8, hw⟩ := hw
    have hx_r_8 := hw
    refine lv_goto (tgt := 20) hx hb dX2_stepsOf_16 (by decide) ?_
    have hX_11 : F_H_stepsOf h_features c_h_steps k = (r_8 : Int32) := by
      refine (F_H_stepsOf_s ..).trans ?_
      extract_lets -merge -useContext +onlyGivenNames w9 y9; have e9 : r_1 = w9 := he_r_1; clear_value w9; subst e9
      refine (if_neg c_4).trans ?_
      extract_lets -merge -useContext +onlyGivenNames w9 y9; have e9 : r_8 = w9 := he_r_8; clear_value w9; subst e9
      exact rfl
    exact hret _ _ _ _ _ _ () [0, 1] hP hD hS rfl (by decide) dX2_stepsOf_20 ⟨(congrArg (fun z9 => z9) hX_11).symm, trivial⟩
set_option maxHeartbeats 40000000 in
set_option maxRecDepth 100000 in
theorem d_H_hasStep (l : Launch) (G : va_G) (cA : zCA) (h : Nat) (h_features : Int32) (h_featureNames : Nat) (h_steps : Nat) (h_turnedFeatures : Nat) (h_sixteenths : Nat) (h_keys : Int32) (h_keySteps : Nat) (h_lent : Int32) (h_rings : Int32) (h_on : Nat) (h_onMany : Nat) (h_doors : Int32) (h_wanted : Nat) (h_openers : Nat) (h_seconds : Nat) (h_turned : Int32) (h_roundMany : Int32) (h_roundDoors : Nat) (c_h_steps : Nat → Int32) (k : Int32) (j : Int32) (hm_h_features : 0 ≤ h_features.toInt ∧ h_features.toInt ≤ 3) : zCi l yX2_hasStep cX2_hasStep 3 (some .boolean) ({ frames := 2, cells := 0, slots := 0, locals := 42 }) G cA [.ref h, .int k, .int j] [(h, .inr (2, [.int h_features, .ref h_featureNames, .ref h_steps, .ref h_turnedFeatures, .ref h_sixteenths, .int h_keys, .ref h_keySteps, .int h_lent, .int h_rings, .ref h_on, .ref h_onMany, .int h_doors, .ref h_wanted, .ref h_openers, .ref h_seconds, .int h_turned, .int h_roundMany, .ref h_roundDoors])), (h_steps, .inl (cA.1 0, 3, .inl c_h_steps))] (S := Unit) (fun (r : Int32) (u : Unit) => (r = (F_H_hasStep h_features c_h_steps k j)) ∧ (r = 0 ∨ r = 1)) (fun (u : Unit) => [(h, .inr (2, [.int h_features, .ref h_featureNames, .ref h_steps, .ref h_turnedFeatures, .ref h_sixteenths, .int h_keys, .ref h_keySteps, .int h_lent, .int h_rings, .ref h_on, .ref h_onMany, .int h_doors, .ref h_wanted, .ref h_openers, .ref h_seconds, .int h_turned, .int h_roundMany, .ref h_roundDoors])), (h_steps, .inl (cA.1 0, 3, .inl c_h_steps))]) 0 0 := by
  refine z_start2z (own := RX2) (by decide) (Nat.le_of_ble_eq_true rfl) rfl ?_
  intro p e s m args below meth c A ls Q hx hb hml hts hown hK hE hT hP hD hS hA hl hret
  have hl : lv_has ls 3 [(0, .ref h), (1, .int k), (2, .int j)] := hl
  refine lv_iload_n hx hb dX2_hasStep_0 rfl (lv_at hl 2 rfl) ?_
  refine lv_if_lt (tgt := 17) hx hb dX2_hasStep_1 (by decide) (fun c_1 => ?_) (fun c_1 => ?_)
  · have b_2 := z_b3 c_1 (K := 0) (by decide +kernel)
    refine lv_iconst (v := 0) hx hb dX2_hasStep_17 (by decide) ?_
    have hX_3 : F_H_hasStep h_features c_h_steps k j = ((0 : Int32) : Int32) := by
      refine (F_H_hasStep_s ..).trans ?_
      refine (if_pos c_1).trans ?_
      exact rfl
    exact hret _ _ _ _ _ _ () [0, 1] hP hD hS rfl (by decide) dX2_hasStep_18 (Or.inl rfl) ⟨(congrArg (fun z9 => z9) hX_3).symm, (Or.inl rfl)⟩
  · have b_4 := z_b4 c_1 (K := 0) (by decide +kernel)
    refine lv_iload_n hx hb dX2_hasStep_4 rfl (lv_at hl 2 rfl) ?_
    refine lv_aload_n hx hb dX2_hasStep_5 rfl (lv_at hl 0 rfl) ?_
    refine lv_iload_n hx hb dX2_hasStep_6 rfl (lv_at hl 1 rfl) ?_
    refine z_callVi (As := [.int k]) (rest := [.int j]) (wr := []) ⟨hx, hb, hml, hown, hts⟩ hK hE hT hP hD hS hA (d_H_stepsOf l G cA h h_features h_featureNames h_steps h_turnedFeatures h_sixteenths h_keys h_keySteps h_lent h_rings h_on h_onMany h_doors h_wanted h_openers h_seconds h_turned h_roundMany h_roundDoors c_h_steps k (by omega)) lk_RX2_81 ⟨rfl, rfl⟩ ⟨Nat.le_of_ble_eq_true rfl, Nat.le_of_ble_eq_true rfl⟩ 2 rfl rfl rfl [0, 1] [] rfl rfl (by decide) rfl hl.1 rfl (lv_room (Nat.le_of_ble_eq_true rfl)) dX2_hasStep_7 ⟨Nat.le_of_ble_eq_true rfl, Nat.le_of_ble_eq_true rfl⟩ (fun r_5 u_6 H locs hw hP hD hS => ?_)
    have hP : va_P G vwCl [(h, .inr (2, [.int h_features, .ref h_featureNames, .ref h_steps, .ref h_turnedFeatures, .ref h_sixteenths, .int h_keys, .ref h_keySteps, .int h_lent, .int h_rings, .ref h_on, .ref h_onMany, .int h_doors, .ref h_wanted, .ref h_openers, .ref h_seconds, .int h_turned, .int h_roundMany, .ref h_roundDoors])), (h_steps, .inl (cA.1 0, 3, .inl c_h_steps))] H := hP
    have hD : va_D A [(h, .inr (2, [.int h_features, .ref h_featureNames, .ref h_steps, .ref h_turnedFeatures, .ref h_sixteenths, .int h_keys, .ref h_keySteps, .int h_lent, .int h_rings, .ref h_on, .ref h_onMany, .int h_doors, .ref h_wanted, .ref h_openers, .ref h_seconds, .int h_turned, .int h_roundMany, .ref h_roundDoors])), (h_steps, .inl (cA.1 0, 3, .inl c_h_steps))] := hD
    obtain ⟨he_r_5, hw⟩ := hw
    refine lv_icmp_ge (tgt := 17) hx hb dX2_hasStep_10 (by decide) (fun c_8 => ?_) (fun c_8 => ?_)
    · have b_9 := z_s1 c_8
      refine lv_iconst (v := 0) hx hb dX2_hasStep_17 (by decide) ?_
      have hX_10 : F_H_hasStep h_features c_h_steps k j = ((0 : Int32) : Int32) := by
        refine (F_H_hasStep_s ..).trans ?_
        refine (if_neg c_1).trans ?_
        extract_lets -merge -useContext +onlyGivenNames w9 y9; have e9 : r_5 = w9 := he_r_5; clear_value w9; subst e9
        refine (if_pos c_8).trans ?_
        exact rfl
      exact hret _ _ _ _ _ _ () [0, 1] hP hD hS rfl (by decide) dX2_hasStep_18 (Or.inl rfl) ⟨(congrArg (fun z9 => z9) hX_10).symm, (Or.inl rfl)⟩
    · have b_11 := z_t2 c_8
      refine lv_iconst (v := 1) hx hb dX2_hasStep_13 (by decide) ?_
      refine lv_goto (tgt := 18) hx hb dX2_hasStep_14 (by decide) ?_
      have hX_12 : F_H_hasStep h_features c_h_steps k j = ((1 : Int32) : Int32) := by
        refine (F_H_hasStep_s ..).trans ?_
        refine (if_neg c_1).trans ?_
        extract_lets -merge -useContext +onlyGivenNames w9 y9; have e9 : r_5 = w9 := he_r_5; clear_value w9; subst e9
        refine (if_neg c_8).trans ?_
        exact rfl
      exact hret _ _ _ _ _ _ () [0, 1] hP hD hS rfl (by decide) dX2_hasStep_18 (Or.inr rfl) ⟨(congrArg (fun z9 => z9) hX_12).symm, (Or.inr rfl)⟩
set_option maxHeartbeats 40000000 in
set_option maxRecDepth 100000 in
theorem d_H_isTurned (l : Launch) (G : va_G) (cA : zCA) (h : Nat) (h_features : Int32) (h_featureNames : Nat) (h_steps : Nat) (h_turnedFeatures : Nat) (h_sixteenths : Nat) (h_keys : Int32) (h_keySteps : Nat) (h_lent : Int32) (h_rings : Int32) (h_on : Nat) (h_onMany : Nat) (h_doors : Int32) (h_wanted : Nat) (h_openers : Nat) (h_seconds : Nat) (h_turned : Int32) (h_roundMany : Int32) (h_roundDoors : Nat) (c_h_turnedFeatures : Nat → Int32) (k : Int32) (hm_h_features : 0 ≤ h_features.toInt ∧ h_features.toInt ≤ 3) : zCi l yX2_isTurned cX2_isTurned 2 (some .boolean) ({ frames := 1, cells := 0, slots := 0, locals := 21 }) G cA [.ref h, .int k] [(h, .inr (2, [.int h_features, .ref h_featureNames, .ref h_steps, .ref h_turnedFeatures, .ref h_sixteenths, .int h_keys, .ref h_keySteps, .int h_lent, .int h_rings, .ref h_on, .ref h_onMany, .int h_doors, .ref h_wanted, .ref h_openers, .ref h_seconds, .int h_turned, .int h_roundMany, .ref h_roundDoors])), (h_turnedFeatures, .inl (cA.1 0, 3, .inl c_h_turnedFeatures))] (S := Unit) (fun (r : Int32) (u : Unit) => (r = (F_H_isTurned h_features c_h_turnedFeatures k)) ∧ (r = 0 ∨ r = 1)) (fun (u : Unit) => [(h, .inr (2, [.int h_features, .ref h_featureNames, .ref h_steps, .ref h_turnedFeatures, .ref h_sixteenths, .int h_keys, .ref h_keySteps, .int h_lent, .int h_rings, .ref h_on, .ref h_onMany, .int h_doors, .ref h_wanted, .ref h_openers, .ref h_seconds, .int h_turned, .int h_roundMany, .ref h_roundDoors])), (h_turnedFeatures, .inl (cA.1 0, 3, .inl c_h_turnedFeatures))]) 0 0 := by
  refine z_start2z (own := RX2) (by decide) (Nat.le_of_ble_eq_true rfl) rfl ?_
  intro p e s m args below meth c A ls Q hx hb hml hts hown hK hE hT hP hD hS hA hl hret
  have hl : lv_has ls 2 [(0, .ref h), (1, .int k)] := hl
  refine lv_aload_n hx hb dX2_isTurned_0 rfl (lv_at hl 0 rfl) ?_
  refine lv_iload_n hx hb dX2_isTurned_1 rfl (lv_at hl 1 rfl) ?_
  refine z_callVi (As := [.int k]) (rest := []) (wr := [(h_turnedFeatures, .inl (cA.1 0, 3, .inl c_h_turnedFeatures))]) ⟨hx, hb, hml, hown, hts⟩ hK hE hT hP hD hS hA (d_H_hasFeature l G cA h h_features h_featureNames h_steps h_turnedFeatures h_sixteenths h_keys h_keySteps h_lent h_rings h_on h_onMany h_doors h_wanted h_openers h_seconds h_turned h_roundMany h_roundDoors k (by omega)) lk_RX2_85 ⟨rfl, rfl⟩ ⟨Nat.le_of_ble_eq_true rfl, Nat.le_of_ble_eq_true rfl⟩ 2 rfl rfl rfl [0] [1] rfl rfl (by decide) rfl hl.1 rfl (lv_room (Nat.le_of_ble_eq_true rfl)) dX2_isTurned_2 ⟨Nat.le_of_ble_eq_true rfl, Nat.le_of_ble_eq_true rfl⟩ (fun r_1 u_2 H locs hw hP hD hS => ?_)
  have hP : va_P G vwCl [(h_turnedFeatures, .inl (cA.1 0, 3, .inl c_h_turnedFeatures)), (h, .inr (2, [.int h_features, .ref h_featureNames, .ref h_steps, .ref h_turnedFeatures, .ref h_sixteenths, .int h_keys, .ref h_keySteps, .int h_lent, .int h_rings, .ref h_on, .ref h_onMany, .int h_doors, .ref h_wanted, .ref h_openers, .ref h_seconds, .int h_turned, .int h_roundMany, .ref h_roundDoors]))] H := hP
  have hD : va_D A [(h_turnedFeatures, .inl (cA.1 0, 3, .inl c_h_turnedFeatures)), (h, .inr (2, [.int h_features, .ref h_featureNames, .ref h_steps, .ref h_turnedFeatures, .ref h_sixteenths, .int h_keys, .ref h_keySteps, .int h_lent, .int h_rings, .ref h_on, .ref h_onMany, .int h_doors, .ref h_wanted, .ref h_openers, .ref h_seconds, .int h_turned, .int h_roundMany, .ref h_roundDoors]))] := hD
  obtain ⟨he_r_1, hw⟩ := hw
  have hz_r_1 := hw
  refine lv_if_eq (tgt := 24) hx hb dX2_isTurned_5 (by decide) (fun c_4 => ?_) (fun c_4 => ?_)
  · skip
    refine lv_iconst (v := 0) hx hb dX2_isTurned_24 (by decide) ?_
    have hX_6 : F_H_isTurned h_features c_h_turnedFeatures k = ((0 : Int32) : Int32) := by
      refine (F_H_isTurned_s ..).trans ?_
      extract_lets -merge -useContext +onlyGivenNames w9 y9; have e9 : r_1 = w9 := he_r_1; clear_value w9; subst e9
      refine (if_pos c_4).trans ?_
      exact rfl
    exact hret _ _ _ _ _ _ () [1, 0] hP hD hS rfl (by decide) dX2_isTurned_25 (Or.inl rfl) ⟨(congrArg (fun z9 => z9) hX_6).symm, (Or.inl rfl)⟩
  · skip
    refine lv_aload_n hx hb dX2_isTurned_8 rfl (lv_at hl 0 rfl) ?_
    refine va_get (D := G) (ci := 2) (v := .ref h_turnedFeatures) (C := RX2) (T := TX2) (N := 18) hx hb hts inT2 hown hK hP 1 rfl rfl 3 (by decide) (hts _ tw_272) (fun _ h9 => h9) rfl dX2_isTurned_9 ?_
    refine lv_iload_n hx hb dX2_isTurned_12 rfl (lv_at hl 1 rfl) ?_
    refine z_callSNi (As := [.ref h_turnedFeatures, .int k]) (rest := []) (wr := [(h, .inr (2, [.int h_features, .ref h_featureNames, .ref h_steps, .ref h_turnedFeatures, .ref h_sixteenths, .int h_keys, .ref h_keySteps, .int h_lent, .int h_rings, .ref h_on, .ref h_onMany, .int h_doors, .ref h_wanted, .ref h_openers, .ref h_seconds, .int h_turned, .int h_roundMany, .ref h_roundDoors]))]) ⟨hx, hb, hml, hown, hts⟩ hK hE hT hP hD hS hA (d_at_3 l G cA h_turnedFeatures c_h_turnedFeatures k) lk_RX2_89 ⟨rfl, rfl⟩ ⟨Nat.le_of_ble_eq_true rfl, Nat.le_of_ble_eq_true rfl⟩ [0] [1] rfl rfl (by decide) rfl hl.1 rfl (lv_room (Nat.le_of_ble_eq_true rfl)) dX2_isTurned_13 ⟨Nat.le_of_ble_eq_true rfl, Nat.le_of_ble_eq_true rfl⟩ (fun r_8 u_9 H locs hw hP hD hS => ?_)
    have hP : va_P G vwCl [(h, .inr (2, [.int h_features, .ref h_featureNames, .ref h_steps, .ref h_turnedFeatures, .ref h_sixteenths, .int h_keys, .ref h_keySteps, .int h_lent, .int h_rings, .ref h_on, .ref h_onMany, .int h_doors, .ref h_wanted, .ref h_openers, .ref h_seconds, .int h_turned, .int h_roundMany, .ref h_roundDoors])), (h_turnedFeatures, .inl (cA.1 0, 3, .inl c_h_turnedFeatures))] H := hP
    have hD : va_D A [(h, .inr (2, [.int h_features, .ref h_featureNames, .ref h_steps, .ref h_turnedFeatures, .ref h_sixteenths, .int h_keys, .ref h_keySteps, .int h_lent, .int h_rings, .ref h_on, .ref h_onMany, .int h_doors, .ref h_wanted, .ref h_openers, .ref h_seconds, .int h_turned, .int h_roundMany, .ref h_roundDoors])), (h_turnedFeatures, .inl (cA.1 0, 3, .inl c_h_turnedFeatures))] := hD
    obtain ⟨he_r_8, hw⟩ := hw
    have hx_r_8 := hw
    refine lv_iconst (v := 1) hx hb dX2_isTurned_16 (by decide) ?_
    refine lv_icmp_ne (tgt := 24) hx hb dX2_isTurned_17 (by decide) (fun c_11 => ?_) (fun c_11 => ?_)
    · skip
      refine lv_iconst (v := 0) hx hb dX2_isTurned_24 (by decide) ?_
      have hX_13 : F_H_isTurned h_features c_h_turnedFeatures k = ((0 : Int32) : Int32) := by
        refine (F_H_isTurned_s ..).trans ?_
        extract_lets -merge -useContext +onlyGivenNames w9 y9; have e9 : r_1 = w9 := he_r_1; clear_value w9; subst e9
        refine (if_neg c_4).trans ?_
        extract_lets -merge -useContext +onlyGivenNames w9 y9; have e9 : r_8 = w9 := he_r_8; clear_value w9; subst e9
        refine (if_neg c_11).trans ?_
        exact rfl
      exact hret _ _ _ _ _ _ () [0, 1] hP hD hS rfl (by decide) dX2_isTurned_25 (Or.inl rfl) ⟨(congrArg (fun z9 => z9) hX_13).symm, (Or.inl rfl)⟩
    · skip
      refine lv_iconst (v := 1) hx hb dX2_isTurned_20 (by decide) ?_
      refine lv_goto (tgt := 25) hx hb dX2_isTurned_21 (by decide) ?_
      have hX_15 : F_H_isTurned h_features c_h_turnedFeatures k = ((1 : Int32) : Int32) := by
        refine (F_H_isTurned_s ..).trans ?_
        extract_lets -merge -useContext +onlyGivenNames w9 y9; have e9 : r_1 = w9 := he_r_1; clear_value w9; subst e9
        refine (if_neg c_4).trans ?_
        extract_lets -merge -useContext +onlyGivenNames w9 y9; have e9 : r_8 = w9 := he_r_8; clear_value w9; subst e9
        refine (if_pos c_11).trans ?_
        exact rfl
      exact hret _ _ _ _ _ _ () [0, 1] hP hD hS rfl (by decide) dX2_isTurned_25 (Or.inr rfl) ⟨(congrArg (fun z9 => z9) hX_15).symm, (Or.inr rfl)⟩
set_option maxHeartbeats 40000000 in
set_option maxRecDepth 100000 in
theorem d_H_featureNamed (l : Launch) (G : va_G) (cA : zCA) (h : Nat) (h_features : Int32) (h_featureNames : Nat) (h_steps : Nat) (h_turnedFeatures : Nat) (h_sixteenths : Nat) (h_keys : Int32) (h_keySteps : Nat) (h_lent : Int32) (h_rings : Int32) (h_on : Nat) (h_onMany : Nat) (h_doors : Int32) (h_wanted : Nat) (h_openers : Nat) (h_seconds : Nat) (h_turned : Int32) (h_roundMany : Int32) (h_roundDoors : Nat) (c_h_featureNames : Nat → Int64) (x : Int64) (hm_h_features : 0 ≤ h_features.toInt ∧ h_features.toInt ≤ 3) : zCi l yX2_featureNamed cX2_featureNamed 4 (some .int) ({ frames := 1, cells := 0, slots := 0, locals := 21 }) G cA [.ref h, .long x] [(h, .inr (2, [.int h_features, .ref h_featureNames, .ref h_steps, .ref h_turnedFeatures, .ref h_sixteenths, .int h_keys, .ref h_keySteps, .int h_lent, .int h_rings, .ref h_on, .ref h_onMany, .int h_doors, .ref h_wanted, .ref h_openers, .ref h_seconds, .int h_turned, .int h_roundMany, .ref h_roundDoors])), (h_featureNames, .inl (cA.1 1, 3, .inr (.inl c_h_featureNames)))] (S := Unit) (fun (r : Int32) (u : Unit) => (r = (F_H_featureNamed h_features c_h_featureNames x)) ∧ (True)) (fun (u : Unit) => [(h, .inr (2, [.int h_features, .ref h_featureNames, .ref h_steps, .ref h_turnedFeatures, .ref h_sixteenths, .int h_keys, .ref h_keySteps, .int h_lent, .int h_rings, .ref h_on, .ref h_onMany, .int h_doors, .ref h_wanted, .ref h_openers, .ref h_seconds, .int h_turned, .int h_roundMany, .ref h_roundDoors])), (h_featureNames, .inl (cA.1 1, 3, .inr (.inl c_h_featureNames)))]) 0 0 := by
  refine z_start2i (own := RX2) (by decide) (Nat.le_of_ble_eq_true rfl) rfl ?_
  intro p e s m args below meth c A ls Q hx hb hml hts hown hK hE hT hP hD hS hA hl hret
  have hl : lv_has ls 4 [(0, .ref h), (1, .long x)] := hl
  refine lv_iconst (v := 0) hx hb dX2_featureNamed_0 (by decide) ?_
  refine lv_istore_n (lv' := [(3, .int 0), (0, .ref h), (1, .long x)]) hx hb dX2_featureNamed_1 rfl hl (by decide) rfl (fun ls hl => ?_)
  have hlp_28 : ∀ (n_L2a : Nat) (v_18 : Int32) (H : Heap) (locs : List Loc) (ls : Array Slot), (2147483647 - v_18.toInt).toNat < n_L2a → (0 ≤ v_18.toInt) → (F_H_featureNamed h_features c_h_featureNames x = F_H_featureNamed_L2a h_features c_h_featureNames x n_L2a v_18) → va_P G vwCl [(h, .inr (2, [.int h_features, .ref h_featureNames, .ref h_steps, .ref h_turnedFeatures, .ref h_sixteenths, .int h_keys, .ref h_keySteps, .int h_lent, .int h_rings, .ref h_on, .ref h_onMany, .int h_doors, .ref h_wanted, .ref h_openers, .ref h_seconds, .int h_turned, .int h_roundMany, .ref h_roundDoors])), (h_featureNames, .inl (cA.1 1, 3, .inr (.inl c_h_featureNames)))] H → va_D A [(h, .inr (2, [.int h_features, .ref h_featureNames, .ref h_steps, .ref h_turnedFeatures, .ref h_sixteenths, .int h_keys, .ref h_keySteps, .int h_lent, .int h_rings, .ref h_on, .ref h_onMany, .int h_doors, .ref h_wanted, .ref h_openers, .ref h_seconds, .int h_turned, .int h_roundMany, .ref h_roundDoors])), (h_featureNames, .inl (cA.1 1, 3, .inr (.inl c_h_featureNames)))] → va_S A s.heap H locs → lv_has ls 4 [(0, .ref h), (1, .long x), (3, .int v_18)] → W p l e ({ frames := 1, cells := 0, slots := 0, locals := 21 }) s m args below meth c H locs 0 0 Q (F0 m 2 ls []) := by
    intro n_L2a
    induction n_L2a with
    | zero =>
      intro v_18 H locs ls hmu_hlp_28 hi_29 hF_L2a hP hD hS hl
      exact absurd hmu_hlp_28 (Nat.not_lt_zero _)
    | succ n_L2a ih_30 =>
      intro v_18 H locs ls hmu_hlp_28 hi_29 hF_L2a hP hD hS hl
      refine lv_iload_n hx hb dX2_featureNamed_2 rfl (lv_at hl 2 rfl) ?_
      refine lv_aload_n hx hb dX2_featureNamed_3 rfl (lv_at hl 0 rfl) ?_
      refine va_get (D := G) (ci := 2) (v := .int h_features) (C := RX2) (T := TX2) (N := 18) hx hb hts inT2 hown hK hP 0 rfl rfl 0 (by decide) (hts _ tw_265) (fun _ h9 => h9) rfl dX2_featureNamed_4 ?_
      refine lv_icmp_ge (tgt := 31) hx hb dX2_featureNamed_7 (by decide) (fun c_31 => ?_) (fun c_31 => ?_)
      · have b_32 := z_s1 c_31
        refine lv_iconst (v := (-1)) hx hb dX2_featureNamed_31 (by decide) ?_
        have hX_33 : F_H_featureNamed h_features c_h_featureNames x = ((-1 : Int32) : Int32) := by
          refine hF_L2a.trans ?_
          refine (F_H_featureNamed_L2a_s ..).trans ?_
          refine (if_pos c_31).trans ?_
          exact rfl
        exact hret _ _ _ _ _ _ () [0, 1] hP hD hS rfl (by decide) dX2_featureNamed_32 ⟨(congrArg (fun z9 => z9) hX_33).symm, trivial⟩
      · have b_34 := z_t2 c_31
        refine lv_aload_n hx hb dX2_featureNamed_10 rfl (lv_at hl 0 rfl) ?_
        refine va_get (D := G) (ci := 2) (v := .ref h_featureNames) (C := RX2) (T := TX2) (N := 18) hx hb hts inT2 hown hK hP 0 rfl rfl 1 (by decide) (hts _ tw_270) (fun _ h9 => h9) rfl dX2_featureNamed_11 ?_
        refine lv_iload_n hx hb dX2_featureNamed_14 rfl (lv_at hl 2 rfl) ?_
        refine z_callSNl (As := [.ref h_featureNames, .int v_18]) (rest := []) (wr := [(h, .inr (2, [.int h_features, .ref h_featureNames, .ref h_steps, .ref h_turnedFeatures, .ref h_sixteenths, .int h_keys, .ref h_keySteps, .int h_lent, .int h_rings, .ref h_on, .ref h_onMany, .int h_doors, .ref h_wanted, .ref h_openers, .ref h_seconds, .int h_turned, .int h_roundMany, .ref h_roundDoors]))]) ⟨hx, hb, hml, hown, hts⟩ hK hE hT hP hD hS hA (d_longAt_3 l G cA h_featureNames c_h_featureNames v_18) lk_RX2_93 ⟨rfl, rfl⟩ ⟨Nat.le_of_ble_eq_true rfl, Nat.le_of_ble_eq_true rfl⟩ [1] [0] rfl rfl (by decide) rfl hl.1 rfl (lv_room (Nat.le_of_ble_eq_true rfl)) dX2_featureNamed_15 ⟨Nat.le_of_ble_eq_true rfl, Nat.le_of_ble_eq_true rfl⟩ (fun r_35 u_36 H locs hw hP hD hS => ?_)
        have hP : va_P G vwCl [(h, .inr (2, [.int h_features, .ref h_featureNames, .ref h_steps, .ref h_turnedFeatures, .ref h_sixteenths, .int h_keys, .ref h_keySteps, .int h_lent, .int h_rings, .ref h_on, .ref h_onMany, .int h_doors, .ref h_wanted, .ref h_openers, .ref h_seconds, .int h_turned, .int h_roundMany, .ref h_roundDoors])), (h_featureNames, .inl (cA.1 1, 3, .inr (.inl c_h_featureNames)))] H := hP
        have hD : va_D A [(h, .inr (2, [.int h_features, .ref h_featureNames, .ref h_steps, .ref h_turnedFeatures, .ref h_sixteenths, .int h_keys, .ref h_keySteps, .int h_lent, .int h_rings, .ref h_on, .ref h_onMany, .int h_doors, .ref h_wanted, .ref h_openers, .ref h_seconds, .int h_turned, .int h_roundMany, .ref h_roundDoors])), (h_featureNames, .inl (cA.1 1, 3, .inr (.inl c_h_featureNames)))] := hD
        obtain ⟨he_r_35, hw⟩ := hw
        refine lv_lload_n hx hb dX2_featureNamed_18 rfl (lv_at hl 1 rfl) ?_
        refine W.lcmp hx hb dX2_featureNamed_19 ?_
        refine lv_if_ne (tgt := 25) hx hb dX2_featureNamed_20 (by decide) (fun c_38 => ?_) (fun c_38 => ?_)
        · skip
          refine lv_iinc (v := (v_18 + 1)) (lv' := [(3, .int (v_18 + 1)), (0, .ref h), (1, .long x)]) hx hb dX2_featureNamed_25 hl (k := 2) rfl (z_ofi (by decide +kernel)) (by decide) rfl (fun ls hl => ?_)
          refine lv_goto (tgt := 2) hx hb dX2_featureNamed_28 (by decide) ?_
          have hX_40 : F_H_featureNamed h_features c_h_featureNames x = F_H_featureNamed_L2a h_features c_h_featureNames x n_L2a (v_18 + 1) := by
            refine hF_L2a.trans ?_
            refine (F_H_featureNamed_L2a_s ..).trans ?_
            refine (if_neg c_31).trans ?_
            extract_lets -merge -useContext +onlyGivenNames w9 y9; have e9 : r_35 = w9 := he_r_35; clear_value w9; subst e9
            refine (if_neg c_38).trans ?_
            exact rfl
          exact ih_30 (v_18 + 1) H locs ls (z_up hmu_hlp_28 (by omega) trivial) (z_upc hi_29 (by omega) trivial) hX_40 hP hD hS (lv_sub hl [1, 2, 0] rfl)
        · skip
          refine lv_iload_n hx hb dX2_featureNamed_23 rfl (lv_at hl 2 rfl) ?_
          have hX_42 : F_H_featureNamed h_features c_h_featureNames x = (v_18 : Int32) := by
            refine hF_L2a.trans ?_
            refine (F_H_featureNamed_L2a_s ..).trans ?_
            refine (if_neg c_31).trans ?_
            extract_lets -merge -useContext +onlyGivenNames w9 y9; have e9 : r_35 = w9 := he_r_35; clear_value w9; subst e9
            refine (if_pos c_38).trans ?_
            exact rfl
          exact hret _ _ _ _ _ _ () [0, 1] hP hD hS rfl (by decide) dX2_featureNamed_24 ⟨(congrArg (fun z9 => z9) hX_42).symm, trivial⟩
  have hX_43 : F_H_featureNamed h_features c_h_featureNames x = F_H_featureNamed_L2a h_features c_h_featureNames x ((2147483647 - (0 : Int32).toInt).toNat + 1) (0 : Int32) := by
    refine (F_H_featureNamed_s ..).trans ?_
    exact rfl
  exact hlp_28 ((2147483647 - (0 : Int32).toInt).toNat + 1) 0 _ _ _ (Nat.lt_succ_self _) (by first | decide +kernel | omega) hX_43 hP hD hS (lv_sub hl [1, 2, 0] rfl)
set_option maxHeartbeats 40000000 in
set_option maxRecDepth 100000 in
theorem d_H_feltAs (l : Launch) (G : va_G) (cA : zCA) (h : Nat) (h_features : Int32) (h_featureNames : Nat) (h_steps : Nat) (h_turnedFeatures : Nat) (h_sixteenths : Nat) (h_keys : Int32) (h_keySteps : Nat) (h_lent : Int32) (h_rings : Int32) (h_on : Nat) (h_onMany : Nat) (h_doors : Int32) (h_wanted : Nat) (h_openers : Nat) (h_seconds : Nat) (h_turned : Int32) (h_roundMany : Int32) (h_roundDoors : Nat) (c_h_sixteenths : Nat → Int32) (x : Int32) (y : Int32) (k : Int32) (hm_h_features : 0 ≤ h_features.toInt ∧ h_features.toInt ≤ 3) : zCi l yX2_feltAs cX2_feltAs 4 (some .int) ({ frames := 1, cells := 0, slots := 0, locals := 21 }) G cA [.ref h, .int x, .int y, .int k] [(h, .inr (2, [.int h_features, .ref h_featureNames, .ref h_steps, .ref h_turnedFeatures, .ref h_sixteenths, .int h_keys, .ref h_keySteps, .int h_lent, .int h_rings, .ref h_on, .ref h_onMany, .int h_doors, .ref h_wanted, .ref h_openers, .ref h_seconds, .int h_turned, .int h_roundMany, .ref h_roundDoors])), (h_sixteenths, .inl (cA.1 0, 48, .inl c_h_sixteenths))] (S := Unit) (fun (r : Int32) (u : Unit) => (r = (F_H_feltAs c_h_sixteenths x y k)) ∧ (True)) (fun (u : Unit) => [(h, .inr (2, [.int h_features, .ref h_featureNames, .ref h_steps, .ref h_turnedFeatures, .ref h_sixteenths, .int h_keys, .ref h_keySteps, .int h_lent, .int h_rings, .ref h_on, .ref h_onMany, .int h_doors, .ref h_wanted, .ref h_openers, .ref h_seconds, .int h_turned, .int h_roundMany, .ref h_roundDoors])), (h_sixteenths, .inl (cA.1 0, 48, .inl c_h_sixteenths))]) 0 0 := by
  refine z_start2i (own := RX2) (by decide) (Nat.le_of_ble_eq_true rfl) rfl ?_
  intro p e s m args below meth c A ls Q hx hb hml hts hown hK hE hT hP hD hS hA hl hret
  have hl : lv_has ls 4 [(0, .ref h), (1, .int x), (2, .int y), (3, .int k)] := hl
  refine lv_iload_n hx hb dX2_feltAs_0 rfl (lv_at hl 2 rfl) ?_
  refine lv_if_lt (tgt := 18) hx hb dX2_feltAs_1 (by decide) (fun c_1 => ?_) (fun c_1 => ?_)
  · have b_2 := z_b3 c_1 (K := 0) (by decide +kernel)
    refine lv_iconst (v := 0) hx hb dX2_feltAs_18 (by decide) ?_
    have hX_3 : F_H_feltAs c_h_sixteenths x y k = ((0 : Int32) : Int32) := by
      refine (F_H_feltAs_s ..).trans ?_
      refine (if_pos c_1).trans ?_
      exact rfl
    exact hret _ _ _ _ _ _ () [0, 1] hP hD hS rfl (by decide) dX2_feltAs_19 ⟨(congrArg (fun z9 => z9) hX_3).symm, trivial⟩
  · have b_4 := z_b4 c_1 (K := 0) (by decide +kernel)
    refine lv_iload_n hx hb dX2_feltAs_4 rfl (lv_at hl 2 rfl) ?_
    refine lv_iconst (v := 4) hx hb dX2_feltAs_5 (by decide) ?_
    refine lv_icmp_ge (tgt := 18) hx hb dX2_feltAs_6 (by decide) (fun c_5 => ?_) (fun c_5 => ?_)
    · have b_6 := z_b1 c_5 (K := 4) (by decide +kernel)
      refine lv_iconst (v := 0) hx hb dX2_feltAs_18 (by decide) ?_
      have hX_7 : F_H_feltAs c_h_sixteenths x y k = ((0 : Int32) : Int32) := by
        refine (F_H_feltAs_s ..).trans ?_
        refine (if_neg c_1).trans ?_
        refine (if_pos c_5).trans ?_
        exact rfl
      exact hret _ _ _ _ _ _ () [0, 1] hP hD hS rfl (by decide) dX2_feltAs_19 ⟨(congrArg (fun z9 => z9) hX_7).symm, trivial⟩
    · have b_8 := z_b2 c_5 (K := 4) (by decide +kernel)
      refine lv_iload_n hx hb dX2_feltAs_9 rfl (lv_at hl 3 rfl) ?_
      refine lv_if_lt (tgt := 18) hx hb dX2_feltAs_10 (by decide) (fun c_9 => ?_) (fun c_9 => ?_)
      · have b_10 := z_b3 c_9 (K := 0) (by decide +kernel)
        refine lv_iconst (v := 0) hx hb dX2_feltAs_18 (by decide) ?_
        have hX_11 : F_H_feltAs c_h_sixteenths x y k = ((0 : Int32) : Int32) := by
          refine (F_H_feltAs_s ..).trans ?_
          refine (if_neg c_1).trans ?_
          refine (if_neg c_5).trans ?_
          refine (if_pos c_9).trans ?_
          exact rfl
        exact hret _ _ _ _ _ _ () [0, 1] hP hD hS rfl (by decide) dX2_feltAs_19 ⟨(congrArg (fun z9 => z9) hX_11).symm, trivial⟩
      · have b_12 := z_b4 c_9 (K := 0) (by decide +kernel)
        refine lv_iload_n hx hb dX2_feltAs_13 rfl (lv_at hl 3 rfl) ?_
        refine lv_iconst (v := 4) hx hb dX2_feltAs_14 (by decide) ?_
        refine lv_icmp_lt (tgt := 20) hx hb dX2_feltAs_15 (by decide) (fun c_13 => ?_) (fun c_13 => ?_)
        · have b_14 := z_b3 c_13 (K := 4) (by decide +kernel)
          refine lv_aload_n hx hb dX2_feltAs_20 rfl (lv_at hl 0 rfl) ?_
          refine va_get (D := G) (ci := 2) (v := .ref h_sixteenths) (C := RX2) (T := TX2) (N := 18) hx hb hts inT2 hown hK hP 0 rfl rfl 4 (by decide) (hts _ tw_273) (fun _ h9 => h9) rfl dX2_feltAs_21 ?_
          refine lv_iload_n hx hb dX2_feltAs_24 rfl (lv_at hl 1 rfl) ?_
          refine lv_iconst (v := 4) hx hb dX2_feltAs_25 (by decide) ?_
          refine lv_imul hx hb dX2_feltAs_26 ?_
          refine lv_topi (fun x_15 he_x_15 => ?_)
          refine lv_iload_n hx hb dX2_feltAs_27 rfl (lv_at hl 2 rfl) ?_
          refine lv_iadd hx hb dX2_feltAs_28 ?_
          refine lv_topi (fun x_16 he_x_16 => ?_)
          refine lv_iconst (v := 4) hx hb dX2_feltAs_29 (by decide) ?_
          refine lv_imul hx hb dX2_feltAs_30 ?_
          refine lv_topi (fun x_17 he_x_17 => ?_)
          refine lv_iload_n hx hb dX2_feltAs_31 rfl (lv_at hl 3 rfl) ?_
          refine lv_iadd hx hb dX2_feltAs_32 ?_
          refine lv_topi (fun x_18 he_x_18 => ?_)
          refine z_callSNi (As := [.ref h_sixteenths, .int x_18]) (rest := []) (wr := [(h, .inr (2, [.int h_features, .ref h_featureNames, .ref h_steps, .ref h_turnedFeatures, .ref h_sixteenths, .int h_keys, .ref h_keySteps, .int h_lent, .int h_rings, .ref h_on, .ref h_onMany, .int h_doors, .ref h_wanted, .ref h_openers, .ref h_seconds, .int h_turned, .int h_roundMany, .ref h_roundDoors]))]) ⟨hx, hb, hml, hown, hts⟩ hK hE hT hP hD hS hA (d_at_48 l G cA h_sixteenths c_h_sixteenths x_18) lk_RX2_89 ⟨rfl, rfl⟩ ⟨Nat.le_of_ble_eq_true rfl, Nat.le_of_ble_eq_true rfl⟩ [1] [0] rfl rfl (by decide) rfl hl.1 rfl (lv_room (Nat.le_of_ble_eq_true rfl)) dX2_feltAs_33 ⟨Nat.le_of_ble_eq_true rfl, Nat.le_of_ble_eq_true rfl⟩ (fun r_19 u_20 H locs hw hP hD hS => ?_)
          have hP : va_P G vwCl [(h, .inr (2, [.int h_features, .ref h_featureNames, .ref h_steps, .ref h_turnedFeatures, .ref h_sixteenths, .int h_keys, .ref h_keySteps, .int h_lent, .int h_rings, .ref h_on, .ref h_onMany, .int h_doors, .ref h_wanted, .ref h_openers, .ref h_seconds, .int h_turned, .int h_roundMany, .ref h_roundDoors])), (h_sixteenths, .inl (cA.1 0, 48, .inl c_h_sixteenths))] H := hP
          have hD : va_D A [(h, .inr (2, [.int h_features, .ref h_featureNames, .ref h_steps, .ref h_turnedFeatures, .ref h_sixteenths, .int h_keys, .ref h_keySteps, .int h_lent, .int h_rings, .ref h_on, .ref h_onMany, .int h_doors, .ref h_wanted, .ref h_openers, .ref h_seconds, .int h_turned, .int h_roundMany, .ref h_roundDoors])), (h_sixteenths, .inl (cA.1 0, 48, .inl c_h_sixteenths))] := hD
          obtain ⟨he_r_19, hw⟩ := hw
          have hX_22 : F_H_feltAs c_h_sixteenths x y k = (r_19 : Int32) := by
            refine (F_H_feltAs_s ..).trans ?_
            refine (if_neg c_1).trans ?_
            refine (if_neg c_5).trans ?_
            refine (if_neg c_9).trans ?_
            refine (if_pos c_13).trans ?_
            try (extract_lets -merge -useContext +onlyGivenNames y9; have e9 : x_15 = y9 := (by first | exact he_x_15 | exact he_x_15.symm); clear_value y9; subst e9)
            try (extract_lets -merge -useContext +onlyGivenNames y9; have e9 : x_16 = y9 := (by first | exact he_x_16 | exact he_x_16.symm); clear_value y9; subst e9)
            try (extract_lets -merge -useContext +onlyGivenNames y9; have e9 : x_17 = y9 := (by first | exact he_x_17 | exact he_x_17.symm); clear_value y9; subst e9)
            try (extract_lets -merge -useContext +onlyGivenNames y9; have e9 : x_18 = y9 := (by first | exact he_x_18 | exact he_x_18.symm); clear_value y9; subst e9)
            extract_lets -merge -useContext +onlyGivenNames w9 y9; have e9 : r_19 = w9 := he_r_19; clear_value w9; subst e9
            exact rfl
          exact hret _ _ _ _ _ _ () [0, 1] hP hD hS rfl (by decide) dX2_feltAs_36 ⟨(congrArg (fun z9 => z9) hX_22).symm, trivial⟩
        · have b_23 := z_b4 c_13 (K := 4) (by decide +kernel)
          refine lv_iconst (v := 0) hx hb dX2_feltAs_18 (by decide) ?_
          have hX_24 : F_H_feltAs c_h_sixteenths x y k = ((0 : Int32) : Int32) := by
            refine (F_H_feltAs_s ..).trans ?_
            refine (if_neg c_1).trans ?_
            refine (if_neg c_5).trans ?_
            refine (if_neg c_9).trans ?_
            refine (if_neg c_13).trans ?_
            exact rfl
          exact hret _ _ _ _ _ _ () [0, 1] hP hD hS rfl (by decide) dX2_feltAs_19 ⟨(congrArg (fun z9 => z9) hX_24).symm, trivial⟩
set_option maxHeartbeats 40000000 in
set_option maxRecDepth 100000 in
theorem d_H_stepAt (l : Launch) (G : va_G) (cA : zCA) (h : Nat) (h_features : Int32) (h_featureNames : Nat) (h_steps : Nat) (h_turnedFeatures : Nat) (h_sixteenths : Nat) (h_keys : Int32) (h_keySteps : Nat) (h_lent : Int32) (h_rings : Int32) (h_on : Nat) (h_onMany : Nat) (h_doors : Int32) (h_wanted : Nat) (h_openers : Nat) (h_seconds : Nat) (h_turned : Int32) (h_roundMany : Int32) (h_roundDoors : Nat) (c_h_steps : Nat → Int32) (c_h_turnedFeatures : Nat → Int32) (c_h_keySteps : Nat → Int32) (x : Int32) (y : Int32) (k : Int32) (hm_h_features : 0 ≤ h_features.toInt ∧ h_features.toInt ≤ 3) : zCi l yX2_stepAt cX2_stepAt 6 (some .int) ({ frames := 1, cells := 0, slots := 0, locals := 21 }) G cA [.ref h, .int x, .int y, .int k] [(h, .inr (2, [.int h_features, .ref h_featureNames, .ref h_steps, .ref h_turnedFeatures, .ref h_sixteenths, .int h_keys, .ref h_keySteps, .int h_lent, .int h_rings, .ref h_on, .ref h_onMany, .int h_doors, .ref h_wanted, .ref h_openers, .ref h_seconds, .int h_turned, .int h_roundMany, .ref h_roundDoors])), (h_steps, .inl (cA.1 0, 3, .inl c_h_steps)), (h_turnedFeatures, .inl (cA.1 0, 3, .inl c_h_turnedFeatures)), (h_keySteps, .inl (cA.1 0, 30, .inl c_h_keySteps))] (S := Unit) (fun (r : Int32) (u : Unit) => (r = (F_H_stepAt h_features h_keys c_h_steps c_h_turnedFeatures c_h_keySteps x y k)) ∧ (True)) (fun (u : Unit) => [(h, .inr (2, [.int h_features, .ref h_featureNames, .ref h_steps, .ref h_turnedFeatures, .ref h_sixteenths, .int h_keys, .ref h_keySteps, .int h_lent, .int h_rings, .ref h_on, .ref h_onMany, .int h_doors, .ref h_wanted, .ref h_openers, .ref h_seconds, .int h_turned, .int h_roundMany, .ref h_roundDoors])), (h_steps, .inl (cA.1 0, 3, .inl c_h_steps)), (h_turnedFeatures, .inl (cA.1 0, 3, .inl c_h_turnedFeatures)), (h_keySteps, .inl (cA.1 0, 30, .inl c_h_keySteps))]) 0 0 := by
  refine z_start2i (own := RX2) (by decide) (Nat.le_of_ble_eq_true rfl) rfl ?_
  intro p e s m args below meth c A ls Q hx hb hml hts hown hK hE hT hP hD hS hA hl hret
  have hl : lv_has ls 6 [(0, .ref h), (1, .int x), (2, .int y), (3, .int k)] := hl
  refine lv_aload_n hx hb dX2_stepAt_0 rfl (lv_at hl 0 rfl) ?_
  refine lv_iload_n hx hb dX2_stepAt_1 rfl (lv_at hl 1 rfl) ?_
  refine z_callVi (As := [.int x]) (rest := []) (wr := [(h_steps, .inl (cA.1 0, 3, .inl c_h_steps)), (h_turnedFeatures, .inl (cA.1 0, 3, .inl c_h_turnedFeatures)), (h_keySteps, .inl (cA.1 0, 30, .inl c_h_keySteps))]) ⟨hx, hb, hml, hown, hts⟩ hK hE hT hP hD hS hA (d_H_hasKey l G cA h h_features h_featureNames h_steps h_turnedFeatures h_sixteenths h_keys h_keySteps h_lent h_rings h_on h_onMany h_doors h_wanted h_openers h_seconds h_turned h_roundMany h_roundDoors x (by omega)) lk_RX2_97 ⟨rfl, rfl⟩ ⟨Nat.le_of_ble_eq_true rfl, Nat.le_of_ble_eq_true rfl⟩ 2 rfl rfl rfl [0] [1, 2, 3] rfl rfl (by decide) rfl hl.1 rfl (lv_room (Nat.le_of_ble_eq_true rfl)) dX2_stepAt_2 ⟨Nat.le_of_ble_eq_true rfl, Nat.le_of_ble_eq_true rfl⟩ (fun r_1 u_2 H locs hw hP hD hS => ?_)
  have hP : va_P G vwCl [(h_steps, .inl (cA.1 0, 3, .inl c_h_steps)), (h_turnedFeatures, .inl (cA.1 0, 3, .inl c_h_turnedFeatures)), (h_keySteps, .inl (cA.1 0, 30, .inl c_h_keySteps)), (h, .inr (2, [.int h_features, .ref h_featureNames, .ref h_steps, .ref h_turnedFeatures, .ref h_sixteenths, .int h_keys, .ref h_keySteps, .int h_lent, .int h_rings, .ref h_on, .ref h_onMany, .int h_doors, .ref h_wanted, .ref h_openers, .ref h_seconds, .int h_turned, .int h_roundMany, .ref h_roundDoors]))] H := hP
  have hD : va_D A [(h_steps, .inl (cA.1 0, 3, .inl c_h_steps)), (h_turnedFeatures, .inl (cA.1 0, 3, .inl c_h_turnedFeatures)), (h_keySteps, .inl (cA.1 0, 30, .inl c_h_keySteps)), (h, .inr (2, [.int h_features, .ref h_featureNames, .ref h_steps, .ref h_turnedFeatures, .ref h_sixteenths, .int h_keys, .ref h_keySteps, .int h_lent, .int h_rings, .ref h_on, .ref h_onMany, .int h_doors, .ref h_wanted, .ref h_openers, .ref h_seconds, .int h_turned, .int h_roundMany, .ref h_roundDoors]))] := hD
  obtain ⟨he_r_1, hw⟩ := hw
  have hz_r_1 := hw
  refine lv_if_eq (tgt := 16) hx hb dX2_stepAt_5 (by decide) (fun c_4 => ?_) (fun c_4 => ?_)
  · skip
    refine lv_iconst (v := (-1)) hx hb dX2_stepAt_16 (by decide) ?_
    have hX_6 : F_H_stepAt h_features h_keys c_h_steps c_h_turnedFeatures c_h_keySteps x y k = ((-1 : Int32) : Int32) := by
      refine (F_H_stepAt_s ..).trans ?_
      extract_lets -merge -useContext +onlyGivenNames w9 y9; have e9 : r_1 = w9 := he_r_1; clear_value w9; subst e9
      refine (if_pos c_4).trans ?_
      exact rfl
    exact hret _ _ _ _ _ _ () [3, 0, 1, 2] hP hD hS rfl (by decide) dX2_stepAt_17 ⟨(congrArg (fun z9 => z9) hX_6).symm, trivial⟩
  · skip
    refine lv_aload_n hx hb dX2_stepAt_8 rfl (lv_at hl 0 rfl) ?_
    refine lv_iload_n hx hb dX2_stepAt_9 rfl (lv_at hl 2 rfl) ?_
    refine z_callVi (As := [.int y]) (rest := []) (wr := [(h_steps, .inl (cA.1 0, 3, .inl c_h_steps)), (h_turnedFeatures, .inl (cA.1 0, 3, .inl c_h_turnedFeatures)), (h_keySteps, .inl (cA.1 0, 30, .inl c_h_keySteps))]) ⟨hx, hb, hml, hown, hts⟩ hK hE hT hP hD hS hA (d_H_hasFeature l G cA h h_features h_featureNames h_steps h_turnedFeatures h_sixteenths h_keys h_keySteps h_lent h_rings h_on h_onMany h_doors h_wanted h_openers h_seconds h_turned h_roundMany h_roundDoors y (by omega)) lk_RX2_85 ⟨rfl, rfl⟩ ⟨Nat.le_of_ble_eq_true rfl, Nat.le_of_ble_eq_true rfl⟩ 2 rfl rfl rfl [3] [0, 1, 2] rfl rfl (by decide) rfl hl.1 rfl (lv_room (Nat.le_of_ble_eq_true rfl)) dX2_stepAt_10 ⟨Nat.le_of_ble_eq_true rfl, Nat.le_of_ble_eq_true rfl⟩ (fun r_8 u_9 H locs hw hP hD hS => ?_)
    have hP : va_P G vwCl [(h_steps, .inl (cA.1 0, 3, .inl c_h_steps)), (h_turnedFeatures, .inl (cA.1 0, 3, .inl c_h_turnedFeatures)), (h_keySteps, .inl (cA.1 0, 30, .inl c_h_keySteps)), (h, .inr (2, [.int h_features, .ref h_featureNames, .ref h_steps, .ref h_turnedFeatures, .ref h_sixteenths, .int h_keys, .ref h_keySteps, .int h_lent, .int h_rings, .ref h_on, .ref h_onMany, .int h_doors, .ref h_wanted, .ref h_openers, .ref h_seconds, .int h_turned, .int h_roundMany, .ref h_roundDoors]))] H := hP
    have hD : va_D A [(h_steps, .inl (cA.1 0, 3, .inl c_h_steps)), (h_turnedFeatures, .inl (cA.1 0, 3, .inl c_h_turnedFeatures)), (h_keySteps, .inl (cA.1 0, 30, .inl c_h_keySteps)), (h, .inr (2, [.int h_features, .ref h_featureNames, .ref h_steps, .ref h_turnedFeatures, .ref h_sixteenths, .int h_keys, .ref h_keySteps, .int h_lent, .int h_rings, .ref h_on, .ref h_onMany, .int h_doors, .ref h_wanted, .ref h_openers, .ref h_seconds, .int h_turned, .int h_roundMany, .ref h_roundDoors]))] := hD
    obtain ⟨he_r_8, hw⟩ := hw
    have hz_r_8 := hw
    refine lv_if_ne (tgt := 18) hx hb dX2_stepAt_13 (by decide) (fun c_11 => ?_) (fun c_11 => ?_)
    · skip
      refine lv_aload_n hx hb dX2_stepAt_18 rfl (lv_at hl 0 rfl) ?_
      refine va_get (D := G) (ci := 2) (v := .ref h_keySteps) (C := RX2) (T := TX2) (N := 18) hx hb hts inT2 hown hK hP 3 rfl rfl 6 (by decide) (hts _ tw_277) (fun _ h9 => h9) rfl dX2_stepAt_19 ?_
      refine lv_iload_n hx hb dX2_stepAt_22 rfl (lv_at hl 1 rfl) ?_
      refine lv_iconst (v := 3) hx hb dX2_stepAt_23 (by decide) ?_
      refine lv_imul hx hb dX2_stepAt_24 ?_
      refine lv_topi (fun x_13 he_x_13 => ?_)
      refine lv_iload_n hx hb dX2_stepAt_25 rfl (lv_at hl 2 rfl) ?_
      refine lv_iadd hx hb dX2_stepAt_26 ?_
      refine lv_topi (fun x_14 he_x_14 => ?_)
      refine z_callSNi (As := [.ref h_keySteps, .int x_14]) (rest := []) (wr := [(h_steps, .inl (cA.1 0, 3, .inl c_h_steps)), (h_turnedFeatures, .inl (cA.1 0, 3, .inl c_h_turnedFeatures)), (h, .inr (2, [.int h_features, .ref h_featureNames, .ref h_steps, .ref h_turnedFeatures, .ref h_sixteenths, .int h_keys, .ref h_keySteps, .int h_lent, .int h_rings, .ref h_on, .ref h_onMany, .int h_doors, .ref h_wanted, .ref h_openers, .ref h_seconds, .int h_turned, .int h_roundMany, .ref h_roundDoors]))]) ⟨hx, hb, hml, hown, hts⟩ hK hE hT hP hD hS hA (d_at_30 l G cA h_keySteps c_h_keySteps x_14) lk_RX2_89 ⟨rfl, rfl⟩ ⟨Nat.le_of_ble_eq_true rfl, Nat.le_of_ble_eq_true rfl⟩ [2] [0, 1, 3] rfl rfl (by decide) rfl hl.1 rfl (lv_room (Nat.le_of_ble_eq_true rfl)) dX2_stepAt_27 ⟨Nat.le_of_ble_eq_true rfl, Nat.le_of_ble_eq_true rfl⟩ (fun r_15 u_16 H locs hw hP hD hS => ?_)
      have hP : va_P G vwCl [(h_steps, .inl (cA.1 0, 3, .inl c_h_steps)), (h_turnedFeatures, .inl (cA.1 0, 3, .inl c_h_turnedFeatures)), (h, .inr (2, [.int h_features, .ref h_featureNames, .ref h_steps, .ref h_turnedFeatures, .ref h_sixteenths, .int h_keys, .ref h_keySteps, .int h_lent, .int h_rings, .ref h_on, .ref h_onMany, .int h_doors, .ref h_wanted, .ref h_openers, .ref h_seconds, .int h_turned, .int h_roundMany, .ref h_roundDoors])), (h_keySteps, .inl (cA.1 0, 30, .inl c_h_keySteps))] H := hP
      have hD : va_D A [(h_steps, .inl (cA.1 0, 3, .inl c_h_steps)), (h_turnedFeatures, .inl (cA.1 0, 3, .inl c_h_turnedFeatures)), (h, .inr (2, [.int h_features, .ref h_featureNames, .ref h_steps, .ref h_turnedFeatures, .ref h_sixteenths, .int h_keys, .ref h_keySteps, .int h_lent, .int h_rings, .ref h_on, .ref h_onMany, .int h_doors, .ref h_wanted, .ref h_openers, .ref h_seconds, .int h_turned, .int h_roundMany, .ref h_roundDoors])), (h_keySteps, .inl (cA.1 0, 30, .inl c_h_keySteps))] := hD
      obtain ⟨he_r_15, hw⟩ := hw
      refine lv_istore (lv' := [(4, .int r_15), (0, .ref h), (1, .int x), (2, .int y), (3, .int k)]) hx hb dX2_stepAt_30 hl (by decide) rfl (fun ls hl => ?_)
      refine lv_iload_n hx hb dX2_stepAt_32 rfl (lv_at hl 4 rfl) ?_
      refine lv_iconst (v := 1) hx hb dX2_stepAt_33 (by decide) ?_
      refine lv_icmp_ne (tgt := 53) hx hb dX2_stepAt_34 (by decide) (fun c_18 => ?_) (fun c_18 => ?_)
      · skip
        refine lv_iconst (v := 0) hx hb dX2_stepAt_53 (by decide) ?_
        refine lv_istore (lv' := [(5, .int 0), (4, .int r_15), (0, .ref h), (1, .int x), (2, .int y), (3, .int k)]) hx hb dX2_stepAt_54 hl (by decide) rfl (fun ls hl => ?_)
        refine lv_iload hx hb dX2_stepAt_56 (lv_at hl 0 rfl) ?_
        refine lv_if_eq (tgt := 77) hx hb dX2_stepAt_58 (by decide) (fun _ => ?_) (fun h9 => absurd (by decide +kernel) h9)
        refine lv_iload hx hb dX2_stepAt_77 (lv_at hl 1 rfl) ?_
        have hX_20 : F_H_stepAt h_features h_keys c_h_steps c_h_turnedFeatures c_h_keySteps x y k = (r_15 : Int32) := by
          refine (F_H_stepAt_s ..).trans ?_
          extract_lets -merge -useContext +onlyGivenNames w9 y9; have e9 : r_1 = w9 := he_r_1; clear_value w9; subst e9
          refine (if_neg c_4).trans ?_
          extract_lets -merge -useContext +onlyGivenNames w9 y9; have e9 : r_8 = w9 := he_r_8; clear_value w9; subst e9
          refine (if_neg c_11).trans ?_
          try (extract_lets -merge -useContext +onlyGivenNames y9; have e9 : x_13 = y9 := (by first | exact he_x_13 | exact he_x_13.symm); clear_value y9; subst e9)
          try (extract_lets -merge -useContext +onlyGivenNames y9; have e9 : x_14 = y9 := (by first | exact he_x_14 | exact he_x_14.symm); clear_value y9; subst e9)
          extract_lets -merge -useContext +onlyGivenNames w9 y9; have e9 : r_15 = w9 := he_r_15; clear_value w9; subst e9
          refine (if_neg c_18).trans ?_
          exact rfl
        exact hret _ _ _ _ _ _ () [2, 0, 1, 3] hP hD hS rfl (by decide) dX2_stepAt_79 ⟨(congrArg (fun z9 => z9) hX_20).symm, trivial⟩
      · skip
        refine lv_aload_n hx hb dX2_stepAt_37 rfl (lv_at hl 1 rfl) ?_
        refine va_get (D := G) (ci := 2) (v := .ref h_turnedFeatures) (C := RX2) (T := TX2) (N := 18) hx hb hts inT2 hown hK hP 2 rfl rfl 3 (by decide) (hts _ tw_272) (fun _ h9 => h9) rfl dX2_stepAt_38 ?_
        refine lv_iload_n hx hb dX2_stepAt_41 rfl (lv_at hl 3 rfl) ?_
        refine z_callSNi (As := [.ref h_turnedFeatures, .int y]) (rest := []) (wr := [(h_steps, .inl (cA.1 0, 3, .inl c_h_steps)), (h, .inr (2, [.int h_features, .ref h_featureNames, .ref h_steps, .ref h_turnedFeatures, .ref h_sixteenths, .int h_keys, .ref h_keySteps, .int h_lent, .int h_rings, .ref h_on, .ref h_onMany, .int h_doors, .ref h_wanted, .ref h_openers, .ref h_seconds, .int h_turned, .int h_roundMany, .ref h_roundDoors])), (h_keySteps, .inl (cA.1 0, 30, .inl c_h_keySteps))]) ⟨hx, hb, hml, hown, hts⟩ hK hE hT hP hD hS hA (d_at_3 l G cA h_turnedFeatures c_h_turnedFeatures y) lk_RX2_89 ⟨rfl, rfl⟩ ⟨Nat.le_of_ble_eq_true rfl, Nat.le_of_ble_eq_true rfl⟩ [1] [0, 2, 3] rfl rfl (by decide) rfl hl.1 rfl (lv_room (Nat.le_of_ble_eq_true rfl)) dX2_stepAt_42 ⟨Nat.le_of_ble_eq_true rfl, Nat.le_of_ble_eq_true rfl⟩ (fun r_22 u_23 H locs hw hP hD hS => ?_)
        have hP : va_P G vwCl [(h_steps, .inl (cA.1 0, 3, .inl c_h_steps)), (h, .inr (2, [.int h_features, .ref h_featureNames, .ref h_steps, .ref h_turnedFeatures, .ref h_sixteenths, .int h_keys, .ref h_keySteps, .int h_lent, .int h_rings, .ref h_on, .ref h_onMany, .int h_doors, .ref h_wanted, .ref h_openers, .ref h_seconds, .int h_turned, .int h_roundMany, .ref h_roundDoors])), (h_keySteps, .inl (cA.1 0, 30, .inl c_h_keySteps)), (h_turnedFeatures, .inl (cA.1 0, 3, .inl c_h_turnedFeatures))] H := hP
        have hD : va_D A [(h_steps, .inl (cA.1 0, 3, .inl c_h_steps)), (h, .inr (2, [.int h_features, .ref h_featureNames, .ref h_steps, .ref h_turnedFeatures, .ref h_sixteenths, .int h_keys, .ref h_keySteps, .int h_lent, .int h_rings, .ref h_on, .ref h_onMany, .int h_doors, .ref h_wanted, .ref h_openers, .ref h_seconds, .int h_turned, .int h_roundMany, .ref h_roundDoors])), (h_keySteps, .inl (cA.1 0, 30, .inl c_h_keySteps)), (h_turnedFeatures, .inl (cA.1 0, 3, .inl c_h_turnedFeatures))] := hD
        obtain ⟨he_r_22, hw⟩ := hw
        have hx_r_22 := hw
        refine lv_iconst (v := 1) hx hb dX2_stepAt_45 (by decide) ?_
        refine lv_icmp_ne (tgt := 53) hx hb dX2_stepAt_46 (by decide) (fun c_25 => ?_) (fun c_25 => ?_)
        · skip
          refine lv_iconst (v := 0) hx hb dX2_stepAt_53 (by decide) ?_
          refine lv_istore (lv' := [(5, .int 0), (4, .int r_15), (0, .ref h), (1, .int x), (2, .int y), (3, .int k)]) hx hb dX2_stepAt_54 hl (by decide) rfl (fun ls hl => ?_)
          refine lv_iload hx hb dX2_stepAt_56 (lv_at hl 0 rfl) ?_
          refine lv_if_eq (tgt := 77) hx hb dX2_stepAt_58 (by decide) (fun _ => ?_) (fun h9 => absurd (by decide +kernel) h9)
          refine lv_iload hx hb dX2_stepAt_77 (lv_at hl 1 rfl) ?_
          have hX_27 : F_H_stepAt h_features h_keys c_h_steps c_h_turnedFeatures c_h_keySteps x y k = (r_15 : Int32) := by
            refine (F_H_stepAt_s ..).trans ?_
            extract_lets -merge -useContext +onlyGivenNames w9 y9; have e9 : r_1 = w9 := he_r_1; clear_value w9; subst e9
            refine (if_neg c_4).trans ?_
            extract_lets -merge -useContext +onlyGivenNames w9 y9; have e9 : r_8 = w9 := he_r_8; clear_value w9; subst e9
            refine (if_neg c_11).trans ?_
            try (extract_lets -merge -useContext +onlyGivenNames y9; have e9 : x_13 = y9 := (by first | exact he_x_13 | exact he_x_13.symm); clear_value y9; subst e9)
            try (extract_lets -merge -useContext +onlyGivenNames y9; have e9 : x_14 = y9 := (by first | exact he_x_14 | exact he_x_14.symm); clear_value y9; subst e9)
            extract_lets -merge -useContext +onlyGivenNames w9 y9; have e9 : r_15 = w9 := he_r_15; clear_value w9; subst e9
            refine (if_pos c_18).trans ?_
            extract_lets -merge -useContext +onlyGivenNames w9 y9; have e9 : r_22 = w9 := he_r_22; clear_value w9; subst e9
            refine (if_neg c_25).trans ?_
            exact rfl
          exact hret _ _ _ _ _ _ () [1, 0, 3, 2] hP hD hS rfl (by decide) dX2_stepAt_79 ⟨(congrArg (fun z9 => z9) hX_27).symm, trivial⟩
        · skip
          refine lv_iconst (v := 1) hx hb dX2_stepAt_49 (by decide) ?_
          refine lv_goto (tgt := 54) hx hb dX2_stepAt_50 (by decide) ?_
          refine lv_istore (lv' := [(5, .int 1), (4, .int r_15), (0, .ref h), (1, .int x), (2, .int y), (3, .int k)]) hx hb dX2_stepAt_54 hl (by decide) rfl (fun ls hl => ?_)
          refine lv_iload hx hb dX2_stepAt_56 (lv_at hl 0 rfl) ?_
          refine lv_if_eq (tgt := 77) hx hb dX2_stepAt_58 (by decide) (fun h9 => absurd h9 (by decide +kernel)) (fun _ => ?_)
          refine lv_aload_n hx hb dX2_stepAt_61 rfl (lv_at hl 2 rfl) ?_
          refine va_get (D := G) (ci := 2) (v := .ref h_steps) (C := RX2) (T := TX2) (N := 18) hx hb hts inT2 hown hK hP 1 rfl rfl 2 (by decide) (hts _ tw_271) (fun _ h9 => h9) rfl dX2_stepAt_62 ?_
          refine lv_iload_n hx hb dX2_stepAt_65 rfl (lv_at hl 4 rfl) ?_
          refine z_callSNi (As := [.ref h_steps, .int y]) (rest := []) (wr := [(h, .inr (2, [.int h_features, .ref h_featureNames, .ref h_steps, .ref h_turnedFeatures, .ref h_sixteenths, .int h_keys, .ref h_keySteps, .int h_lent, .int h_rings, .ref h_on, .ref h_onMany, .int h_doors, .ref h_wanted, .ref h_openers, .ref h_seconds, .int h_turned, .int h_roundMany, .ref h_roundDoors])), (h_keySteps, .inl (cA.1 0, 30, .inl c_h_keySteps)), (h_turnedFeatures, .inl (cA.1 0, 3, .inl c_h_turnedFeatures))]) ⟨hx, hb, hml, hown, hts⟩ hK hE hT hP hD hS hA (d_at_3 l G cA h_steps c_h_steps y) lk_RX2_89 ⟨rfl, rfl⟩ ⟨Nat.le_of_ble_eq_true rfl, Nat.le_of_ble_eq_true rfl⟩ [0] [1, 2, 3] rfl rfl (by decide) rfl hl.1 rfl (lv_room (Nat.le_of_ble_eq_true rfl)) dX2_stepAt_66 ⟨Nat.le_of_ble_eq_true rfl, Nat.le_of_ble_eq_true rfl⟩ (fun r_29 u_30 H locs hw hP hD hS => ?_)
          have hP : va_P G vwCl [(h, .inr (2, [.int h_features, .ref h_featureNames, .ref h_steps, .ref h_turnedFeatures, .ref h_sixteenths, .int h_keys, .ref h_keySteps, .int h_lent, .int h_rings, .ref h_on, .ref h_onMany, .int h_doors, .ref h_wanted, .ref h_openers, .ref h_seconds, .int h_turned, .int h_roundMany, .ref h_roundDoors])), (h_keySteps, .inl (cA.1 0, 30, .inl c_h_keySteps)), (h_turnedFeatures, .inl (cA.1 0, 3, .inl c_h_turnedFeatures)), (h_steps, .inl (cA.1 0, 3, .inl c_h_steps))] H := hP
          have hD : va_D A [(h, .inr (2, [.int h_features, .ref h_featureNames, .ref h_steps, .ref h_turnedFeatures, .ref h_sixteenths, .int h_keys, .ref h_keySteps, .int h_lent, .int h_rings, .ref h_on, .ref h_onMany, .int h_doors, .ref h_wanted, .ref h_openers, .ref h_seconds, .int h_turned, .int h_roundMany, .ref h_roundDoors])), (h_keySteps, .inl (cA.1 0, 30, .inl c_h_keySteps)), (h_turnedFeatures, .inl (cA.1 0, 3, .inl c_h_turnedFeatures)), (h_steps, .inl (cA.1 0, 3, .inl c_h_steps))] := hD
          obtain ⟨he_r_29, hw⟩ := hw
          have hx_r_29 := hw
          refine lv_iconst (v := 1) hx hb dX2_stepAt_69 (by decide) ?_
          refine lv_isub hx hb dX2_stepAt_70 ?_
          refine lv_iload hx hb dX2_stepAt_71 (lv_at hl 1 rfl) ?_
          refine lv_isub hx hb dX2_stepAt_73 ?_
          refine lv_topi (fun x_32 he_x_32 => ?_)
          refine lv_goto (tgt := 79) hx hb dX2_stepAt_74 (by decide) ?_
          have hX_33 : F_H_stepAt h_features h_keys c_h_steps c_h_turnedFeatures c_h_keySteps x y k = (x_32 : Int32) := by
            refine (F_H_stepAt_s ..).trans ?_
            extract_lets -merge -useContext +onlyGivenNames w9 y9; have e9 : r_1 = w9 := he_r_1; clear_value w9; subst e9
            refine (if_neg c_4).trans ?_
            extract_lets -merge -useContext +onlyGivenNames w9 y9; have e9 : r_8 = w9 := he_r_8; clear_value w9; subst e9
            refine (if_neg c_11).trans ?_
            try (extract_lets -merge -useContext +onlyGivenNames y9; have e9 : x_13 = y9 := (by first | exact he_x_13 | exact he_x_13.symm); clear_value y9; subst e9)
            try (extract_lets -merge -useContext +onlyGivenNames y9; have e9 : x_14 = y9 := (by first | exact he_x_14 | exact he_x_14.symm); clear_value y9; subst e9)
            extract_lets -merge -useContext +onlyGivenNames w9 y9; have e9 : r_15 = w9 := he_r_15; clear_value w9; subst e9
            refine (if_pos c_18).trans ?_
            extract_lets -merge -useContext +onlyGivenNames w9 y9; have e9 : r_22 = w9 := he_r_22; clear_value w9; subst e9
            refine (if_pos c_25).trans ?_
            extract_lets -merge -useContext +onlyGivenNames w9 y9; have e9 : r_29 = w9 := he_r_29; clear_value w9; subst e9
            try (extract_lets -merge -useContext +onlyGivenNames y9; have e9 : x_32 = y9 := (by first | exact he_x_32 | exact he_x_32.symm); clear_value y9; subst e9)
            exact rfl
          exact hret _ _ _ _ _ _ () [0, 3, 2, 1] hP hD hS rfl (by decide) dX2_stepAt_79 ⟨(congrArg (fun z9 => z9) hX_33).symm, trivial⟩
    · skip
      refine lv_iconst (v := (-1)) hx hb dX2_stepAt_16 (by decide) ?_
      have hX_35 : F_H_stepAt h_features h_keys c_h_steps c_h_turnedFeatures c_h_keySteps x y k = ((-1 : Int32) : Int32) := by
        refine (F_H_stepAt_s ..).trans ?_
        extract_lets -merge -useContext +onlyGivenNames w9 y9; have e9 : r_1 = w9 := he_r_1; clear_value w9; subst e9
        refine (if_neg c_4).trans ?_
        extract_lets -merge -useContext +onlyGivenNames w9 y9; have e9 : r_8 = w9 := he_r_8; clear_value w9; subst e9
        refine (if_pos c_11).trans ?_
        exact rfl
      exact hret _ _ _ _ _ _ () [3, 0, 1, 2] hP hD hS rfl (by decide) dX2_stepAt_17 ⟨(congrArg (fun z9 => z9) hX_35).symm, trivial⟩
set_option maxHeartbeats 4000000 in
set_option maxRecDepth 100000 in
theorem d_H_feltAsAt (l : Launch) (G : va_G) (cA : zCA) (h : Nat) (h_features : Int32) (h_featureNames : Nat) (h_steps : Nat) (h_turnedFeatures : Nat) (h_sixteenths : Nat) (h_keys : Int32) (h_keySteps : Nat) (h_lent : Int32) (h_rings : Int32) (h_on : Nat) (h_onMany : Nat) (h_doors : Int32) (h_wanted : Nat) (h_openers : Nat) (h_seconds : Nat) (h_turned : Int32) (h_roundMany : Int32) (h_roundDoors : Nat) (c_h_steps : Nat → Int32) (c_h_turnedFeatures : Nat → Int32) (c_h_sixteenths : Nat → Int32) (c_h_keySteps : Nat → Int32) (x : Int32) (y : Int32) (k : Int32) (j : Int32) (hm_h_features : 0 ≤ h_features.toInt ∧ h_features.toInt ≤ 3) : zCi l yX2_feltAsAt cX2_feltAsAt 5 (some .int) ({ frames := 2, cells := 0, slots := 0, locals := 46 }) G cA [.ref h, .int x, .int y, .int k, .int j] [(h, .inr (2, [.int h_features, .ref h_featureNames, .ref h_steps, .ref h_turnedFeatures, .ref h_sixteenths, .int h_keys, .ref h_keySteps, .int h_lent, .int h_rings, .ref h_on, .ref h_onMany, .int h_doors, .ref h_wanted, .ref h_openers, .ref h_seconds, .int h_turned, .int h_roundMany, .ref h_roundDoors])), (h_steps, .inl (cA.1 0, 3, .inl c_h_steps)), (h_turnedFeatures, .inl (cA.1 0, 3, .inl c_h_turnedFeatures)), (h_sixteenths, .inl (cA.1 0, 48, .inl c_h_sixteenths)), (h_keySteps, .inl (cA.1 0, 30, .inl c_h_keySteps))] (S := Unit) (fun (r : Int32) (u : Unit) => True) (fun (u : Unit) => [(h, .inr (2, [.int h_features, .ref h_featureNames, .ref h_steps, .ref h_turnedFeatures, .ref h_sixteenths, .int h_keys, .ref h_keySteps, .int h_lent, .int h_rings, .ref h_on, .ref h_onMany, .int h_doors, .ref h_wanted, .ref h_openers, .ref h_seconds, .int h_turned, .int h_roundMany, .ref h_roundDoors])), (h_steps, .inl (cA.1 0, 3, .inl c_h_steps)), (h_turnedFeatures, .inl (cA.1 0, 3, .inl c_h_turnedFeatures)), (h_sixteenths, .inl (cA.1 0, 48, .inl c_h_sixteenths)), (h_keySteps, .inl (cA.1 0, 30, .inl c_h_keySteps))]) 0 0 := by
  refine z_start2i (own := RX2) (by decide) (Nat.le_of_ble_eq_true rfl) rfl ?_
  intro p e s m args below meth c A ls Q hx hb hml hts hown hK hE hT hP hD hS hA hl hret
  have hl : lv_has ls 5 [(0, .ref h), (1, .int x), (2, .int y), (3, .int k), (4, .int j)] := hl
  refine lv_aload_n hx hb dX2_feltAsAt_0 rfl (lv_at hl 0 rfl) ?_
  refine lv_iload_n hx hb dX2_feltAsAt_1 rfl (lv_at hl 2 rfl) ?_
  refine lv_aload_n hx hb dX2_feltAsAt_2 rfl (lv_at hl 0 rfl) ?_
  refine lv_iload_n hx hb dX2_feltAsAt_3 rfl (lv_at hl 1 rfl) ?_
  refine lv_iload_n hx hb dX2_feltAsAt_4 rfl (lv_at hl 2 rfl) ?_
  refine lv_iload_n hx hb dX2_feltAsAt_5 rfl (lv_at hl 3 rfl) ?_
  refine z_callVi (As := [.int x, .int y, .int k]) (rest := [.int y, .ref h]) (wr := [(h_sixteenths, .inl (cA.1 0, 48, .inl c_h_sixteenths))]) ⟨hx, hb, hml, hown, hts⟩ hK hE hT hP hD hS hA (d_H_stepAt l G cA h h_features h_featureNames h_steps h_turnedFeatures h_sixteenths h_keys h_keySteps h_lent h_rings h_on h_onMany h_doors h_wanted h_openers h_seconds h_turned h_roundMany h_roundDoors c_h_steps c_h_turnedFeatures c_h_keySteps x y k (by omega)) lk_RX2_100 ⟨rfl, rfl⟩ ⟨Nat.le_of_ble_eq_true rfl, Nat.le_of_ble_eq_true rfl⟩ 2 rfl rfl rfl [0, 1, 2, 4] [3] rfl rfl (by decide) rfl hl.1 rfl (lv_room (Nat.le_of_ble_eq_true rfl)) dX2_feltAsAt_6 ⟨Nat.le_of_ble_eq_true rfl, Nat.le_of_ble_eq_true rfl⟩ (fun r_1 u_2 H locs hw hP hD hS => ?_)
  have hP : va_P G vwCl [(h_sixteenths, .inl (cA.1 0, 48, .inl c_h_sixteenths)), (h, .inr (2, [.int h_features, .ref h_featureNames, .ref h_steps, .ref h_turnedFeatures, .ref h_sixteenths, .int h_keys, .ref h_keySteps, .int h_lent, .int h_rings, .ref h_on, .ref h_onMany, .int h_doors, .ref h_wanted, .ref h_openers, .ref h_seconds, .int h_turned, .int h_roundMany, .ref h_roundDoors])), (h_steps, .inl (cA.1 0, 3, .inl c_h_steps)), (h_turnedFeatures, .inl (cA.1 0, 3, .inl c_h_turnedFeatures)), (h_keySteps, .inl (cA.1 0, 30, .inl c_h_keySteps))] H := hP
  have hD : va_D A [(h_sixteenths, .inl (cA.1 0, 48, .inl c_h_sixteenths)), (h, .inr (2, [.int h_features, .ref h_featureNames, .ref h_steps, .ref h_turnedFeatures, .ref h_sixteenths, .int h_keys, .ref h_keySteps, .int h_lent, .int h_rings, .ref h_on, .ref h_onMany, .int h_doors, .ref h_wanted, .ref h_openers, .ref h_seconds, .int h_turned, .int h_roundMany, .ref h_roundDoors])), (h_steps, .inl (cA.1 0, 3, .inl c_h_steps)), (h_turnedFeatures, .inl (cA.1 0, 3, .inl c_h_turnedFeatures)), (h_keySteps, .inl (cA.1 0, 30, .inl c_h_keySteps))] := hD
  obtain ⟨he_r_1, hw⟩ := hw
  refine lv_iload hx hb dX2_feltAsAt_9 (lv_at hl 4 rfl) ?_
  refine z_callVi (As := [.int y, .int r_1, .int j]) (rest := []) (wr := [(h_steps, .inl (cA.1 0, 3, .inl c_h_steps)), (h_turnedFeatures, .inl (cA.1 0, 3, .inl c_h_turnedFeatures)), (h_keySteps, .inl (cA.1 0, 30, .inl c_h_keySteps))]) ⟨hx, hb, hml, hown, hts⟩ hK hE hT hP hD hS hA (d_H_feltAs l G cA h h_features h_featureNames h_steps h_turnedFeatures h_sixteenths h_keys h_keySteps h_lent h_rings h_on h_onMany h_doors h_wanted h_openers h_seconds h_turned h_roundMany h_roundDoors c_h_sixteenths y r_1 j (by omega)) lk_RX2_104 ⟨rfl, rfl⟩ ⟨Nat.le_of_ble_eq_true rfl, Nat.le_of_ble_eq_true rfl⟩ 2 rfl rfl rfl [1, 0] [2, 3, 4] rfl rfl (by decide) rfl hl.1 rfl (lv_room (Nat.le_of_ble_eq_true rfl)) dX2_feltAsAt_11 ⟨Nat.le_of_ble_eq_true rfl, Nat.le_of_ble_eq_true rfl⟩ (fun r_3 u_4 H locs hw hP hD hS => ?_)
  have hP : va_P G vwCl [(h_steps, .inl (cA.1 0, 3, .inl c_h_steps)), (h_turnedFeatures, .inl (cA.1 0, 3, .inl c_h_turnedFeatures)), (h_keySteps, .inl (cA.1 0, 30, .inl c_h_keySteps)), (h, .inr (2, [.int h_features, .ref h_featureNames, .ref h_steps, .ref h_turnedFeatures, .ref h_sixteenths, .int h_keys, .ref h_keySteps, .int h_lent, .int h_rings, .ref h_on, .ref h_onMany, .int h_doors, .ref h_wanted, .ref h_openers, .ref h_seconds, .int h_turned, .int h_roundMany, .ref h_roundDoors])), (h_sixteenths, .inl (cA.1 0, 48, .inl c_h_sixteenths))] H := hP
  have hD : va_D A [(h_steps, .inl (cA.1 0, 3, .inl c_h_steps)), (h_turnedFeatures, .inl (cA.1 0, 3, .inl c_h_turnedFeatures)), (h_keySteps, .inl (cA.1 0, 30, .inl c_h_keySteps)), (h, .inr (2, [.int h_features, .ref h_featureNames, .ref h_steps, .ref h_turnedFeatures, .ref h_sixteenths, .int h_keys, .ref h_keySteps, .int h_lent, .int h_rings, .ref h_on, .ref h_onMany, .int h_doors, .ref h_wanted, .ref h_openers, .ref h_seconds, .int h_turned, .int h_roundMany, .ref h_roundDoors])), (h_sixteenths, .inl (cA.1 0, 48, .inl c_h_sixteenths))] := hD
  obtain ⟨he_r_3, hw⟩ := hw
  exact hret _ _ _ _ _ _ () [3, 0, 1, 4, 2] hP hD hS rfl (by decide) dX2_feltAsAt_14 trivial
set_option maxHeartbeats 40000000 in
set_option maxRecDepth 100000 in
theorem d_H_unlocks (l : Launch) (G : va_G) (cA : zCA) (h : Nat) (h_features : Int32) (h_featureNames : Nat) (h_steps : Nat) (h_turnedFeatures : Nat) (h_sixteenths : Nat) (h_keys : Int32) (h_keySteps : Nat) (h_lent : Int32) (h_rings : Int32) (h_on : Nat) (h_onMany : Nat) (h_doors : Int32) (h_wanted : Nat) (h_openers : Nat) (h_seconds : Nat) (h_turned : Int32) (h_roundMany : Int32) (h_roundDoors : Nat) (c_h_openers : Nat → Int32) (x : Int32) (y : Int32) (hm_h_features : 0 ≤ h_features.toInt ∧ h_features.toInt ≤ 3) : zCi l yX2_unlocks cX2_unlocks 3 (some .boolean) ({ frames := 1, cells := 0, slots := 0, locals := 21 }) G cA [.ref h, .int x, .int y] [(h, .inr (2, [.int h_features, .ref h_featureNames, .ref h_steps, .ref h_turnedFeatures, .ref h_sixteenths, .int h_keys, .ref h_keySteps, .int h_lent, .int h_rings, .ref h_on, .ref h_onMany, .int h_doors, .ref h_wanted, .ref h_openers, .ref h_seconds, .int h_turned, .int h_roundMany, .ref h_roundDoors])), (h_openers, .inl (cA.1 0, 5, .inl c_h_openers))] (S := Unit) (fun (r : Int32) (u : Unit) => (r = (F_H_unlocks h_keys h_doors c_h_openers x y)) ∧ (r = 0 ∨ r = 1)) (fun (u : Unit) => [(h, .inr (2, [.int h_features, .ref h_featureNames, .ref h_steps, .ref h_turnedFeatures, .ref h_sixteenths, .int h_keys, .ref h_keySteps, .int h_lent, .int h_rings, .ref h_on, .ref h_onMany, .int h_doors, .ref h_wanted, .ref h_openers, .ref h_seconds, .int h_turned, .int h_roundMany, .ref h_roundDoors])), (h_openers, .inl (cA.1 0, 5, .inl c_h_openers))]) 0 0 := by
  refine z_start2z (own := RX2) (by decide) (Nat.le_of_ble_eq_true rfl) rfl ?_
  intro p e s m args below meth c A ls Q hx hb hml hts hown hK hE hT hP hD hS hA hl hret
  have hl : lv_has ls 3 [(0, .ref h), (1, .int x), (2, .int y)] := hl
  refine lv_aload_n hx hb dX2_unlocks_0 rfl (lv_at hl 0 rfl) ?_
  refine lv_iload_n hx hb dX2_unlocks_1 rfl (lv_at hl 2 rfl) ?_
  refine z_callVi (As := [.int y]) (rest := []) (wr := [(h_openers, .inl (cA.1 0, 5, .inl c_h_openers))]) ⟨hx, hb, hml, hown, hts⟩ hK hE hT hP hD hS hA (d_H_hasDoor l G cA h h_features h_featureNames h_steps h_turnedFeatures h_sixteenths h_keys h_keySteps h_lent h_rings h_on h_onMany h_doors h_wanted h_openers h_seconds h_turned h_roundMany h_roundDoors y (by omega)) lk_RX2_107 ⟨rfl, rfl⟩ ⟨Nat.le_of_ble_eq_true rfl, Nat.le_of_ble_eq_true rfl⟩ 2 rfl rfl rfl [0] [1] rfl rfl (by decide) rfl hl.1 rfl (lv_room (Nat.le_of_ble_eq_true rfl)) dX2_unlocks_2 ⟨Nat.le_of_ble_eq_true rfl, Nat.le_of_ble_eq_true rfl⟩ (fun r_1 u_2 H locs hw hP hD hS => ?_)
  have hP : va_P G vwCl [(h_openers, .inl (cA.1 0, 5, .inl c_h_openers)), (h, .inr (2, [.int h_features, .ref h_featureNames, .ref h_steps, .ref h_turnedFeatures, .ref h_sixteenths, .int h_keys, .ref h_keySteps, .int h_lent, .int h_rings, .ref h_on, .ref h_onMany, .int h_doors, .ref h_wanted, .ref h_openers, .ref h_seconds, .int h_turned, .int h_roundMany, .ref h_roundDoors]))] H := hP
  have hD : va_D A [(h_openers, .inl (cA.1 0, 5, .inl c_h_openers)), (h, .inr (2, [.int h_features, .ref h_featureNames, .ref h_steps, .ref h_turnedFeatures, .ref h_sixteenths, .int h_keys, .ref h_keySteps, .int h_lent, .int h_rings, .ref h_on, .ref h_onMany, .int h_doors, .ref h_wanted, .ref h_openers, .ref h_seconds, .int h_turned, .int h_roundMany, .ref h_roundDoors]))] := hD
  obtain ⟨he_r_1, hw⟩ := hw
  have hz_r_1 := hw
  refine lv_if_eq (tgt := 36) hx hb dX2_unlocks_5 (by decide) (fun c_4 => ?_) (fun c_4 => ?_)
  · skip
    refine lv_iconst (v := 0) hx hb dX2_unlocks_36 (by decide) ?_
    have hX_6 : F_H_unlocks h_keys h_doors c_h_openers x y = ((0 : Int32) : Int32) := by
      refine (F_H_unlocks_s ..).trans ?_
      extract_lets -merge -useContext +onlyGivenNames w9 y9; have e9 : r_1 = w9 := he_r_1; clear_value w9; subst e9
      refine (if_pos c_4).trans ?_
      exact rfl
    exact hret _ _ _ _ _ _ () [1, 0] hP hD hS rfl (by decide) dX2_unlocks_37 (Or.inl rfl) ⟨(congrArg (fun z9 => z9) hX_6).symm, (Or.inl rfl)⟩
  · skip
    refine lv_aload_n hx hb dX2_unlocks_8 rfl (lv_at hl 0 rfl) ?_
    refine lv_iload_n hx hb dX2_unlocks_9 rfl (lv_at hl 1 rfl) ?_
    refine z_callVi (As := [.int x]) (rest := []) (wr := [(h_openers, .inl (cA.1 0, 5, .inl c_h_openers))]) ⟨hx, hb, hml, hown, hts⟩ hK hE hT hP hD hS hA (d_H_hasKey l G cA h h_features h_featureNames h_steps h_turnedFeatures h_sixteenths h_keys h_keySteps h_lent h_rings h_on h_onMany h_doors h_wanted h_openers h_seconds h_turned h_roundMany h_roundDoors x (by omega)) lk_RX2_97 ⟨rfl, rfl⟩ ⟨Nat.le_of_ble_eq_true rfl, Nat.le_of_ble_eq_true rfl⟩ 2 rfl rfl rfl [1] [0] rfl rfl (by decide) rfl hl.1 rfl (lv_room (Nat.le_of_ble_eq_true rfl)) dX2_unlocks_10 ⟨Nat.le_of_ble_eq_true rfl, Nat.le_of_ble_eq_true rfl⟩ (fun r_8 u_9 H locs hw hP hD hS => ?_)
    have hP : va_P G vwCl [(h_openers, .inl (cA.1 0, 5, .inl c_h_openers)), (h, .inr (2, [.int h_features, .ref h_featureNames, .ref h_steps, .ref h_turnedFeatures, .ref h_sixteenths, .int h_keys, .ref h_keySteps, .int h_lent, .int h_rings, .ref h_on, .ref h_onMany, .int h_doors, .ref h_wanted, .ref h_openers, .ref h_seconds, .int h_turned, .int h_roundMany, .ref h_roundDoors]))] H := hP
    have hD : va_D A [(h_openers, .inl (cA.1 0, 5, .inl c_h_openers)), (h, .inr (2, [.int h_features, .ref h_featureNames, .ref h_steps, .ref h_turnedFeatures, .ref h_sixteenths, .int h_keys, .ref h_keySteps, .int h_lent, .int h_rings, .ref h_on, .ref h_onMany, .int h_doors, .ref h_wanted, .ref h_openers, .ref h_seconds, .int h_turned, .int h_roundMany, .ref h_roundDoors]))] := hD
    obtain ⟨he_r_8, hw⟩ := hw
    have hz_r_8 := hw
    refine lv_if_eq (tgt := 36) hx hb dX2_unlocks_13 (by decide) (fun c_11 => ?_) (fun c_11 => ?_)
    · skip
      refine lv_iconst (v := 0) hx hb dX2_unlocks_36 (by decide) ?_
      have hX_13 : F_H_unlocks h_keys h_doors c_h_openers x y = ((0 : Int32) : Int32) := by
        refine (F_H_unlocks_s ..).trans ?_
        extract_lets -merge -useContext +onlyGivenNames w9 y9; have e9 : r_1 = w9 := he_r_1; clear_value w9; subst e9
        refine (if_neg c_4).trans ?_
        extract_lets -merge -useContext +onlyGivenNames w9 y9; have e9 : r_8 = w9 := he_r_8; clear_value w9; subst e9
        refine (if_pos c_11).trans ?_
        exact rfl
      exact hret _ _ _ _ _ _ () [1, 0] hP hD hS rfl (by decide) dX2_unlocks_37 (Or.inl rfl) ⟨(congrArg (fun z9 => z9) hX_13).symm, (Or.inl rfl)⟩
    · skip
      refine lv_aload_n hx hb dX2_unlocks_16 rfl (lv_at hl 0 rfl) ?_
      refine va_get (D := G) (ci := 2) (v := .ref h_openers) (C := RX2) (T := TX2) (N := 18) hx hb hts inT2 hown hK hP 1 rfl rfl 13 (by decide) (hts _ tw_290) (fun _ h9 => h9) rfl dX2_unlocks_17 ?_
      refine lv_iload_n hx hb dX2_unlocks_20 rfl (lv_at hl 2 rfl) ?_
      refine z_callSNi (As := [.ref h_openers, .int y]) (rest := []) (wr := [(h, .inr (2, [.int h_features, .ref h_featureNames, .ref h_steps, .ref h_turnedFeatures, .ref h_sixteenths, .int h_keys, .ref h_keySteps, .int h_lent, .int h_rings, .ref h_on, .ref h_onMany, .int h_doors, .ref h_wanted, .ref h_openers, .ref h_seconds, .int h_turned, .int h_roundMany, .ref h_roundDoors]))]) ⟨hx, hb, hml, hown, hts⟩ hK hE hT hP hD hS hA (d_at_5 l G cA h_openers c_h_openers y) lk_RX2_89 ⟨rfl, rfl⟩ ⟨Nat.le_of_ble_eq_true rfl, Nat.le_of_ble_eq_true rfl⟩ [0] [1] rfl rfl (by decide) rfl hl.1 rfl (lv_room (Nat.le_of_ble_eq_true rfl)) dX2_unlocks_21 ⟨Nat.le_of_ble_eq_true rfl, Nat.le_of_ble_eq_true rfl⟩ (fun r_15 u_16 H locs hw hP hD hS => ?_)
      have hP : va_P G vwCl [(h, .inr (2, [.int h_features, .ref h_featureNames, .ref h_steps, .ref h_turnedFeatures, .ref h_sixteenths, .int h_keys, .ref h_keySteps, .int h_lent, .int h_rings, .ref h_on, .ref h_onMany, .int h_doors, .ref h_wanted, .ref h_openers, .ref h_seconds, .int h_turned, .int h_roundMany, .ref h_roundDoors])), (h_openers, .inl (cA.1 0, 5, .inl c_h_openers))] H := hP
      have hD : va_D A [(h, .inr (2, [.int h_features, .ref h_featureNames, .ref h_steps, .ref h_turnedFeatures, .ref h_sixteenths, .int h_keys, .ref h_keySteps, .int h_lent, .int h_rings, .ref h_on, .ref h_onMany, .int h_doors, .ref h_wanted, .ref h_openers, .ref h_seconds, .int h_turned, .int h_roundMany, .ref h_roundDoors])), (h_openers, .inl (cA.1 0, 5, .inl c_h_openers))] := hD
      obtain ⟨he_r_15, hw⟩ := hw
      refine lv_iload_n hx hb dX2_unlocks_24 rfl (lv_at hl 1 rfl) ?_
      refine lv_ishr hx hb dX2_unlocks_25 ?_
      refine lv_topi (fun x_18 he_x_18 => ?_)
      refine lv_iconst (v := 1) hx hb dX2_unlocks_26 (by decide) ?_
      refine lv_iand hx hb dX2_unlocks_27 ?_
      refine lv_topi (fun x_19 he_x_19 => ?_)
      refine lv_iconst (v := 1) hx hb dX2_unlocks_28 (by decide) ?_
      refine lv_icmp_ne (tgt := 36) hx hb dX2_unlocks_29 (by decide) (fun c_20 => ?_) (fun c_20 => ?_)
      · skip
        refine lv_iconst (v := 0) hx hb dX2_unlocks_36 (by decide) ?_
        have hX_22 : F_H_unlocks h_keys h_doors c_h_openers x y = ((0 : Int32) : Int32) := by
          refine (F_H_unlocks_s ..).trans ?_
          extract_lets -merge -useContext +onlyGivenNames w9 y9; have e9 : r_1 = w9 := he_r_1; clear_value w9; subst e9
          refine (if_neg c_4).trans ?_
          extract_lets -merge -useContext +onlyGivenNames w9 y9; have e9 : r_8 = w9 := he_r_8; clear_value w9; subst e9
          refine (if_neg c_11).trans ?_
          extract_lets -merge -useContext +onlyGivenNames w9 y9; have e9 : r_15 = w9 := he_r_15; clear_value w9; subst e9
          try (extract_lets -merge -useContext +onlyGivenNames y9; have e9 : x_18 = y9 := (by first | exact he_x_18 | exact he_x_18.symm); clear_value y9; subst e9)
          try (extract_lets -merge -useContext +onlyGivenNames y9; have e9 : x_19 = y9 := (by first | exact he_x_19 | exact he_x_19.symm); clear_value y9; subst e9)
          refine (if_neg c_20).trans ?_
          exact rfl
        exact hret _ _ _ _ _ _ () [0, 1] hP hD hS rfl (by decide) dX2_unlocks_37 (Or.inl rfl) ⟨(congrArg (fun z9 => z9) hX_22).symm, (Or.inl rfl)⟩
      · skip
        refine lv_iconst (v := 1) hx hb dX2_unlocks_32 (by decide) ?_
        refine lv_goto (tgt := 37) hx hb dX2_unlocks_33 (by decide) ?_
        have hX_24 : F_H_unlocks h_keys h_doors c_h_openers x y = ((1 : Int32) : Int32) := by
          refine (F_H_unlocks_s ..).trans ?_
          extract_lets -merge -useContext +onlyGivenNames w9 y9; have e9 : r_1 = w9 := he_r_1; clear_value w9; subst e9
          refine (if_neg c_4).trans ?_
          extract_lets -merge -useContext +onlyGivenNames w9 y9; have e9 : r_8 = w9 := he_r_8; clear_value w9; subst e9
          refine (if_neg c_11).trans ?_
          extract_lets -merge -useContext +onlyGivenNames w9 y9; have e9 : r_15 = w9 := he_r_15; clear_value w9; subst e9
          try (extract_lets -merge -useContext +onlyGivenNames y9; have e9 : x_18 = y9 := (by first | exact he_x_18 | exact he_x_18.symm); clear_value y9; subst e9)
          try (extract_lets -merge -useContext +onlyGivenNames y9; have e9 : x_19 = y9 := (by first | exact he_x_19 | exact he_x_19.symm); clear_value y9; subst e9)
          refine (if_pos c_20).trans ?_
          exact rfl
        exact hret _ _ _ _ _ _ () [0, 1] hP hD hS rfl (by decide) dX2_unlocks_37 (Or.inr rfl) ⟨(congrArg (fun z9 => z9) hX_24).symm, (Or.inr rfl)⟩
set_option maxHeartbeats 40000000 in
set_option maxRecDepth 100000 in
theorem d_H_openersOf (l : Launch) (G : va_G) (cA : zCA) (h : Nat) (h_features : Int32) (h_featureNames : Nat) (h_steps : Nat) (h_turnedFeatures : Nat) (h_sixteenths : Nat) (h_keys : Int32) (h_keySteps : Nat) (h_lent : Int32) (h_rings : Int32) (h_on : Nat) (h_onMany : Nat) (h_doors : Int32) (h_wanted : Nat) (h_openers : Nat) (h_seconds : Nat) (h_turned : Int32) (h_roundMany : Int32) (h_roundDoors : Nat) (c_h_openers : Nat → Int32) (k : Int32) (hm_h_features : 0 ≤ h_features.toInt ∧ h_features.toInt ≤ 3) : zCi l yX2_openersOf cX2_openersOf 2 (some .int) ({ frames := 1, cells := 0, slots := 0, locals := 21 }) G cA [.ref h, .int k] [(h, .inr (2, [.int h_features, .ref h_featureNames, .ref h_steps, .ref h_turnedFeatures, .ref h_sixteenths, .int h_keys, .ref h_keySteps, .int h_lent, .int h_rings, .ref h_on, .ref h_onMany, .int h_doors, .ref h_wanted, .ref h_openers, .ref h_seconds, .int h_turned, .int h_roundMany, .ref h_roundDoors])), (h_openers, .inl (cA.1 0, 5, .inl c_h_openers))] (S := Unit) (fun (r : Int32) (u : Unit) => (r = (F_H_openersOf h_doors c_h_openers k)) ∧ (True)) (fun (u : Unit) => [(h, .inr (2, [.int h_features, .ref h_featureNames, .ref h_steps, .ref h_turnedFeatures, .ref h_sixteenths, .int h_keys, .ref h_keySteps, .int h_lent, .int h_rings, .ref h_on, .ref h_onMany, .int h_doors, .ref h_wanted, .ref h_openers, .ref h_seconds, .int h_turned, .int h_roundMany, .ref h_roundDoors])), (h_openers, .inl (cA.1 0, 5, .inl c_h_openers))]) 0 0 := by
  refine z_start2i (own := RX2) (by decide) (Nat.le_of_ble_eq_true rfl) rfl ?_
  intro p e s m args below meth c A ls Q hx hb hml hts hown hK hE hT hP hD hS hA hl hret
  have hl : lv_has ls 2 [(0, .ref h), (1, .int k)] := hl
  refine lv_aload_n hx hb dX2_openersOf_0 rfl (lv_at hl 0 rfl) ?_
  refine lv_iload_n hx hb dX2_openersOf_1 rfl (lv_at hl 1 rfl) ?_
  refine z_callVi (As := [.int k]) (rest := []) (wr := [(h_openers, .inl (cA.1 0, 5, .inl c_h_openers))]) ⟨hx, hb, hml, hown, hts⟩ hK hE hT hP hD hS hA (d_H_hasDoor l G cA h h_features h_featureNames h_steps h_turnedFeatures h_sixteenths h_keys h_keySteps h_lent h_rings h_on h_onMany h_doors h_wanted h_openers h_seconds h_turned h_roundMany h_roundDoors k (by omega)) lk_RX2_107 ⟨rfl, rfl⟩ ⟨Nat.le_of_ble_eq_true rfl, Nat.le_of_ble_eq_true rfl⟩ 2 rfl rfl rfl [0] [1] rfl rfl (by decide) rfl hl.1 rfl (lv_room (Nat.le_of_ble_eq_true rfl)) dX2_openersOf_2 ⟨Nat.le_of_ble_eq_true rfl, Nat.le_of_ble_eq_true rfl⟩ (fun r_1 u_2 H locs hw hP hD hS => ?_)
  have hP : va_P G vwCl [(h_openers, .inl (cA.1 0, 5, .inl c_h_openers)), (h, .inr (2, [.int h_features, .ref h_featureNames, .ref h_steps, .ref h_turnedFeatures, .ref h_sixteenths, .int h_keys, .ref h_keySteps, .int h_lent, .int h_rings, .ref h_on, .ref h_onMany, .int h_doors, .ref h_wanted, .ref h_openers, .ref h_seconds, .int h_turned, .int h_roundMany, .ref h_roundDoors]))] H := hP
  have hD : va_D A [(h_openers, .inl (cA.1 0, 5, .inl c_h_openers)), (h, .inr (2, [.int h_features, .ref h_featureNames, .ref h_steps, .ref h_turnedFeatures, .ref h_sixteenths, .int h_keys, .ref h_keySteps, .int h_lent, .int h_rings, .ref h_on, .ref h_onMany, .int h_doors, .ref h_wanted, .ref h_openers, .ref h_seconds, .int h_turned, .int h_roundMany, .ref h_roundDoors]))] := hD
  obtain ⟨he_r_1, hw⟩ := hw
  have hz_r_1 := hw
  refine lv_if_eq (tgt := 19) hx hb dX2_openersOf_5 (by decide) (fun c_4 => ?_) (fun c_4 => ?_)
  · skip
    refine lv_iconst (v := 0) hx hb dX2_openersOf_19 (by decide) ?_
    have hX_6 : F_H_openersOf h_doors c_h_openers k = ((0 : Int32) : Int32) := by
      refine (F_H_openersOf_s ..).trans ?_
      extract_lets -merge -useContext +onlyGivenNames w9 y9; have e9 : r_1 = w9 := he_r_1; clear_value w9; subst e9
      refine (if_pos c_4).trans ?_
      exact rfl
    exact hret _ _ _ _ _ _ () [1, 0] hP hD hS rfl (by decide) dX2_openersOf_20 ⟨(congrArg (fun z9 => z9) hX_6).symm, trivial⟩
  · skip
    refine lv_aload_n hx hb dX2_openersOf_8 rfl (lv_at hl 0 rfl) ?_
    refine va_get (D := G) (ci := 2) (v := .ref h_openers) (C := RX2) (T := TX2) (N := 18) hx hb hts inT2 hown hK hP 1 rfl rfl 13 (by decide) (hts _ tw_290) (fun _ h9 => h9) rfl dX2_openersOf_9 ?_
    refine lv_iload_n hx hb dX2_openersOf_12 rfl (lv_at hl 1 rfl) ?_
    refine z_callSNi (As := [.ref h_openers, .int k]) (rest := []) (wr := [(h, .inr (2, [.int h_features, .ref h_featureNames, .ref h_steps, .ref h_turnedFeatures, .ref h_sixteenths, .int h_keys, .ref h_keySteps, .int h_lent, .int h_rings, .ref h_on, .ref h_onMany, .int h_doors, .ref h_wanted, .ref h_openers, .ref h_seconds, .int h_turned, .int h_roundMany, .ref h_roundDoors]))]) ⟨hx, hb, hml, hown, hts⟩ hK hE hT hP hD hS hA (d_at_5 l G cA h_openers c_h_openers k) lk_RX2_89 ⟨rfl, rfl⟩ ⟨Nat.le_of_ble_eq_true rfl, Nat.le_of_ble_eq_true rfl⟩ [0] [1] rfl rfl (by decide) rfl hl.1 rfl (lv_room (Nat.le_of_ble_eq_true rfl)) dX2_openersOf_13 ⟨Nat.le_of_ble_eq_true rfl, Nat.le_of_ble_eq_true rfl⟩ (fun r_8 u_9 H locs hw hP hD hS => ?_)
    have hP : va_P G vwCl [(h, .inr (2, [.int h_features, .ref h_featureNames, .ref h_steps, .ref h_turnedFeatures, .ref h_sixteenths, .int h_keys, .ref h_keySteps, .int h_lent, .int h_rings, .ref h_on, .ref h_onMany, .int h_doors, .ref h_wanted, .ref h_openers, .ref h_seconds, .int h_turned, .int h_roundMany, .ref h_roundDoors])), (h_openers, .inl (cA.1 0, 5, .inl c_h_openers))] H := hP
    have hD : va_D A [(h, .inr (2, [.int h_features, .ref h_featureNames, .ref h_steps, .ref h_turnedFeatures, .ref h_sixteenths, .int h_keys, .ref h_keySteps, .int h_lent, .int h_rings, .ref h_on, .ref h_onMany, .int h_doors, .ref h_wanted, .ref h_openers, .ref h_seconds, .int h_turned, .int h_roundMany, .ref h_roundDoors])), (h_openers, .inl (cA.1 0, 5, .inl c_h_openers))] := hD
    obtain ⟨he_r_8, hw⟩ := hw
    refine lv_goto (tgt := 20) hx hb dX2_openersOf_16 (by decide) ?_
    have hX_11 : F_H_openersOf h_doors c_h_openers k = (r_8 : Int32) := by
      refine (F_H_openersOf_s ..).trans ?_
      extract_lets -merge -useContext +onlyGivenNames w9 y9; have e9 : r_1 = w9 := he_r_1; clear_value w9; subst e9
      refine (if_neg c_4).trans ?_
      extract_lets -merge -useContext +onlyGivenNames w9 y9; have e9 : r_8 = w9 := he_r_8; clear_value w9; subst e9
      exact rfl
    exact hret _ _ _ _ _ _ () [0, 1] hP hD hS rfl (by decide) dX2_openersOf_20 ⟨(congrArg (fun z9 => z9) hX_11).symm, trivial⟩
set_option maxHeartbeats 40000000 in
set_option maxRecDepth 100000 in
theorem d_H_wantedOf (l : Launch) (G : va_G) (cA : zCA) (h : Nat) (h_features : Int32) (h_featureNames : Nat) (h_steps : Nat) (h_turnedFeatures : Nat) (h_sixteenths : Nat) (h_keys : Int32) (h_keySteps : Nat) (h_lent : Int32) (h_rings : Int32) (h_on : Nat) (h_onMany : Nat) (h_doors : Int32) (h_wanted : Nat) (h_openers : Nat) (h_seconds : Nat) (h_turned : Int32) (h_roundMany : Int32) (h_roundDoors : Nat) (c_h_wanted : Nat → Int32) (k : Int32) (hm_h_features : 0 ≤ h_features.toInt ∧ h_features.toInt ≤ 3) : zCi l yX2_wantedOf cX2_wantedOf 2 (some .int) ({ frames := 1, cells := 0, slots := 0, locals := 21 }) G cA [.ref h, .int k] [(h, .inr (2, [.int h_features, .ref h_featureNames, .ref h_steps, .ref h_turnedFeatures, .ref h_sixteenths, .int h_keys, .ref h_keySteps, .int h_lent, .int h_rings, .ref h_on, .ref h_onMany, .int h_doors, .ref h_wanted, .ref h_openers, .ref h_seconds, .int h_turned, .int h_roundMany, .ref h_roundDoors])), (h_wanted, .inl (cA.1 0, 5, .inl c_h_wanted))] (S := Unit) (fun (r : Int32) (u : Unit) => (r = (F_H_wantedOf h_doors c_h_wanted k)) ∧ (True)) (fun (u : Unit) => [(h, .inr (2, [.int h_features, .ref h_featureNames, .ref h_steps, .ref h_turnedFeatures, .ref h_sixteenths, .int h_keys, .ref h_keySteps, .int h_lent, .int h_rings, .ref h_on, .ref h_onMany, .int h_doors, .ref h_wanted, .ref h_openers, .ref h_seconds, .int h_turned, .int h_roundMany, .ref h_roundDoors])), (h_wanted, .inl (cA.1 0, 5, .inl c_h_wanted))]) 0 0 := by
  refine z_start2i (own := RX2) (by decide) (Nat.le_of_ble_eq_true rfl) rfl ?_
  intro p e s m args below meth c A ls Q hx hb hml hts hown hK hE hT hP hD hS hA hl hret
  have hl : lv_has ls 2 [(0, .ref h), (1, .int k)] := hl
  refine lv_aload_n hx hb dX2_wantedOf_0 rfl (lv_at hl 0 rfl) ?_
  refine lv_iload_n hx hb dX2_wantedOf_1 rfl (lv_at hl 1 rfl) ?_
  refine z_callVi (As := [.int k]) (rest := []) (wr := [(h_wanted, .inl (cA.1 0, 5, .inl c_h_wanted))]) ⟨hx, hb, hml, hown, hts⟩ hK hE hT hP hD hS hA (d_H_hasDoor l G cA h h_features h_featureNames h_steps h_turnedFeatures h_sixteenths h_keys h_keySteps h_lent h_rings h_on h_onMany h_doors h_wanted h_openers h_seconds h_turned h_roundMany h_roundDoors k (by omega)) lk_RX2_107 ⟨rfl, rfl⟩ ⟨Nat.le_of_ble_eq_true rfl, Nat.le_of_ble_eq_true rfl⟩ 2 rfl rfl rfl [0] [1] rfl rfl (by decide) rfl hl.1 rfl (lv_room (Nat.le_of_ble_eq_true rfl)) dX2_wantedOf_2 ⟨Nat.le_of_ble_eq_true rfl, Nat.le_of_ble_eq_true rfl⟩ (fun r_1 u_2 H locs hw hP hD hS => ?_)
  have hP : va_P G vwCl [(h_wanted, .inl (cA.1 0, 5, .inl c_h_wanted)), (h, .inr (2, [.int h_features, .ref h_featureNames, .ref h_steps, .ref h_turnedFeatures, .ref h_sixteenths, .int h_keys, .ref h_keySteps, .int h_lent, .int h_rings, .ref h_on, .ref h_onMany, .int h_doors, .ref h_wanted, .ref h_openers, .ref h_seconds, .int h_turned, .int h_roundMany, .ref h_roundDoors]))] H := hP
  have hD : va_D A [(h_wanted, .inl (cA.1 0, 5, .inl c_h_wanted)), (h, .inr (2, [.int h_features, .ref h_featureNames, .ref h_steps, .ref h_turnedFeatures, .ref h_sixteenths, .int h_keys, .ref h_keySteps, .int h_lent, .int h_rings, .ref h_on, .ref h_onMany, .int h_doors, .ref h_wanted, .ref h_openers, .ref h_seconds, .int h_turned, .int h_roundMany, .ref h_roundDoors]))] := hD
  obtain ⟨he_r_1, hw⟩ := hw
  have hz_r_1 := hw
  refine lv_if_eq (tgt := 19) hx hb dX2_wantedOf_5 (by decide) (fun c_4 => ?_) (fun c_4 => ?_)
  · skip
    refine lv_iconst (v := 0) hx hb dX2_wantedOf_19 (by decide) ?_
    have hX_6 : F_H_wantedOf h_doors c_h_wanted k = ((0 : Int32) : Int32) := by
      refine (F_H_wantedOf_s ..).trans ?_
      extract_lets -merge -useContext +onlyGivenNames w9 y9; have e9 : r_1 = w9 := he_r_1; clear_value w9; subst e9
      refine (if_pos c_4).trans ?_
      exact rfl
    exact hret _ _ _ _ _ _ () [1, 0] hP hD hS rfl (by decide) dX2_wantedOf_20 ⟨(congrArg (fun z9 => z9) hX_6).symm, trivial⟩
  · skip
    refine lv_aload_n hx hb dX2_wantedOf_8 rfl (lv_at hl 0 rfl) ?_
    refine va_get (D := G) (ci := 2) (v := .ref h_wanted) (C := RX2) (T := TX2) (N := 18) hx hb hts inT2 hown hK hP 1 rfl rfl 12 (by decide) (hts _ tw_289) (fun _ h9 => h9) rfl dX2_wantedOf_9 ?_
    refine lv_iload_n hx hb dX2_wantedOf_12 rfl (lv_at hl 1 rfl) ?_
    refine z_callSNi (As := [.ref h_wanted, .int k]) (rest := []) (wr := [(h, .inr (2, [.int h_features, .ref h_featureNames, .ref h_steps, .ref h_turnedFeatures, .ref h_sixteenths, .int h_keys, .ref h_keySteps, .int h_lent, .int h_rings, .ref h_on, .ref h_onMany, .int h_doors, .ref h_wanted, .ref h_openers, .ref h_seconds, .int h_turned, .int h_roundMany, .ref h_roundDoors]))]) ⟨hx, hb, hml, hown, hts⟩ hK hE hT hP hD hS hA (d_at_5 l G cA h_wanted c_h_wanted k) lk_RX2_89 ⟨rfl, rfl⟩ ⟨Nat.le_of_ble_eq_true rfl, Nat.le_of_ble_eq_true rfl⟩ [0] [1] rfl rfl (by decide) rfl hl.1 rfl (lv_room (Nat.le_of_ble_eq_true rfl)) dX2_wantedOf_13 ⟨Nat.le_of_ble_eq_true rfl, Nat.le_of_ble_eq_true rfl⟩ (fun r_8 u_9 H locs hw hP hD hS => ?_)
    have hP : va_P G vwCl [(h, .inr (2, [.int h_features, .ref h_featureNames, .ref h_steps, .ref h_turnedFeatures, .ref h_sixteenths, .int h_keys, .ref h_keySteps, .int h_lent, .int h_rings, .ref h_on, .ref h_onMany, .int h_doors, .ref h_wanted, .ref h_openers, .ref h_seconds, .int h_turned, .int h_roundMany, .ref h_roundDoors])), (h_wanted, .inl (cA.1 0, 5, .inl c_h_wanted))] H := hP
    have hD : va_D A [(h, .inr (2, [.int h_features, .ref h_featureNames, .ref h_steps, .ref h_turnedFeatures, .ref h_sixteenths, .int h_keys, .ref h_keySteps, .int h_lent, .int h_rings, .ref h_on, .ref h_onMany, .int h_doors, .ref h_wanted, .ref h_openers, .ref h_seconds, .int h_turned, .int h_roundMany, .ref h_roundDoors])), (h_wanted, .inl (cA.1 0, 5, .inl c_h_wanted))] := hD
    obtain ⟨he_r_8, hw⟩ := hw
    refine lv_goto (tgt := 20) hx hb dX2_wantedOf_16 (by decide) ?_
    have hX_11 : F_H_wantedOf h_doors c_h_wanted k = (r_8 : Int32) := by
      refine (F_H_wantedOf_s ..).trans ?_
      extract_lets -merge -useContext +onlyGivenNames w9 y9; have e9 : r_1 = w9 := he_r_1; clear_value w9; subst e9
      refine (if_neg c_4).trans ?_
      extract_lets -merge -useContext +onlyGivenNames w9 y9; have e9 : r_8 = w9 := he_r_8; clear_value w9; subst e9
      exact rfl
    exact hret _ _ _ _ _ _ () [0, 1] hP hD hS rfl (by decide) dX2_wantedOf_20 ⟨(congrArg (fun z9 => z9) hX_11).symm, trivial⟩
set_option maxHeartbeats 40000000 in
set_option maxRecDepth 100000 in
theorem d_H_secondsOf (l : Launch) (G : va_G) (cA : zCA) (h : Nat) (h_features : Int32) (h_featureNames : Nat) (h_steps : Nat) (h_turnedFeatures : Nat) (h_sixteenths : Nat) (h_keys : Int32) (h_keySteps : Nat) (h_lent : Int32) (h_rings : Int32) (h_on : Nat) (h_onMany : Nat) (h_doors : Int32) (h_wanted : Nat) (h_openers : Nat) (h_seconds : Nat) (h_turned : Int32) (h_roundMany : Int32) (h_roundDoors : Nat) (c_h_seconds : Nat → Int32) (k : Int32) (hm_h_features : 0 ≤ h_features.toInt ∧ h_features.toInt ≤ 3) : zCi l yX2_secondsOf cX2_secondsOf 2 (some .int) ({ frames := 1, cells := 0, slots := 0, locals := 21 }) G cA [.ref h, .int k] [(h, .inr (2, [.int h_features, .ref h_featureNames, .ref h_steps, .ref h_turnedFeatures, .ref h_sixteenths, .int h_keys, .ref h_keySteps, .int h_lent, .int h_rings, .ref h_on, .ref h_onMany, .int h_doors, .ref h_wanted, .ref h_openers, .ref h_seconds, .int h_turned, .int h_roundMany, .ref h_roundDoors])), (h_seconds, .inl (cA.1 0, 4, .inl c_h_seconds))] (S := Unit) (fun (r : Int32) (u : Unit) => (r = (F_H_secondsOf c_h_seconds k)) ∧ (True)) (fun (u : Unit) => [(h, .inr (2, [.int h_features, .ref h_featureNames, .ref h_steps, .ref h_turnedFeatures, .ref h_sixteenths, .int h_keys, .ref h_keySteps, .int h_lent, .int h_rings, .ref h_on, .ref h_onMany, .int h_doors, .ref h_wanted, .ref h_openers, .ref h_seconds, .int h_turned, .int h_roundMany, .ref h_roundDoors])), (h_seconds, .inl (cA.1 0, 4, .inl c_h_seconds))]) 0 0 := by
  refine z_start2i (own := RX2) (by decide) (Nat.le_of_ble_eq_true rfl) rfl ?_
  intro p e s m args below meth c A ls Q hx hb hml hts hown hK hE hT hP hD hS hA hl hret
  have hl : lv_has ls 2 [(0, .ref h), (1, .int k)] := hl
  refine lv_aload_n hx hb dX2_secondsOf_0 rfl (lv_at hl 0 rfl) ?_
  refine va_get (D := G) (ci := 2) (v := .ref h_seconds) (C := RX2) (T := TX2) (N := 18) hx hb hts inT2 hown hK hP 0 rfl rfl 14 (by decide) (hts _ tw_291) (fun _ h9 => h9) rfl dX2_secondsOf_1 ?_
  refine lv_iload_n hx hb dX2_secondsOf_4 rfl (lv_at hl 1 rfl) ?_
  refine z_callSNi (As := [.ref h_seconds, .int k]) (rest := []) (wr := [(h, .inr (2, [.int h_features, .ref h_featureNames, .ref h_steps, .ref h_turnedFeatures, .ref h_sixteenths, .int h_keys, .ref h_keySteps, .int h_lent, .int h_rings, .ref h_on, .ref h_onMany, .int h_doors, .ref h_wanted, .ref h_openers, .ref h_seconds, .int h_turned, .int h_roundMany, .ref h_roundDoors]))]) ⟨hx, hb, hml, hown, hts⟩ hK hE hT hP hD hS hA (d_at_4 l G cA h_seconds c_h_seconds k) lk_RX2_89 ⟨rfl, rfl⟩ ⟨Nat.le_of_ble_eq_true rfl, Nat.le_of_ble_eq_true rfl⟩ [1] [0] rfl rfl (by decide) rfl hl.1 rfl (lv_room (Nat.le_of_ble_eq_true rfl)) dX2_secondsOf_5 ⟨Nat.le_of_ble_eq_true rfl, Nat.le_of_ble_eq_true rfl⟩ (fun r_1 u_2 H locs hw hP hD hS => ?_)
  have hP : va_P G vwCl [(h, .inr (2, [.int h_features, .ref h_featureNames, .ref h_steps, .ref h_turnedFeatures, .ref h_sixteenths, .int h_keys, .ref h_keySteps, .int h_lent, .int h_rings, .ref h_on, .ref h_onMany, .int h_doors, .ref h_wanted, .ref h_openers, .ref h_seconds, .int h_turned, .int h_roundMany, .ref h_roundDoors])), (h_seconds, .inl (cA.1 0, 4, .inl c_h_seconds))] H := hP
  have hD : va_D A [(h, .inr (2, [.int h_features, .ref h_featureNames, .ref h_steps, .ref h_turnedFeatures, .ref h_sixteenths, .int h_keys, .ref h_keySteps, .int h_lent, .int h_rings, .ref h_on, .ref h_onMany, .int h_doors, .ref h_wanted, .ref h_openers, .ref h_seconds, .int h_turned, .int h_roundMany, .ref h_roundDoors])), (h_seconds, .inl (cA.1 0, 4, .inl c_h_seconds))] := hD
  obtain ⟨he_r_1, hw⟩ := hw
  have hX_4 : F_H_secondsOf c_h_seconds k = (r_1 : Int32) := by
    refine (F_H_secondsOf_s ..).trans ?_
    extract_lets -merge -useContext +onlyGivenNames w9 y9; have e9 : r_1 = w9 := he_r_1; clear_value w9; subst e9
    exact rfl
  exact hret _ _ _ _ _ _ () [0, 1] hP hD hS rfl (by decide) dX2_secondsOf_8 ⟨(congrArg (fun z9 => z9) hX_4).symm, trivial⟩
set_option maxHeartbeats 40000000 in
set_option maxRecDepth 100000 in
theorem d_H_isLent (l : Launch) (G : va_G) (cA : zCA) (h : Nat) (h_features : Int32) (h_featureNames : Nat) (h_steps : Nat) (h_turnedFeatures : Nat) (h_sixteenths : Nat) (h_keys : Int32) (h_keySteps : Nat) (h_lent : Int32) (h_rings : Int32) (h_on : Nat) (h_onMany : Nat) (h_doors : Int32) (h_wanted : Nat) (h_openers : Nat) (h_seconds : Nat) (h_turned : Int32) (h_roundMany : Int32) (h_roundDoors : Nat) (k : Int32) (hm_h_features : 0 ≤ h_features.toInt ∧ h_features.toInt ≤ 3) : zCi l yX2_isLent cX2_isLent 2 (some .boolean) ({ frames := 1, cells := 0, slots := 0, locals := 21 }) G cA [.ref h, .int k] [(h, .inr (2, [.int h_features, .ref h_featureNames, .ref h_steps, .ref h_turnedFeatures, .ref h_sixteenths, .int h_keys, .ref h_keySteps, .int h_lent, .int h_rings, .ref h_on, .ref h_onMany, .int h_doors, .ref h_wanted, .ref h_openers, .ref h_seconds, .int h_turned, .int h_roundMany, .ref h_roundDoors]))] (S := Unit) (fun (r : Int32) (u : Unit) => (r = (F_H_isLent h_keys h_lent k)) ∧ (r = 0 ∨ r = 1)) (fun (u : Unit) => [(h, .inr (2, [.int h_features, .ref h_featureNames, .ref h_steps, .ref h_turnedFeatures, .ref h_sixteenths, .int h_keys, .ref h_keySteps, .int h_lent, .int h_rings, .ref h_on, .ref h_onMany, .int h_doors, .ref h_wanted, .ref h_openers, .ref h_seconds, .int h_turned, .int h_roundMany, .ref h_roundDoors]))]) 0 0 := by
  refine z_start2z (own := RX2) (by decide) (Nat.le_of_ble_eq_true rfl) rfl ?_
  intro p e s m args below meth c A ls Q hx hb hml hts hown hK hE hT hP hD hS hA hl hret
  have hl : lv_has ls 2 [(0, .ref h), (1, .int k)] := hl
  refine lv_aload_n hx hb dX2_isLent_0 rfl (lv_at hl 0 rfl) ?_
  refine lv_iload_n hx hb dX2_isLent_1 rfl (lv_at hl 1 rfl) ?_
  refine z_callVi (As := [.int k]) (rest := []) (wr := []) ⟨hx, hb, hml, hown, hts⟩ hK hE hT hP hD hS hA (d_H_hasKey l G cA h h_features h_featureNames h_steps h_turnedFeatures h_sixteenths h_keys h_keySteps h_lent h_rings h_on h_onMany h_doors h_wanted h_openers h_seconds h_turned h_roundMany h_roundDoors k (by omega)) lk_RX2_97 ⟨rfl, rfl⟩ ⟨Nat.le_of_ble_eq_true rfl, Nat.le_of_ble_eq_true rfl⟩ 2 rfl rfl rfl [0] [] rfl rfl (by decide) rfl hl.1 rfl (lv_room (Nat.le_of_ble_eq_true rfl)) dX2_isLent_2 ⟨Nat.le_of_ble_eq_true rfl, Nat.le_of_ble_eq_true rfl⟩ (fun r_1 u_2 H locs hw hP hD hS => ?_)
  have hP : va_P G vwCl [(h, .inr (2, [.int h_features, .ref h_featureNames, .ref h_steps, .ref h_turnedFeatures, .ref h_sixteenths, .int h_keys, .ref h_keySteps, .int h_lent, .int h_rings, .ref h_on, .ref h_onMany, .int h_doors, .ref h_wanted, .ref h_openers, .ref h_seconds, .int h_turned, .int h_roundMany, .ref h_roundDoors]))] H := hP
  have hD : va_D A [(h, .inr (2, [.int h_features, .ref h_featureNames, .ref h_steps, .ref h_turnedFeatures, .ref h_sixteenths, .int h_keys, .ref h_keySteps, .int h_lent, .int h_rings, .ref h_on, .ref h_onMany, .int h_doors, .ref h_wanted, .ref h_openers, .ref h_seconds, .int h_turned, .int h_roundMany, .ref h_roundDoors]))] := hD
  obtain ⟨he_r_1, hw⟩ := hw
  have hz_r_1 := hw
  refine lv_if_eq (tgt := 24) hx hb dX2_isLent_5 (by decide) (fun c_4 => ?_) (fun c_4 => ?_)
  · skip
    refine lv_iconst (v := 0) hx hb dX2_isLent_24 (by decide) ?_
    have hX_6 : F_H_isLent h_keys h_lent k = ((0 : Int32) : Int32) := by
      refine (F_H_isLent_s ..).trans ?_
      extract_lets -merge -useContext +onlyGivenNames w9 y9; have e9 : r_1 = w9 := he_r_1; clear_value w9; subst e9
      refine (if_pos c_4).trans ?_
      exact rfl
    exact hret _ _ _ _ _ _ () [0] hP hD hS rfl (by decide) dX2_isLent_25 (Or.inl rfl) ⟨(congrArg (fun z9 => z9) hX_6).symm, (Or.inl rfl)⟩
  · skip
    refine lv_aload_n hx hb dX2_isLent_8 rfl (lv_at hl 0 rfl) ?_
    refine va_get (D := G) (ci := 2) (v := .int h_lent) (C := RX2) (T := TX2) (N := 18) hx hb hts inT2 hown hK hP 0 rfl rfl 7 (by decide) (hts _ tw_278) (fun _ h9 => h9) rfl dX2_isLent_9 ?_
    refine lv_iload_n hx hb dX2_isLent_12 rfl (lv_at hl 1 rfl) ?_
    refine lv_ishr hx hb dX2_isLent_13 ?_
    refine lv_topi (fun x_8 he_x_8 => ?_)
    refine lv_iconst (v := 1) hx hb dX2_isLent_14 (by decide) ?_
    refine lv_iand hx hb dX2_isLent_15 ?_
    refine lv_topi (fun x_9 he_x_9 => ?_)
    refine lv_iconst (v := 1) hx hb dX2_isLent_16 (by decide) ?_
    refine lv_icmp_ne (tgt := 24) hx hb dX2_isLent_17 (by decide) (fun c_10 => ?_) (fun c_10 => ?_)
    · skip
      refine lv_iconst (v := 0) hx hb dX2_isLent_24 (by decide) ?_
      have hX_12 : F_H_isLent h_keys h_lent k = ((0 : Int32) : Int32) := by
        refine (F_H_isLent_s ..).trans ?_
        extract_lets -merge -useContext +onlyGivenNames w9 y9; have e9 : r_1 = w9 := he_r_1; clear_value w9; subst e9
        refine (if_neg c_4).trans ?_
        try (extract_lets -merge -useContext +onlyGivenNames y9; have e9 : x_8 = y9 := (by first | exact he_x_8 | exact he_x_8.symm); clear_value y9; subst e9)
        try (extract_lets -merge -useContext +onlyGivenNames y9; have e9 : x_9 = y9 := (by first | exact he_x_9 | exact he_x_9.symm); clear_value y9; subst e9)
        refine (if_neg c_10).trans ?_
        exact rfl
      exact hret _ _ _ _ _ _ () [0] hP hD hS rfl (by decide) dX2_isLent_25 (Or.inl rfl) ⟨(congrArg (fun z9 => z9) hX_12).symm, (Or.inl rfl)⟩
    · skip
      refine lv_iconst (v := 1) hx hb dX2_isLent_20 (by decide) ?_
      refine lv_goto (tgt := 25) hx hb dX2_isLent_21 (by decide) ?_
      have hX_14 : F_H_isLent h_keys h_lent k = ((1 : Int32) : Int32) := by
        refine (F_H_isLent_s ..).trans ?_
        extract_lets -merge -useContext +onlyGivenNames w9 y9; have e9 : r_1 = w9 := he_r_1; clear_value w9; subst e9
        refine (if_neg c_4).trans ?_
        try (extract_lets -merge -useContext +onlyGivenNames y9; have e9 : x_8 = y9 := (by first | exact he_x_8 | exact he_x_8.symm); clear_value y9; subst e9)
        try (extract_lets -merge -useContext +onlyGivenNames y9; have e9 : x_9 = y9 := (by first | exact he_x_9 | exact he_x_9.symm); clear_value y9; subst e9)
        refine (if_pos c_10).trans ?_
        exact rfl
      exact hret _ _ _ _ _ _ () [0] hP hD hS rfl (by decide) dX2_isLent_25 (Or.inr rfl) ⟨(congrArg (fun z9 => z9) hX_14).symm, (Or.inr rfl)⟩
set_option maxHeartbeats 40000000 in
set_option maxRecDepth 100000 in
theorem d_H_manyOn (l : Launch) (G : va_G) (cA : zCA) (h : Nat) (h_features : Int32) (h_featureNames : Nat) (h_steps : Nat) (h_turnedFeatures : Nat) (h_sixteenths : Nat) (h_keys : Int32) (h_keySteps : Nat) (h_lent : Int32) (h_rings : Int32) (h_on : Nat) (h_onMany : Nat) (h_doors : Int32) (h_wanted : Nat) (h_openers : Nat) (h_seconds : Nat) (h_turned : Int32) (h_roundMany : Int32) (h_roundDoors : Nat) (c_h_onMany : Nat → Int32) (k : Int32) (hm_h_features : 0 ≤ h_features.toInt ∧ h_features.toInt ≤ 3) (hO_c_h_onMany : zOM c_h_onMany) : zCi l yX2_manyOn cX2_manyOn 2 (some .int) ({ frames := 1, cells := 0, slots := 0, locals := 21 }) G cA [.ref h, .int k] [(h, .inr (2, [.int h_features, .ref h_featureNames, .ref h_steps, .ref h_turnedFeatures, .ref h_sixteenths, .int h_keys, .ref h_keySteps, .int h_lent, .int h_rings, .ref h_on, .ref h_onMany, .int h_doors, .ref h_wanted, .ref h_openers, .ref h_seconds, .int h_turned, .int h_roundMany, .ref h_roundDoors])), (h_onMany, .inl (cA.1 0, 3, .inl c_h_onMany))] (S := Unit) (fun (r : Int32) (u : Unit) => (r = (F_H_manyOn h_rings c_h_onMany k)) ∧ (r.toInt = zmo c_h_onMany h_rings.toInt k.toInt ∧ (-1 ≤ r.toInt ∧ r.toInt ≤ 10))) (fun (u : Unit) => [(h, .inr (2, [.int h_features, .ref h_featureNames, .ref h_steps, .ref h_turnedFeatures, .ref h_sixteenths, .int h_keys, .ref h_keySteps, .int h_lent, .int h_rings, .ref h_on, .ref h_onMany, .int h_doors, .ref h_wanted, .ref h_openers, .ref h_seconds, .int h_turned, .int h_roundMany, .ref h_roundDoors])), (h_onMany, .inl (cA.1 0, 3, .inl c_h_onMany))]) 0 0 := by
  refine z_start2i (own := RX2) (by decide) (Nat.le_of_ble_eq_true rfl) rfl ?_
  intro p e s m args below meth c A ls Q hx hb hml hts hown hK hE hT hP hD hS hA hl hret
  have hl : lv_has ls 2 [(0, .ref h), (1, .int k)] := hl
  refine lv_aload_n hx hb dX2_manyOn_0 rfl (lv_at hl 0 rfl) ?_
  refine lv_iload_n hx hb dX2_manyOn_1 rfl (lv_at hl 1 rfl) ?_
  refine z_callVi (As := [.int k]) (rest := []) (wr := [(h_onMany, .inl (cA.1 0, 3, .inl c_h_onMany))]) ⟨hx, hb, hml, hown, hts⟩ hK hE hT hP hD hS hA (d_H_hasRing l G cA h h_features h_featureNames h_steps h_turnedFeatures h_sixteenths h_keys h_keySteps h_lent h_rings h_on h_onMany h_doors h_wanted h_openers h_seconds h_turned h_roundMany h_roundDoors k (by omega)) lk_RX2_110 ⟨rfl, rfl⟩ ⟨Nat.le_of_ble_eq_true rfl, Nat.le_of_ble_eq_true rfl⟩ 2 rfl rfl rfl [0] [1] rfl rfl (by decide) rfl hl.1 rfl (lv_room (Nat.le_of_ble_eq_true rfl)) dX2_manyOn_2 ⟨Nat.le_of_ble_eq_true rfl, Nat.le_of_ble_eq_true rfl⟩ (fun r_1 u_2 H locs hw hP hD hS => ?_)
  have hP : va_P G vwCl [(h_onMany, .inl (cA.1 0, 3, .inl c_h_onMany)), (h, .inr (2, [.int h_features, .ref h_featureNames, .ref h_steps, .ref h_turnedFeatures, .ref h_sixteenths, .int h_keys, .ref h_keySteps, .int h_lent, .int h_rings, .ref h_on, .ref h_onMany, .int h_doors, .ref h_wanted, .ref h_openers, .ref h_seconds, .int h_turned, .int h_roundMany, .ref h_roundDoors]))] H := hP
  have hD : va_D A [(h_onMany, .inl (cA.1 0, 3, .inl c_h_onMany)), (h, .inr (2, [.int h_features, .ref h_featureNames, .ref h_steps, .ref h_turnedFeatures, .ref h_sixteenths, .int h_keys, .ref h_keySteps, .int h_lent, .int h_rings, .ref h_on, .ref h_onMany, .int h_doors, .ref h_wanted, .ref h_openers, .ref h_seconds, .int h_turned, .int h_roundMany, .ref h_roundDoors]))] := hD
  obtain ⟨he_r_1, hw⟩ := hw
  obtain ⟨hx_r_1, hz_r_1⟩ := hw
  refine lv_if_eq (tgt := 19) hx hb dX2_manyOn_5 (by decide) (fun c_4 => ?_) (fun c_4 => ?_)
  · skip
    refine lv_iconst (v := 0) hx hb dX2_manyOn_19 (by decide) ?_
    have hX_6 : F_H_manyOn h_rings c_h_onMany k = ((0 : Int32) : Int32) := by
      refine (F_H_manyOn_s ..).trans ?_
      extract_lets -merge -useContext +onlyGivenNames w9 y9; have e9 : r_1 = w9 := he_r_1; clear_value w9; subst e9
      refine (if_pos c_4).trans ?_
      exact rfl
    exact hret _ _ _ _ _ _ () [1, 0] hP hD hS rfl (by decide) dX2_manyOn_20 ⟨(congrArg (fun z9 => z9) hX_6).symm, ⟨zmo_0 hx_r_1 (z_eq0 c_4), by decide +kernel⟩⟩
  · skip
    refine lv_aload_n hx hb dX2_manyOn_8 rfl (lv_at hl 0 rfl) ?_
    refine va_get (D := G) (ci := 2) (v := .ref h_onMany) (C := RX2) (T := TX2) (N := 18) hx hb hts inT2 hown hK hP 1 rfl rfl 10 (by decide) (hts _ tw_284) (fun _ h9 => h9) rfl dX2_manyOn_9 ?_
    refine lv_iload_n hx hb dX2_manyOn_12 rfl (lv_at hl 1 rfl) ?_
    refine z_callSNi (As := [.ref h_onMany, .int k]) (rest := []) (wr := [(h, .inr (2, [.int h_features, .ref h_featureNames, .ref h_steps, .ref h_turnedFeatures, .ref h_sixteenths, .int h_keys, .ref h_keySteps, .int h_lent, .int h_rings, .ref h_on, .ref h_onMany, .int h_doors, .ref h_wanted, .ref h_openers, .ref h_seconds, .int h_turned, .int h_roundMany, .ref h_roundDoors]))]) ⟨hx, hb, hml, hown, hts⟩ hK hE hT hP hD hS hA (d_at_3 l G cA h_onMany c_h_onMany k) lk_RX2_89 ⟨rfl, rfl⟩ ⟨Nat.le_of_ble_eq_true rfl, Nat.le_of_ble_eq_true rfl⟩ [0] [1] rfl rfl (by decide) rfl hl.1 rfl (lv_room (Nat.le_of_ble_eq_true rfl)) dX2_manyOn_13 ⟨Nat.le_of_ble_eq_true rfl, Nat.le_of_ble_eq_true rfl⟩ (fun r_8 u_9 H locs hw hP hD hS => ?_)
    have hP : va_P G vwCl [(h, .inr (2, [.int h_features, .ref h_featureNames, .ref h_steps, .ref h_turnedFeatures, .ref h_sixteenths, .int h_keys, .ref h_keySteps, .int h_lent, .int h_rings, .ref h_on, .ref h_onMany, .int h_doors, .ref h_wanted, .ref h_openers, .ref h_seconds, .int h_turned, .int h_roundMany, .ref h_roundDoors])), (h_onMany, .inl (cA.1 0, 3, .inl c_h_onMany))] H := hP
    have hD : va_D A [(h, .inr (2, [.int h_features, .ref h_featureNames, .ref h_steps, .ref h_turnedFeatures, .ref h_sixteenths, .int h_keys, .ref h_keySteps, .int h_lent, .int h_rings, .ref h_on, .ref h_onMany, .int h_doors, .ref h_wanted, .ref h_openers, .ref h_seconds, .int h_turned, .int h_roundMany, .ref h_roundDoors])), (h_onMany, .inl (cA.1 0, 3, .inl c_h_onMany))] := hD
    obtain ⟨he_r_8, hw⟩ := hw
    have hx_r_8 := hw
    have hr_r_8 := zOM_at hO_c_h_onMany hx_r_8
    refine lv_goto (tgt := 20) hx hb dX2_manyOn_16 (by decide) ?_
    have hX_11 : F_H_manyOn h_rings c_h_onMany k = (r_8 : Int32) := by
      refine (F_H_manyOn_s ..).trans ?_
      extract_lets -merge -useContext +onlyGivenNames w9 y9; have e9 : r_1 = w9 := he_r_1; clear_value w9; subst e9
      refine (if_neg c_4).trans ?_
      extract_lets -merge -useContext +onlyGivenNames w9 y9; have e9 : r_8 = w9 := he_r_8; clear_value w9; subst e9
      exact rfl
    exact hret _ _ _ _ _ _ () [0, 1] hP hD hS rfl (by decide) dX2_manyOn_20 ⟨(congrArg (fun z9 => z9) hX_11).symm, ⟨zmo_1 hx_r_1 (z_ne0 c_4) hz_r_1 hx_r_8, by omega⟩⟩
set_option maxHeartbeats 40000000 in
set_option maxRecDepth 100000 in
theorem d_H_keyOn (l : Launch) (G : va_G) (cA : zCA) (h : Nat) (h_features : Int32) (h_featureNames : Nat) (h_steps : Nat) (h_turnedFeatures : Nat) (h_sixteenths : Nat) (h_keys : Int32) (h_keySteps : Nat) (h_lent : Int32) (h_rings : Int32) (h_on : Nat) (h_onMany : Nat) (h_doors : Int32) (h_wanted : Nat) (h_openers : Nat) (h_seconds : Nat) (h_turned : Int32) (h_roundMany : Int32) (h_roundDoors : Nat) (c_h_on : Nat → Int32) (c_h_onMany : Nat → Int32) (x : Int32) (y : Int32) (hm_h_features : 0 ≤ h_features.toInt ∧ h_features.toInt ≤ 3) (hO_c_h_onMany : zOM c_h_onMany) : zCi l yX2_keyOn cX2_keyOn 3 (some .int) ({ frames := 2, cells := 0, slots := 0, locals := 42 }) G cA [.ref h, .int x, .int y] [(h, .inr (2, [.int h_features, .ref h_featureNames, .ref h_steps, .ref h_turnedFeatures, .ref h_sixteenths, .int h_keys, .ref h_keySteps, .int h_lent, .int h_rings, .ref h_on, .ref h_onMany, .int h_doors, .ref h_wanted, .ref h_openers, .ref h_seconds, .int h_turned, .int h_roundMany, .ref h_roundDoors])), (h_on, .inl (cA.1 0, 30, .inl c_h_on)), (h_onMany, .inl (cA.1 0, 3, .inl c_h_onMany))] (S := Unit) (fun (r : Int32) (u : Unit) => (r = (F_H_keyOn h_rings c_h_on c_h_onMany x y)) ∧ (True)) (fun (u : Unit) => [(h, .inr (2, [.int h_features, .ref h_featureNames, .ref h_steps, .ref h_turnedFeatures, .ref h_sixteenths, .int h_keys, .ref h_keySteps, .int h_lent, .int h_rings, .ref h_on, .ref h_onMany, .int h_doors, .ref h_wanted, .ref h_openers, .ref h_seconds, .int h_turned, .int h_roundMany, .ref h_roundDoors])), (h_on, .inl (cA.1 0, 30, .inl c_h_on)), (h_onMany, .inl (cA.1 0, 3, .inl c_h_onMany))]) 0 0 := by
  refine z_start2i (own := RX2) (by decide) (Nat.le_of_ble_eq_true rfl) rfl ?_
  intro p e s m args below meth c A ls Q hx hb hml hts hown hK hE hT hP hD hS hA hl hret
  have hl : lv_has ls 3 [(0, .ref h), (1, .int x), (2, .int y)] := hl
  refine lv_iload_n hx hb dX2_keyOn_0 rfl (lv_at hl 2 rfl) ?_
  refine lv_if_lt (tgt := 29) hx hb dX2_keyOn_1 (by decide) (fun c_1 => ?_) (fun c_1 => ?_)
  · have b_2 := z_b3 c_1 (K := 0) (by decide +kernel)
    refine lv_iconst (v := (-1)) hx hb dX2_keyOn_29 (by decide) ?_
    have hX_3 : F_H_keyOn h_rings c_h_on c_h_onMany x y = ((-1 : Int32) : Int32) := by
      refine (F_H_keyOn_s ..).trans ?_
      refine (if_pos c_1).trans ?_
      exact rfl
    exact hret _ _ _ _ _ _ () [0, 1, 2] hP hD hS rfl (by decide) dX2_keyOn_30 ⟨(congrArg (fun z9 => z9) hX_3).symm, trivial⟩
  · have b_4 := z_b4 c_1 (K := 0) (by decide +kernel)
    refine lv_iload_n hx hb dX2_keyOn_4 rfl (lv_at hl 2 rfl) ?_
    refine lv_aload_n hx hb dX2_keyOn_5 rfl (lv_at hl 0 rfl) ?_
    refine lv_iload_n hx hb dX2_keyOn_6 rfl (lv_at hl 1 rfl) ?_
    refine z_callVi (As := [.int x]) (rest := [.int y]) (wr := [(h_on, .inl (cA.1 0, 30, .inl c_h_on))]) ⟨hx, hb, hml, hown, hts⟩ hK hE hT hP hD hS hA (d_H_manyOn l G cA h h_features h_featureNames h_steps h_turnedFeatures h_sixteenths h_keys h_keySteps h_lent h_rings h_on h_onMany h_doors h_wanted h_openers h_seconds h_turned h_roundMany h_roundDoors c_h_onMany x (by omega) hO_c_h_onMany) lk_RX2_113 ⟨rfl, rfl⟩ ⟨Nat.le_of_ble_eq_true rfl, Nat.le_of_ble_eq_true rfl⟩ 2 rfl rfl rfl [0, 2] [1] rfl rfl (by decide) rfl hl.1 rfl (lv_room (Nat.le_of_ble_eq_true rfl)) dX2_keyOn_7 ⟨Nat.le_of_ble_eq_true rfl, Nat.le_of_ble_eq_true rfl⟩ (fun r_5 u_6 H locs hw hP hD hS => ?_)
    have hP : va_P G vwCl [(h_on, .inl (cA.1 0, 30, .inl c_h_on)), (h, .inr (2, [.int h_features, .ref h_featureNames, .ref h_steps, .ref h_turnedFeatures, .ref h_sixteenths, .int h_keys, .ref h_keySteps, .int h_lent, .int h_rings, .ref h_on, .ref h_onMany, .int h_doors, .ref h_wanted, .ref h_openers, .ref h_seconds, .int h_turned, .int h_roundMany, .ref h_roundDoors])), (h_onMany, .inl (cA.1 0, 3, .inl c_h_onMany))] H := hP
    have hD : va_D A [(h_on, .inl (cA.1 0, 30, .inl c_h_on)), (h, .inr (2, [.int h_features, .ref h_featureNames, .ref h_steps, .ref h_turnedFeatures, .ref h_sixteenths, .int h_keys, .ref h_keySteps, .int h_lent, .int h_rings, .ref h_on, .ref h_onMany, .int h_doors, .ref h_wanted, .ref h_openers, .ref h_seconds, .int h_turned, .int h_roundMany, .ref h_roundDoors])), (h_onMany, .inl (cA.1 0, 3, .inl c_h_onMany))] := hD
    obtain ⟨he_r_5, hw⟩ := hw
    have hx_r_5 := hw
    refine lv_icmp_ge (tgt := 29) hx hb dX2_keyOn_10 (by decide) (fun c_8 => ?_) (fun c_8 => ?_)
    · have b_9 := z_s1 c_8
      refine lv_iconst (v := (-1)) hx hb dX2_keyOn_29 (by decide) ?_
      have hX_10 : F_H_keyOn h_rings c_h_on c_h_onMany x y = ((-1 : Int32) : Int32) := by
        refine (F_H_keyOn_s ..).trans ?_
        refine (if_neg c_1).trans ?_
        extract_lets -merge -useContext +onlyGivenNames w9 y9; have e9 : r_5 = w9 := he_r_5; clear_value w9; subst e9
        refine (if_pos c_8).trans ?_
        exact rfl
      exact hret _ _ _ _ _ _ () [1, 0, 2] hP hD hS rfl (by decide) dX2_keyOn_30 ⟨(congrArg (fun z9 => z9) hX_10).symm, trivial⟩
    · have b_11 := z_t2 c_8
      refine lv_aload_n hx hb dX2_keyOn_13 rfl (lv_at hl 0 rfl) ?_
      refine va_get (D := G) (ci := 2) (v := .ref h_on) (C := RX2) (T := TX2) (N := 18) hx hb hts inT2 hown hK hP 1 rfl rfl 9 (by decide) (hts _ tw_283) (fun _ h9 => h9) rfl dX2_keyOn_14 ?_
      refine lv_iload_n hx hb dX2_keyOn_17 rfl (lv_at hl 1 rfl) ?_
      refine lv_bipush (v := 10) hx hb dX2_keyOn_18 (by decide) ?_
      refine lv_imul hx hb dX2_keyOn_20 ?_
      refine lv_topi (fun x_12 he_x_12 => ?_)
      refine lv_iload_n hx hb dX2_keyOn_21 rfl (lv_at hl 2 rfl) ?_
      refine lv_iadd hx hb dX2_keyOn_22 ?_
      refine lv_topi (fun x_13 he_x_13 => ?_)
      refine z_callSNi (As := [.ref h_on, .int x_13]) (rest := []) (wr := [(h, .inr (2, [.int h_features, .ref h_featureNames, .ref h_steps, .ref h_turnedFeatures, .ref h_sixteenths, .int h_keys, .ref h_keySteps, .int h_lent, .int h_rings, .ref h_on, .ref h_onMany, .int h_doors, .ref h_wanted, .ref h_openers, .ref h_seconds, .int h_turned, .int h_roundMany, .ref h_roundDoors])), (h_onMany, .inl (cA.1 0, 3, .inl c_h_onMany))]) ⟨hx, hb, hml, hown, hts⟩ hK hE hT hP hD hS hA (d_at_30 l G cA h_on c_h_on x_13) lk_RX2_89 ⟨rfl, rfl⟩ ⟨Nat.le_of_ble_eq_true rfl, Nat.le_of_ble_eq_true rfl⟩ [0] [1, 2] rfl rfl (by decide) rfl hl.1 rfl (lv_room (Nat.le_of_ble_eq_true rfl)) dX2_keyOn_23 ⟨Nat.le_of_ble_eq_true rfl, Nat.le_of_ble_eq_true rfl⟩ (fun r_14 u_15 H locs hw hP hD hS => ?_)
      have hP : va_P G vwCl [(h, .inr (2, [.int h_features, .ref h_featureNames, .ref h_steps, .ref h_turnedFeatures, .ref h_sixteenths, .int h_keys, .ref h_keySteps, .int h_lent, .int h_rings, .ref h_on, .ref h_onMany, .int h_doors, .ref h_wanted, .ref h_openers, .ref h_seconds, .int h_turned, .int h_roundMany, .ref h_roundDoors])), (h_onMany, .inl (cA.1 0, 3, .inl c_h_onMany)), (h_on, .inl (cA.1 0, 30, .inl c_h_on))] H := hP
      have hD : va_D A [(h, .inr (2, [.int h_features, .ref h_featureNames, .ref h_steps, .ref h_turnedFeatures, .ref h_sixteenths, .int h_keys, .ref h_keySteps, .int h_lent, .int h_rings, .ref h_on, .ref h_onMany, .int h_doors, .ref h_wanted, .ref h_openers, .ref h_seconds, .int h_turned, .int h_roundMany, .ref h_roundDoors])), (h_onMany, .inl (cA.1 0, 3, .inl c_h_onMany)), (h_on, .inl (cA.1 0, 30, .inl c_h_on))] := hD
      obtain ⟨he_r_14, hw⟩ := hw
      refine lv_goto (tgt := 30) hx hb dX2_keyOn_26 (by decide) ?_
      have hX_17 : F_H_keyOn h_rings c_h_on c_h_onMany x y = (r_14 : Int32) := by
        refine (F_H_keyOn_s ..).trans ?_
        refine (if_neg c_1).trans ?_
        extract_lets -merge -useContext +onlyGivenNames w9 y9; have e9 : r_5 = w9 := he_r_5; clear_value w9; subst e9
        refine (if_neg c_8).trans ?_
        try (extract_lets -merge -useContext +onlyGivenNames y9; have e9 : x_12 = y9 := (by first | exact he_x_12 | exact he_x_12.symm); clear_value y9; subst e9)
        try (extract_lets -merge -useContext +onlyGivenNames y9; have e9 : x_13 = y9 := (by first | exact he_x_13 | exact he_x_13.symm); clear_value y9; subst e9)
        extract_lets -merge -useContext +onlyGivenNames w9 y9; have e9 : r_14 = w9 := he_r_14; clear_value w9; subst e9
        exact rfl
      exact hret _ _ _ _ _ _ () [0, 2, 1] hP hD hS rfl (by decide) dX2_keyOn_30 ⟨(congrArg (fun z9 => z9) hX_17).symm, trivial⟩
set_option maxHeartbeats 40000000 in
set_option maxRecDepth 100000 in
theorem d_H_setOn (l : Launch) (G : va_G) (cA : zCA) (h : Nat) (h_features : Int32) (h_featureNames : Nat) (h_steps : Nat) (h_turnedFeatures : Nat) (h_sixteenths : Nat) (h_keys : Int32) (h_keySteps : Nat) (h_lent : Int32) (h_rings : Int32) (h_on : Nat) (h_onMany : Nat) (h_doors : Int32) (h_wanted : Nat) (h_openers : Nat) (h_seconds : Nat) (h_turned : Int32) (h_roundMany : Int32) (h_roundDoors : Nat) (c_h_on : Nat → Int32) (c_h_onMany : Nat → Int32) (k : Int32) (hm_h_features : 0 ≤ h_features.toInt ∧ h_features.toInt ≤ 3) (hO_c_h_onMany : zOM c_h_onMany) : zCi l yX2_setOn cX2_setOn 4 (some .int) ({ frames := 3, cells := 0, slots := 0, locals := 64 }) G cA [.ref h, .int k] [(h, .inr (2, [.int h_features, .ref h_featureNames, .ref h_steps, .ref h_turnedFeatures, .ref h_sixteenths, .int h_keys, .ref h_keySteps, .int h_lent, .int h_rings, .ref h_on, .ref h_onMany, .int h_doors, .ref h_wanted, .ref h_openers, .ref h_seconds, .int h_turned, .int h_roundMany, .ref h_roundDoors])), (h_on, .inl (cA.1 0, 30, .inl c_h_on)), (h_onMany, .inl (cA.1 0, 3, .inl c_h_onMany))] (S := Unit) (fun (r : Int32) (u : Unit) => (r = (F_H_setOn h_rings c_h_on c_h_onMany k)) ∧ (True)) (fun (u : Unit) => [(h, .inr (2, [.int h_features, .ref h_featureNames, .ref h_steps, .ref h_turnedFeatures, .ref h_sixteenths, .int h_keys, .ref h_keySteps, .int h_lent, .int h_rings, .ref h_on, .ref h_onMany, .int h_doors, .ref h_wanted, .ref h_openers, .ref h_seconds, .int h_turned, .int h_roundMany, .ref h_roundDoors])), (h_on, .inl (cA.1 0, 30, .inl c_h_on)), (h_onMany, .inl (cA.1 0, 3, .inl c_h_onMany))]) 0 0 := by
  refine z_start2i (own := RX2) (by decide) (Nat.le_of_ble_eq_true rfl) rfl ?_
  intro p e s m args below meth c A ls Q hx hb hml hts hown hK hE hT hP hD hS hA hl hret
  have hl : lv_has ls 4 [(0, .ref h), (1, .int k)] := hl
  refine lv_iconst (v := 0) hx hb dX2_setOn_0 (by decide) ?_
  refine lv_istore_n (lv' := [(2, .int 0), (0, .ref h), (1, .int k)]) hx hb dX2_setOn_1 rfl hl (by decide) rfl (fun ls hl => ?_)
  refine lv_iconst (v := 0) hx hb dX2_setOn_2 (by decide) ?_
  refine lv_istore_n (lv' := [(3, .int 0), (2, .int 0), (0, .ref h), (1, .int k)]) hx hb dX2_setOn_3 rfl hl (by decide) rfl (fun ls hl => ?_)
  have hlp_36 : ∀ (n_L4a : Nat) (v_23 : Int32) (v_24 : Int32) (H : Heap) (locs : List Loc) (ls : Array Slot), (2147483647 - v_24.toInt).toNat < n_L4a → (0 ≤ v_24.toInt) → (F_H_setOn h_rings c_h_on c_h_onMany k = F_H_setOn_L4a h_rings c_h_on c_h_onMany k n_L4a v_23 v_24) → va_P G vwCl [(h, .inr (2, [.int h_features, .ref h_featureNames, .ref h_steps, .ref h_turnedFeatures, .ref h_sixteenths, .int h_keys, .ref h_keySteps, .int h_lent, .int h_rings, .ref h_on, .ref h_onMany, .int h_doors, .ref h_wanted, .ref h_openers, .ref h_seconds, .int h_turned, .int h_roundMany, .ref h_roundDoors])), (h_on, .inl (cA.1 0, 30, .inl c_h_on)), (h_onMany, .inl (cA.1 0, 3, .inl c_h_onMany))] H → va_D A [(h, .inr (2, [.int h_features, .ref h_featureNames, .ref h_steps, .ref h_turnedFeatures, .ref h_sixteenths, .int h_keys, .ref h_keySteps, .int h_lent, .int h_rings, .ref h_on, .ref h_onMany, .int h_doors, .ref h_wanted, .ref h_openers, .ref h_seconds, .int h_turned, .int h_roundMany, .ref h_roundDoors])), (h_on, .inl (cA.1 0, 30, .inl c_h_on)), (h_onMany, .inl (cA.1 0, 3, .inl c_h_onMany))] → va_S A s.heap H locs → lv_has ls 4 [(0, .ref h), (1, .int k), (2, .int v_23), (3, .int v_24)] → W p l e ({ frames := 3, cells := 0, slots := 0, locals := 64 }) s m args below meth c H locs 0 0 Q (F0 m 4 ls []) := by
    intro n_L4a
    induction n_L4a with
    | zero =>
      intro v_23 v_24 H locs ls hmu_hlp_36 hi_37 hF_L4a hP hD hS hl
      exact absurd hmu_hlp_36 (Nat.not_lt_zero _)
    | succ n_L4a ih_38 =>
      intro v_23 v_24 H locs ls hmu_hlp_36 hi_37 hF_L4a hP hD hS hl
      refine lv_iload_n hx hb dX2_setOn_4 rfl (lv_at hl 3 rfl) ?_
      refine lv_aload_n hx hb dX2_setOn_5 rfl (lv_at hl 0 rfl) ?_
      refine lv_iload_n hx hb dX2_setOn_6 rfl (lv_at hl 1 rfl) ?_
      refine z_callVi (As := [.int k]) (rest := [.int v_24]) (wr := [(h_on, .inl (cA.1 0, 30, .inl c_h_on))]) ⟨hx, hb, hml, hown, hts⟩ hK hE hT hP hD hS hA (d_H_manyOn l G cA h h_features h_featureNames h_steps h_turnedFeatures h_sixteenths h_keys h_keySteps h_lent h_rings h_on h_onMany h_doors h_wanted h_openers h_seconds h_turned h_roundMany h_roundDoors c_h_onMany k (by omega) hO_c_h_onMany) lk_RX2_113 ⟨rfl, rfl⟩ ⟨Nat.le_of_ble_eq_true rfl, Nat.le_of_ble_eq_true rfl⟩ 2 rfl rfl rfl [0, 2] [1] rfl rfl (by decide) rfl hl.1 rfl (lv_room (Nat.le_of_ble_eq_true rfl)) dX2_setOn_7 ⟨Nat.le_of_ble_eq_true rfl, Nat.le_of_ble_eq_true rfl⟩ (fun r_39 u_40 H locs hw hP hD hS => ?_)
      have hP : va_P G vwCl [(h_on, .inl (cA.1 0, 30, .inl c_h_on)), (h, .inr (2, [.int h_features, .ref h_featureNames, .ref h_steps, .ref h_turnedFeatures, .ref h_sixteenths, .int h_keys, .ref h_keySteps, .int h_lent, .int h_rings, .ref h_on, .ref h_onMany, .int h_doors, .ref h_wanted, .ref h_openers, .ref h_seconds, .int h_turned, .int h_roundMany, .ref h_roundDoors])), (h_onMany, .inl (cA.1 0, 3, .inl c_h_onMany))] H := hP
      have hD : va_D A [(h_on, .inl (cA.1 0, 30, .inl c_h_on)), (h, .inr (2, [.int h_features, .ref h_featureNames, .ref h_steps, .ref h_turnedFeatures, .ref h_sixteenths, .int h_keys, .ref h_keySteps, .int h_lent, .int h_rings, .ref h_on, .ref h_onMany, .int h_doors, .ref h_wanted, .ref h_openers, .ref h_seconds, .int h_turned, .int h_roundMany, .ref h_roundDoors])), (h_onMany, .inl (cA.1 0, 3, .inl c_h_onMany))] := hD
      obtain ⟨he_r_39, hw⟩ := hw
      have hx_r_39 := hw
      refine lv_icmp_ge (tgt := 30) hx hb dX2_setOn_10 (by decide) (fun c_42 => ?_) (fun c_42 => ?_)
      · have b_43 := z_s1 c_42
        refine lv_iload_n hx hb dX2_setOn_30 rfl (lv_at hl 2 rfl) ?_
        have hX_44 : F_H_setOn h_rings c_h_on c_h_onMany k = (v_23 : Int32) := by
          refine hF_L4a.trans ?_
          refine (F_H_setOn_L4a_s ..).trans ?_
          extract_lets -merge -useContext +onlyGivenNames w9 y9; have e9 : r_39 = w9 := he_r_39; clear_value w9; subst e9
          refine (if_pos c_42).trans ?_
          exact rfl
        exact hret _ _ _ _ _ _ () [1, 0, 2] hP hD hS rfl (by decide) dX2_setOn_31 ⟨(congrArg (fun z9 => z9) hX_44).symm, trivial⟩
      · have b_45 := z_t2 c_42
        refine lv_iload_n hx hb dX2_setOn_13 rfl (lv_at hl 2 rfl) ?_
        refine lv_iconst (v := 1) hx hb dX2_setOn_14 (by decide) ?_
        refine lv_aload_n hx hb dX2_setOn_15 rfl (lv_at hl 0 rfl) ?_
        refine lv_iload_n hx hb dX2_setOn_16 rfl (lv_at hl 1 rfl) ?_
        refine lv_iload_n hx hb dX2_setOn_17 rfl (lv_at hl 3 rfl) ?_
        refine z_callVi (As := [.int k, .int v_24]) (rest := [.int 1, .int v_23]) (wr := []) ⟨hx, hb, hml, hown, hts⟩ hK hE hT hP hD hS hA (d_H_keyOn l G cA h h_features h_featureNames h_steps h_turnedFeatures h_sixteenths h_keys h_keySteps h_lent h_rings h_on h_onMany h_doors h_wanted h_openers h_seconds h_turned h_roundMany h_roundDoors c_h_on c_h_onMany k v_24 (by omega) hO_c_h_onMany) lk_RX2_116 ⟨rfl, rfl⟩ ⟨Nat.le_of_ble_eq_true rfl, Nat.le_of_ble_eq_true rfl⟩ 2 rfl rfl rfl [1, 0, 2] [] rfl rfl (by decide) rfl hl.1 rfl (lv_room (Nat.le_of_ble_eq_true rfl)) dX2_setOn_18 ⟨Nat.le_of_ble_eq_true rfl, Nat.le_of_ble_eq_true rfl⟩ (fun r_46 u_47 H locs hw hP hD hS => ?_)
        have hP : va_P G vwCl [(h, .inr (2, [.int h_features, .ref h_featureNames, .ref h_steps, .ref h_turnedFeatures, .ref h_sixteenths, .int h_keys, .ref h_keySteps, .int h_lent, .int h_rings, .ref h_on, .ref h_onMany, .int h_doors, .ref h_wanted, .ref h_openers, .ref h_seconds, .int h_turned, .int h_roundMany, .ref h_roundDoors])), (h_on, .inl (cA.1 0, 30, .inl c_h_on)), (h_onMany, .inl (cA.1 0, 3, .inl c_h_onMany))] H := hP
        have hD : va_D A [(h, .inr (2, [.int h_features, .ref h_featureNames, .ref h_steps, .ref h_turnedFeatures, .ref h_sixteenths, .int h_keys, .ref h_keySteps, .int h_lent, .int h_rings, .ref h_on, .ref h_onMany, .int h_doors, .ref h_wanted, .ref h_openers, .ref h_seconds, .int h_turned, .int h_roundMany, .ref h_roundDoors])), (h_on, .inl (cA.1 0, 30, .inl c_h_on)), (h_onMany, .inl (cA.1 0, 3, .inl c_h_onMany))] := hD
        obtain ⟨he_r_46, hw⟩ := hw
        refine lv_ishl hx hb dX2_setOn_21 ?_
        refine lv_topi (fun x_49 he_x_49 => ?_)
        refine lv_ior hx hb dX2_setOn_22 ?_
        refine lv_topi (fun x_50 he_x_50 => ?_)
        refine lv_istore_n (lv' := [(2, .int x_50), (0, .ref h), (1, .int k), (3, .int v_24)]) hx hb dX2_setOn_23 rfl hl (by decide) rfl (fun ls hl => ?_)
        refine lv_iinc (v := (v_24 + 1)) (lv' := [(3, .int (v_24 + 1)), (2, .int x_50), (0, .ref h), (1, .int k)]) hx hb dX2_setOn_24 hl (k := 3) rfl (z_ofi (by decide +kernel)) (by decide) rfl (fun ls hl => ?_)
        refine lv_goto (tgt := 4) hx hb dX2_setOn_27 (by decide) ?_
        have hX_51 : F_H_setOn h_rings c_h_on c_h_onMany k = F_H_setOn_L4a h_rings c_h_on c_h_onMany k n_L4a x_50 (v_24 + 1) := by
          refine hF_L4a.trans ?_
          refine (F_H_setOn_L4a_s ..).trans ?_
          extract_lets -merge -useContext +onlyGivenNames w9 y9; have e9 : r_39 = w9 := he_r_39; clear_value w9; subst e9
          refine (if_neg c_42).trans ?_
          extract_lets -merge -useContext +onlyGivenNames w9 y9; have e9 : r_46 = w9 := he_r_46; clear_value w9; subst e9
          try (extract_lets -merge -useContext +onlyGivenNames y9; have e9 : x_49 = y9 := (by first | exact he_x_49 | exact he_x_49.symm); clear_value y9; subst e9)
          try (extract_lets -merge -useContext +onlyGivenNames y9; have e9 : x_50 = y9 := (by first | exact he_x_50 | exact he_x_50.symm); clear_value y9; subst e9)
          exact rfl
        exact ih_38 x_50 (v_24 + 1) H locs ls (z_up hmu_hlp_36 (by omega) trivial) (z_upc hi_37 (by omega) trivial) hX_51 hP hD hS (lv_sub hl [2, 3, 1, 0] rfl)
  have hX_52 : F_H_setOn h_rings c_h_on c_h_onMany k = F_H_setOn_L4a h_rings c_h_on c_h_onMany k ((2147483647 - (0 : Int32).toInt).toNat + 1) (0 : Int32) (0 : Int32) := by
    refine (F_H_setOn_s ..).trans ?_
    exact rfl
  exact hlp_36 ((2147483647 - (0 : Int32).toInt).toNat + 1) 0 0 _ _ _ (Nat.lt_succ_self _) (by first | decide +kernel | omega) hX_52 hP hD hS (lv_sub hl [2, 3, 1, 0] rfl)
set_option maxHeartbeats 40000000 in
set_option maxRecDepth 100000 in
theorem d_H_placeOn (l : Launch) (G : va_G) (cA : zCA) (h : Nat) (h_features : Int32) (h_featureNames : Nat) (h_steps : Nat) (h_turnedFeatures : Nat) (h_sixteenths : Nat) (h_keys : Int32) (h_keySteps : Nat) (h_lent : Int32) (h_rings : Int32) (h_on : Nat) (h_onMany : Nat) (h_doors : Int32) (h_wanted : Nat) (h_openers : Nat) (h_seconds : Nat) (h_turned : Int32) (h_roundMany : Int32) (h_roundDoors : Nat) (c_h_on : Nat → Int32) (c_h_onMany : Nat → Int32) (x : Int32) (y : Int32) (hm_h_features : 0 ≤ h_features.toInt ∧ h_features.toInt ≤ 3) (hO_c_h_onMany : zOM c_h_onMany) : zCi l yX2_placeOn cX2_placeOn 4 (some .int) ({ frames := 3, cells := 0, slots := 0, locals := 64 }) G cA [.ref h, .int x, .int y] [(h, .inr (2, [.int h_features, .ref h_featureNames, .ref h_steps, .ref h_turnedFeatures, .ref h_sixteenths, .int h_keys, .ref h_keySteps, .int h_lent, .int h_rings, .ref h_on, .ref h_onMany, .int h_doors, .ref h_wanted, .ref h_openers, .ref h_seconds, .int h_turned, .int h_roundMany, .ref h_roundDoors])), (h_on, .inl (cA.1 0, 30, .inl c_h_on)), (h_onMany, .inl (cA.1 0, 3, .inl c_h_onMany))] (S := Unit) (fun (r : Int32) (u : Unit) => (r = (F_H_placeOn h_rings c_h_on c_h_onMany x y)) ∧ (r.toInt = -1 ∨ (0 ≤ r.toInt ∧ r.toInt < zmo c_h_onMany h_rings.toInt x.toInt))) (fun (u : Unit) => [(h, .inr (2, [.int h_features, .ref h_featureNames, .ref h_steps, .ref h_turnedFeatures, .ref h_sixteenths, .int h_keys, .ref h_keySteps, .int h_lent, .int h_rings, .ref h_on, .ref h_onMany, .int h_doors, .ref h_wanted, .ref h_openers, .ref h_seconds, .int h_turned, .int h_roundMany, .ref h_roundDoors])), (h_on, .inl (cA.1 0, 30, .inl c_h_on)), (h_onMany, .inl (cA.1 0, 3, .inl c_h_onMany))]) 0 0 := by
  refine z_start2i (own := RX2) (by decide) (Nat.le_of_ble_eq_true rfl) rfl ?_
  intro p e s m args below meth c A ls Q hx hb hml hts hown hK hE hT hP hD hS hA hl hret
  have hl : lv_has ls 4 [(0, .ref h), (1, .int x), (2, .int y)] := hl
  refine lv_iconst (v := 0) hx hb dX2_placeOn_0 (by decide) ?_
  refine lv_istore_n (lv' := [(3, .int 0), (0, .ref h), (1, .int x), (2, .int y)]) hx hb dX2_placeOn_1 rfl hl (by decide) rfl (fun ls hl => ?_)
  have hlp_37 : ∀ (n_L2a : Nat) (v_24 : Int32) (H : Heap) (locs : List Loc) (ls : Array Slot), (2147483647 - v_24.toInt).toNat < n_L2a → (0 ≤ v_24.toInt) → (F_H_placeOn h_rings c_h_on c_h_onMany x y = F_H_placeOn_L2a h_rings c_h_on c_h_onMany x y n_L2a v_24) → va_P G vwCl [(h, .inr (2, [.int h_features, .ref h_featureNames, .ref h_steps, .ref h_turnedFeatures, .ref h_sixteenths, .int h_keys, .ref h_keySteps, .int h_lent, .int h_rings, .ref h_on, .ref h_onMany, .int h_doors, .ref h_wanted, .ref h_openers, .ref h_seconds, .int h_turned, .int h_roundMany, .ref h_roundDoors])), (h_on, .inl (cA.1 0, 30, .inl c_h_on)), (h_onMany, .inl (cA.1 0, 3, .inl c_h_onMany))] H → va_D A [(h, .inr (2, [.int h_features, .ref h_featureNames, .ref h_steps, .ref h_turnedFeatures, .ref h_sixteenths, .int h_keys, .ref h_keySteps, .int h_lent, .int h_rings, .ref h_on, .ref h_onMany, .int h_doors, .ref h_wanted, .ref h_openers, .ref h_seconds, .int h_turned, .int h_roundMany, .ref h_roundDoors])), (h_on, .inl (cA.1 0, 30, .inl c_h_on)), (h_onMany, .inl (cA.1 0, 3, .inl c_h_onMany))] → va_S A s.heap H locs → lv_has ls 4 [(0, .ref h), (1, .int x), (2, .int y), (3, .int v_24)] → W p l e ({ frames := 3, cells := 0, slots := 0, locals := 64 }) s m args below meth c H locs 0 0 Q (F0 m 2 ls []) := by
    intro n_L2a
    induction n_L2a with
    | zero =>
      intro v_24 H locs ls hmu_hlp_37 hi_38 hF_L2a hP hD hS hl
      exact absurd hmu_hlp_37 (Nat.not_lt_zero _)
    | succ n_L2a ih_39 =>
      intro v_24 H locs ls hmu_hlp_37 hi_38 hF_L2a hP hD hS hl
      refine lv_iload_n hx hb dX2_placeOn_2 rfl (lv_at hl 3 rfl) ?_
      refine lv_aload_n hx hb dX2_placeOn_3 rfl (lv_at hl 0 rfl) ?_
      refine lv_iload_n hx hb dX2_placeOn_4 rfl (lv_at hl 1 rfl) ?_
      refine z_callVi (As := [.int x]) (rest := [.int v_24]) (wr := [(h_on, .inl (cA.1 0, 30, .inl c_h_on))]) ⟨hx, hb, hml, hown, hts⟩ hK hE hT hP hD hS hA (d_H_manyOn l G cA h h_features h_featureNames h_steps h_turnedFeatures h_sixteenths h_keys h_keySteps h_lent h_rings h_on h_onMany h_doors h_wanted h_openers h_seconds h_turned h_roundMany h_roundDoors c_h_onMany x (by omega) hO_c_h_onMany) lk_RX2_113 ⟨rfl, rfl⟩ ⟨Nat.le_of_ble_eq_true rfl, Nat.le_of_ble_eq_true rfl⟩ 2 rfl rfl rfl [0, 2] [1] rfl rfl (by decide) rfl hl.1 rfl (lv_room (Nat.le_of_ble_eq_true rfl)) dX2_placeOn_5 ⟨Nat.le_of_ble_eq_true rfl, Nat.le_of_ble_eq_true rfl⟩ (fun r_40 u_41 H locs hw hP hD hS => ?_)
      have hP : va_P G vwCl [(h_on, .inl (cA.1 0, 30, .inl c_h_on)), (h, .inr (2, [.int h_features, .ref h_featureNames, .ref h_steps, .ref h_turnedFeatures, .ref h_sixteenths, .int h_keys, .ref h_keySteps, .int h_lent, .int h_rings, .ref h_on, .ref h_onMany, .int h_doors, .ref h_wanted, .ref h_openers, .ref h_seconds, .int h_turned, .int h_roundMany, .ref h_roundDoors])), (h_onMany, .inl (cA.1 0, 3, .inl c_h_onMany))] H := hP
      have hD : va_D A [(h_on, .inl (cA.1 0, 30, .inl c_h_on)), (h, .inr (2, [.int h_features, .ref h_featureNames, .ref h_steps, .ref h_turnedFeatures, .ref h_sixteenths, .int h_keys, .ref h_keySteps, .int h_lent, .int h_rings, .ref h_on, .ref h_onMany, .int h_doors, .ref h_wanted, .ref h_openers, .ref h_seconds, .int h_turned, .int h_roundMany, .ref h_roundDoors])), (h_onMany, .inl (cA.1 0, 3, .inl c_h_onMany))] := hD
      obtain ⟨he_r_40, hw⟩ := hw
      have hx_r_40 := hw
      refine lv_icmp_ge (tgt := 29) hx hb dX2_placeOn_8 (by decide) (fun c_43 => ?_) (fun c_43 => ?_)
      · have b_44 := z_s1 c_43
        refine lv_iconst (v := (-1)) hx hb dX2_placeOn_29 (by decide) ?_
        have hX_45 : F_H_placeOn h_rings c_h_on c_h_onMany x y = ((-1 : Int32) : Int32) := by
          refine hF_L2a.trans ?_
          refine (F_H_placeOn_L2a_s ..).trans ?_
          extract_lets -merge -useContext +onlyGivenNames w9 y9; have e9 : r_40 = w9 := he_r_40; clear_value w9; subst e9
          refine (if_pos c_43).trans ?_
          exact rfl
        exact hret _ _ _ _ _ _ () [1, 0, 2] hP hD hS rfl (by decide) dX2_placeOn_30 ⟨(congrArg (fun z9 => z9) hX_45).symm, (Or.inl (by decide +kernel))⟩
      · have b_46 := z_t2 c_43
        refine lv_aload_n hx hb dX2_placeOn_11 rfl (lv_at hl 0 rfl) ?_
        refine lv_iload_n hx hb dX2_placeOn_12 rfl (lv_at hl 1 rfl) ?_
        refine lv_iload_n hx hb dX2_placeOn_13 rfl (lv_at hl 3 rfl) ?_
        refine z_callVi (As := [.int x, .int v_24]) (rest := []) (wr := []) ⟨hx, hb, hml, hown, hts⟩ hK hE hT hP hD hS hA (d_H_keyOn l G cA h h_features h_featureNames h_steps h_turnedFeatures h_sixteenths h_keys h_keySteps h_lent h_rings h_on h_onMany h_doors h_wanted h_openers h_seconds h_turned h_roundMany h_roundDoors c_h_on c_h_onMany x v_24 (by omega) hO_c_h_onMany) lk_RX2_116 ⟨rfl, rfl⟩ ⟨Nat.le_of_ble_eq_true rfl, Nat.le_of_ble_eq_true rfl⟩ 2 rfl rfl rfl [1, 0, 2] [] rfl rfl (by decide) rfl hl.1 rfl (lv_room (Nat.le_of_ble_eq_true rfl)) dX2_placeOn_14 ⟨Nat.le_of_ble_eq_true rfl, Nat.le_of_ble_eq_true rfl⟩ (fun r_47 u_48 H locs hw hP hD hS => ?_)
        have hP : va_P G vwCl [(h, .inr (2, [.int h_features, .ref h_featureNames, .ref h_steps, .ref h_turnedFeatures, .ref h_sixteenths, .int h_keys, .ref h_keySteps, .int h_lent, .int h_rings, .ref h_on, .ref h_onMany, .int h_doors, .ref h_wanted, .ref h_openers, .ref h_seconds, .int h_turned, .int h_roundMany, .ref h_roundDoors])), (h_on, .inl (cA.1 0, 30, .inl c_h_on)), (h_onMany, .inl (cA.1 0, 3, .inl c_h_onMany))] H := hP
        have hD : va_D A [(h, .inr (2, [.int h_features, .ref h_featureNames, .ref h_steps, .ref h_turnedFeatures, .ref h_sixteenths, .int h_keys, .ref h_keySteps, .int h_lent, .int h_rings, .ref h_on, .ref h_onMany, .int h_doors, .ref h_wanted, .ref h_openers, .ref h_seconds, .int h_turned, .int h_roundMany, .ref h_roundDoors])), (h_on, .inl (cA.1 0, 30, .inl c_h_on)), (h_onMany, .inl (cA.1 0, 3, .inl c_h_onMany))] := hD
        obtain ⟨he_r_47, hw⟩ := hw
        refine lv_iload_n hx hb dX2_placeOn_17 rfl (lv_at hl 2 rfl) ?_
        refine lv_icmp_ne (tgt := 23) hx hb dX2_placeOn_18 (by decide) (fun c_50 => ?_) (fun c_50 => ?_)
        · skip
          refine lv_iinc (v := (v_24 + 1)) (lv' := [(3, .int (v_24 + 1)), (0, .ref h), (1, .int x), (2, .int y)]) hx hb dX2_placeOn_23 hl (k := 3) rfl (z_ofi (by decide +kernel)) (by decide) rfl (fun ls hl => ?_)
          refine lv_goto (tgt := 2) hx hb dX2_placeOn_26 (by decide) ?_
          have hX_52 : F_H_placeOn h_rings c_h_on c_h_onMany x y = F_H_placeOn_L2a h_rings c_h_on c_h_onMany x y n_L2a (v_24 + 1) := by
            refine hF_L2a.trans ?_
            refine (F_H_placeOn_L2a_s ..).trans ?_
            extract_lets -merge -useContext +onlyGivenNames w9 y9; have e9 : r_40 = w9 := he_r_40; clear_value w9; subst e9
            refine (if_neg c_43).trans ?_
            extract_lets -merge -useContext +onlyGivenNames w9 y9; have e9 : r_47 = w9 := he_r_47; clear_value w9; subst e9
            refine (if_neg c_50).trans ?_
            exact rfl
          exact ih_39 (v_24 + 1) H locs ls (z_up hmu_hlp_37 (by omega) trivial) (z_upc hi_38 (by omega) trivial) hX_52 hP hD hS (lv_sub hl [1, 2, 3, 0] rfl)
        · skip
          refine lv_iload_n hx hb dX2_placeOn_21 rfl (lv_at hl 3 rfl) ?_
          have hX_54 : F_H_placeOn h_rings c_h_on c_h_onMany x y = (v_24 : Int32) := by
            refine hF_L2a.trans ?_
            refine (F_H_placeOn_L2a_s ..).trans ?_
            extract_lets -merge -useContext +onlyGivenNames w9 y9; have e9 : r_40 = w9 := he_r_40; clear_value w9; subst e9
            refine (if_neg c_43).trans ?_
            extract_lets -merge -useContext +onlyGivenNames w9 y9; have e9 : r_47 = w9 := he_r_47; clear_value w9; subst e9
            refine (if_pos c_50).trans ?_
            exact rfl
          exact hret _ _ _ _ _ _ () [0, 1, 2] hP hD hS rfl (by decide) dX2_placeOn_22 ⟨(congrArg (fun z9 => z9) hX_54).symm, (Or.inr ⟨by omega, by omega⟩)⟩
  have hX_55 : F_H_placeOn h_rings c_h_on c_h_onMany x y = F_H_placeOn_L2a h_rings c_h_on c_h_onMany x y ((2147483647 - (0 : Int32).toInt).toNat + 1) (0 : Int32) := by
    refine (F_H_placeOn_s ..).trans ?_
    exact rfl
  exact hlp_37 ((2147483647 - (0 : Int32).toInt).toNat + 1) 0 _ _ _ (Nat.lt_succ_self _) (by first | decide +kernel | omega) hX_55 hP hD hS (lv_sub hl [1, 2, 3, 0] rfl)
set_option maxHeartbeats 40000000 in
set_option maxRecDepth 100000 in
theorem d_H_ringOf (l : Launch) (G : va_G) (cA : zCA) (h : Nat) (h_features : Int32) (h_featureNames : Nat) (h_steps : Nat) (h_turnedFeatures : Nat) (h_sixteenths : Nat) (h_keys : Int32) (h_keySteps : Nat) (h_lent : Int32) (h_rings : Int32) (h_on : Nat) (h_onMany : Nat) (h_doors : Int32) (h_wanted : Nat) (h_openers : Nat) (h_seconds : Nat) (h_turned : Int32) (h_roundMany : Int32) (h_roundDoors : Nat) (c_h_on : Nat → Int32) (c_h_onMany : Nat → Int32) (k : Int32) (hm_h_features : 0 ≤ h_features.toInt ∧ h_features.toInt ≤ 3) (hO_c_h_onMany : zOM c_h_onMany) : zCi l yX2_ringOf cX2_ringOf 3 (some .int) ({ frames := 4, cells := 0, slots := 0, locals := 87 }) G cA [.ref h, .int k] [(h, .inr (2, [.int h_features, .ref h_featureNames, .ref h_steps, .ref h_turnedFeatures, .ref h_sixteenths, .int h_keys, .ref h_keySteps, .int h_lent, .int h_rings, .ref h_on, .ref h_onMany, .int h_doors, .ref h_wanted, .ref h_openers, .ref h_seconds, .int h_turned, .int h_roundMany, .ref h_roundDoors])), (h_on, .inl (cA.1 0, 30, .inl c_h_on)), (h_onMany, .inl (cA.1 0, 3, .inl c_h_onMany))] (S := Unit) (fun (r : Int32) (u : Unit) => (r = (F_H_ringOf h_rings c_h_on c_h_onMany k)) ∧ (True)) (fun (u : Unit) => [(h, .inr (2, [.int h_features, .ref h_featureNames, .ref h_steps, .ref h_turnedFeatures, .ref h_sixteenths, .int h_keys, .ref h_keySteps, .int h_lent, .int h_rings, .ref h_on, .ref h_onMany, .int h_doors, .ref h_wanted, .ref h_openers, .ref h_seconds, .int h_turned, .int h_roundMany, .ref h_roundDoors])), (h_on, .inl (cA.1 0, 30, .inl c_h_on)), (h_onMany, .inl (cA.1 0, 3, .inl c_h_onMany))]) 0 0 := by
  refine z_start2i (own := RX2) (by decide) (Nat.le_of_ble_eq_true rfl) rfl ?_
  intro p e s m args below meth c A ls Q hx hb hml hts hown hK hE hT hP hD hS hA hl hret
  have hl : lv_has ls 3 [(0, .ref h), (1, .int k)] := hl
  refine lv_iconst (v := 0) hx hb dX2_ringOf_0 (by decide) ?_
  refine lv_istore_n (lv' := [(2, .int 0), (0, .ref h), (1, .int k)]) hx hb dX2_ringOf_1 rfl hl (by decide) rfl (fun ls hl => ?_)
  have hlp_28 : ∀ (n_L2a : Nat) (v_18 : Int32) (H : Heap) (locs : List Loc) (ls : Array Slot), (2147483647 - v_18.toInt).toNat < n_L2a → (0 ≤ v_18.toInt) → (F_H_ringOf h_rings c_h_on c_h_onMany k = F_H_ringOf_L2a h_rings c_h_on c_h_onMany k n_L2a v_18) → va_P G vwCl [(h, .inr (2, [.int h_features, .ref h_featureNames, .ref h_steps, .ref h_turnedFeatures, .ref h_sixteenths, .int h_keys, .ref h_keySteps, .int h_lent, .int h_rings, .ref h_on, .ref h_onMany, .int h_doors, .ref h_wanted, .ref h_openers, .ref h_seconds, .int h_turned, .int h_roundMany, .ref h_roundDoors])), (h_on, .inl (cA.1 0, 30, .inl c_h_on)), (h_onMany, .inl (cA.1 0, 3, .inl c_h_onMany))] H → va_D A [(h, .inr (2, [.int h_features, .ref h_featureNames, .ref h_steps, .ref h_turnedFeatures, .ref h_sixteenths, .int h_keys, .ref h_keySteps, .int h_lent, .int h_rings, .ref h_on, .ref h_onMany, .int h_doors, .ref h_wanted, .ref h_openers, .ref h_seconds, .int h_turned, .int h_roundMany, .ref h_roundDoors])), (h_on, .inl (cA.1 0, 30, .inl c_h_on)), (h_onMany, .inl (cA.1 0, 3, .inl c_h_onMany))] → va_S A s.heap H locs → lv_has ls 3 [(0, .ref h), (1, .int k), (2, .int v_18)] → W p l e ({ frames := 4, cells := 0, slots := 0, locals := 87 }) s m args below meth c H locs 0 0 Q (F0 m 2 ls []) := by
    intro n_L2a
    induction n_L2a with
    | zero =>
      intro v_18 H locs ls hmu_hlp_28 hi_29 hF_L2a hP hD hS hl
      exact absurd hmu_hlp_28 (Nat.not_lt_zero _)
    | succ n_L2a ih_30 =>
      intro v_18 H locs ls hmu_hlp_28 hi_29 hF_L2a hP hD hS hl
      refine lv_iload_n hx hb dX2_ringOf_2 rfl (lv_at hl 2 rfl) ?_
      refine lv_aload_n hx hb dX2_ringOf_3 rfl (lv_at hl 0 rfl) ?_
      refine va_get (D := G) (ci := 2) (v := .int h_rings) (C := RX2) (T := TX2) (N := 18) hx hb hts inT2 hown hK hP 0 rfl rfl 8 (by decide) (hts _ tw_279) (fun _ h9 => h9) rfl dX2_ringOf_4 ?_
      refine lv_icmp_ge (tgt := 28) hx hb dX2_ringOf_7 (by decide) (fun c_31 => ?_) (fun c_31 => ?_)
      · have b_32 := z_s1 c_31
        refine lv_iconst (v := (-1)) hx hb dX2_ringOf_28 (by decide) ?_
        have hX_33 : F_H_ringOf h_rings c_h_on c_h_onMany k = ((-1 : Int32) : Int32) := by
          refine hF_L2a.trans ?_
          refine (F_H_ringOf_L2a_s ..).trans ?_
          refine (if_pos c_31).trans ?_
          exact rfl
        exact hret _ _ _ _ _ _ () [0, 1, 2] hP hD hS rfl (by decide) dX2_ringOf_29 ⟨(congrArg (fun z9 => z9) hX_33).symm, trivial⟩
      · have b_34 := z_t2 c_31
        refine lv_aload_n hx hb dX2_ringOf_10 rfl (lv_at hl 0 rfl) ?_
        refine lv_iload_n hx hb dX2_ringOf_11 rfl (lv_at hl 2 rfl) ?_
        refine lv_iload_n hx hb dX2_ringOf_12 rfl (lv_at hl 1 rfl) ?_
        refine z_callVi (As := [.int v_18, .int k]) (rest := []) (wr := []) ⟨hx, hb, hml, hown, hts⟩ hK hE hT hP hD hS hA (d_H_placeOn l G cA h h_features h_featureNames h_steps h_turnedFeatures h_sixteenths h_keys h_keySteps h_lent h_rings h_on h_onMany h_doors h_wanted h_openers h_seconds h_turned h_roundMany h_roundDoors c_h_on c_h_onMany v_18 k (by omega) hO_c_h_onMany) lk_RX2_120 ⟨rfl, rfl⟩ ⟨Nat.le_of_ble_eq_true rfl, Nat.le_of_ble_eq_true rfl⟩ 2 rfl rfl rfl [0, 1, 2] [] rfl rfl (by decide) rfl hl.1 rfl (lv_room (Nat.le_of_ble_eq_true rfl)) dX2_ringOf_13 ⟨Nat.le_of_ble_eq_true rfl, Nat.le_of_ble_eq_true rfl⟩ (fun r_35 u_36 H locs hw hP hD hS => ?_)
        have hP : va_P G vwCl [(h, .inr (2, [.int h_features, .ref h_featureNames, .ref h_steps, .ref h_turnedFeatures, .ref h_sixteenths, .int h_keys, .ref h_keySteps, .int h_lent, .int h_rings, .ref h_on, .ref h_onMany, .int h_doors, .ref h_wanted, .ref h_openers, .ref h_seconds, .int h_turned, .int h_roundMany, .ref h_roundDoors])), (h_on, .inl (cA.1 0, 30, .inl c_h_on)), (h_onMany, .inl (cA.1 0, 3, .inl c_h_onMany))] H := hP
        have hD : va_D A [(h, .inr (2, [.int h_features, .ref h_featureNames, .ref h_steps, .ref h_turnedFeatures, .ref h_sixteenths, .int h_keys, .ref h_keySteps, .int h_lent, .int h_rings, .ref h_on, .ref h_onMany, .int h_doors, .ref h_wanted, .ref h_openers, .ref h_seconds, .int h_turned, .int h_roundMany, .ref h_roundDoors])), (h_on, .inl (cA.1 0, 30, .inl c_h_on)), (h_onMany, .inl (cA.1 0, 3, .inl c_h_onMany))] := hD
        obtain ⟨he_r_35, hw⟩ := hw
        have hx_r_35 := hw
        refine lv_iconst (v := (-1)) hx hb dX2_ringOf_16 (by decide) ?_
        refine lv_icmp_eq (tgt := 22) hx hb dX2_ringOf_17 (by decide) (fun c_38 => ?_) (fun c_38 => ?_)
        · skip
          refine lv_iinc (v := (v_18 + 1)) (lv' := [(2, .int (v_18 + 1)), (0, .ref h), (1, .int k)]) hx hb dX2_ringOf_22 hl (k := 2) rfl (z_ofi (by decide +kernel)) (by decide) rfl (fun ls hl => ?_)
          refine lv_goto (tgt := 2) hx hb dX2_ringOf_25 (by decide) ?_
          have hX_40 : F_H_ringOf h_rings c_h_on c_h_onMany k = F_H_ringOf_L2a h_rings c_h_on c_h_onMany k n_L2a (v_18 + 1) := by
            refine hF_L2a.trans ?_
            refine (F_H_ringOf_L2a_s ..).trans ?_
            refine (if_neg c_31).trans ?_
            extract_lets -merge -useContext +onlyGivenNames w9 y9; have e9 : r_35 = w9 := he_r_35; clear_value w9; subst e9
            refine (if_pos c_38).trans ?_
            exact rfl
          exact ih_30 (v_18 + 1) H locs ls (z_up hmu_hlp_28 (by omega) trivial) (z_upc hi_29 (by omega) trivial) hX_40 hP hD hS (lv_sub hl [1, 2, 0] rfl)
        · skip
          refine lv_iload_n hx hb dX2_ringOf_20 rfl (lv_at hl 2 rfl) ?_
          have hX_42 : F_H_ringOf h_rings c_h_on c_h_onMany k = (v_18 : Int32) := by
            refine hF_L2a.trans ?_
            refine (F_H_ringOf_L2a_s ..).trans ?_
            refine (if_neg c_31).trans ?_
            extract_lets -merge -useContext +onlyGivenNames w9 y9; have e9 : r_35 = w9 := he_r_35; clear_value w9; subst e9
            refine (if_neg c_38).trans ?_
            exact rfl
          exact hret _ _ _ _ _ _ () [0, 1, 2] hP hD hS rfl (by decide) dX2_ringOf_21 ⟨(congrArg (fun z9 => z9) hX_42).symm, trivial⟩
  have hX_43 : F_H_ringOf h_rings c_h_on c_h_onMany k = F_H_ringOf_L2a h_rings c_h_on c_h_onMany k ((2147483647 - (0 : Int32).toInt).toNat + 1) (0 : Int32) := by
    refine (F_H_ringOf_s ..).trans ?_
    exact rfl
  exact hlp_28 ((2147483647 - (0 : Int32).toInt).toNat + 1) 0 _ _ _ (Nat.lt_succ_self _) (by first | decide +kernel | omega) hX_43 hP hD hS (lv_sub hl [1, 2, 0] rfl)
