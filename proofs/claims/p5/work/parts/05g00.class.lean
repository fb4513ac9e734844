set_option maxHeartbeats 4000000 in
set_option maxRecDepth 100000 in
theorem d_at_3 (l : Launch) (G : va_G) (cA : zCA) (a : Nat) (c_a : Nat → Int32) (i : Int32) : zCi l yX11_at cX11_at 2 (some .int) ({ frames := 0, cells := 0, slots := 0, locals := 0 }) G cA [.ref a, .int i] [(a, .inl (cA.1 0, 3, .inl c_a))] (S := Unit) (fun (r : Int32) (u : Unit) => True) (fun (u : Unit) => [(a, .inl (cA.1 0, 3, .inl c_a))]) 0 0 := by
  refine z_start2i (own := RX11) (by decide) (Nat.le_of_ble_eq_true rfl) rfl ?_
  intro p e s m args below meth c A ls Q hx hb hml hts hown hK hE hT hP hD hS hA hl hret
  have hl : lv_has ls 2 [(0, .ref a), (1, .int i)] := hl
  refine lv_iload_n hx hb dX11_at_0 rfl (lv_at hl 1 rfl) ?_
  refine lv_if_lt (tgt := 16) hx hb dX11_at_1 (by decide) (fun c_1 => ?_) (fun c_1 => ?_)
  · have b_2 := z_b3 c_1 (K := 0) (by decide +kernel)
    refine lv_iconst (v := (-1)) hx hb dX11_at_16 (by decide) ?_
    exact hret _ _ _ _ _ _ () [0] hP hD hS rfl (by decide) dX11_at_17 trivial
  · have b_3 := z_b4 c_1 (K := 0) (by decide +kernel)
    refine lv_iload_n hx hb dX11_at_4 rfl (lv_at hl 1 rfl) ?_
    refine lv_aload_n hx hb dX11_at_5 rfl (lv_at hl 0 rfl) ?_
    refine va_alen (v := 3) hx hb hK hP 0 0 rfl rfl (show Int32.ofNat 3 = 3 by decide +kernel) dX11_at_6 ?_
    refine lv_icmp_ge (tgt := 16) hx hb dX11_at_7 (by decide) (fun c_4 => ?_) (fun c_4 => ?_)
    · have b_5 := z_b1 c_4 (K := 3) (by decide +kernel)
      refine lv_iconst (v := (-1)) hx hb dX11_at_16 (by decide) ?_
      exact hret _ _ _ _ _ _ () [0] hP hD hS rfl (by decide) dX11_at_17 trivial
    · have b_6 := z_b2 c_4 (K := 3) (by decide +kernel)
      refine lv_aload_n hx hb dX11_at_10 rfl (lv_at hl 0 rfl) ?_
      refine lv_iload_n hx hb dX11_at_11 rfl (lv_at hl 1 rfl) ?_
      refine va_iald hx hb hK hP 0 0 rfl rfl (z_inN (by omega) (by omega)) dX11_at_12 ?_
      refine lv_topi (fun x_7 _ => ?_)
      refine lv_goto (tgt := 17) hx hb dX11_at_13 (by decide) ?_
      exact hret _ _ _ _ _ _ () [0] hP hD hS rfl (by decide) dX11_at_17 trivial
set_option maxHeartbeats 4000000 in
set_option maxRecDepth 100000 in
theorem d_keepAt_3 (l : Launch) (G : va_G) (cA : zCA) (a : Nat) (c_a : Nat → Int32) (i : Int32) (v : Int32) : zCv l yX11_keepAt cX11_keepAt 3 none ({ frames := 0, cells := 0, slots := 0, locals := 0 }) G cA [.ref a, .int i, .int v] [(a, .inl (cA.1 0, 3, .inl c_a))] (S := (Nat → Int32)) (fun (u : (Nat → Int32)) => True) (fun (u : (Nat → Int32)) => [(a, .inl (cA.1 0, 3, .inl u))]) 0 0 := by
  refine z_start2v (own := RX11) (by decide) (Nat.le_of_ble_eq_true rfl) rfl ?_
  intro p e s m args below meth c A ls Q hx hb hml hts hown hK hE hT hP hD hS hA hl hret
  have hl : lv_has ls 3 [(0, .ref a), (1, .int i), (2, .int v)] := hl
  refine lv_iload_n hx hb dX11_keepAt_0 rfl (lv_at hl 1 rfl) ?_
  refine lv_if_lt (tgt := 14) hx hb dX11_keepAt_1 (by decide) (fun c_1 => ?_) (fun c_1 => ?_)
  · have b_2 := z_b3 c_1 (K := 0) (by decide +kernel)
    exact hret _ _ _ _ _ c_a [0] hP hD hS rfl (by decide) dX11_keepAt_14 trivial
  · have b_3 := z_b4 c_1 (K := 0) (by decide +kernel)
    refine lv_iload_n hx hb dX11_keepAt_4 rfl (lv_at hl 1 rfl) ?_
    refine lv_aload_n hx hb dX11_keepAt_5 rfl (lv_at hl 0 rfl) ?_
    refine va_alen (v := 3) hx hb hK hP 0 0 rfl rfl (show Int32.ofNat 3 = 3 by decide +kernel) dX11_keepAt_6 ?_
    refine lv_icmp_ge (tgt := 14) hx hb dX11_keepAt_7 (by decide) (fun c_4 => ?_) (fun c_4 => ?_)
    · have b_5 := z_b1 c_4 (K := 3) (by decide +kernel)
      exact hret _ _ _ _ _ c_a [0] hP hD hS rfl (by decide) dX11_keepAt_14 trivial
    · have b_6 := z_b2 c_4 (K := 3) (by decide +kernel)
      refine lv_aload_n hx hb dX11_keepAt_10 rfl (lv_at hl 0 rfl) ?_
      refine lv_iload_n hx hb dX11_keepAt_11 rfl (lv_at hl 1 rfl) ?_
      refine lv_iload_n hx hb dX11_keepAt_12 rfl (lv_at hl 2 rfl) ?_
      refine va_iast hx hb hK hP hD hS 0 0 rfl rfl (z_inN (by omega) (by omega)) dX11_keepAt_13 (fun H locs hP hD hS => ?_)
      have hP : va_P G vwCl [(a, .inl (cA.1 0, 3, .inl (upd c_a (i : Int32).toNatClampNeg v)))] H := hP
      have hD : va_D A [(a, .inl (cA.1 0, 3, .inl (upd c_a (i : Int32).toNatClampNeg v)))] := hD
      generalize (upd c_a (i : Int32).toNatClampNeg v) = g_7 at hP hD
      exact hret _ _ _ _ _ g_7 [0] hP hD hS rfl (by decide) dX11_keepAt_14 trivial
set_option maxHeartbeats 4000000 in
set_option maxRecDepth 100000 in
theorem d_at_4 (l : Launch) (G : va_G) (cA : zCA) (a : Nat) (c_a : Nat → Int32) (i : Int32) : zCi l yX11_at cX11_at 2 (some .int) ({ frames := 0, cells := 0, slots := 0, locals := 0 }) G cA [.ref a, .int i] [(a, .inl (cA.1 0, 4, .inl c_a))] (S := Unit) (fun (r : Int32) (u : Unit) => True) (fun (u : Unit) => [(a, .inl (cA.1 0, 4, .inl c_a))]) 0 0 := by
  refine z_start2i (own := RX11) (by decide) (Nat.le_of_ble_eq_true rfl) rfl ?_
  intro p e s m args below meth c A ls Q hx hb hml hts hown hK hE hT hP hD hS hA hl hret
  have hl : lv_has ls 2 [(0, .ref a), (1, .int i)] := hl
  refine lv_iload_n hx hb dX11_at_0 rfl (lv_at hl 1 rfl) ?_
  refine lv_if_lt (tgt := 16) hx hb dX11_at_1 (by decide) (fun c_1 => ?_) (fun c_1 => ?_)
  · have b_2 := z_b3 c_1 (K := 0) (by decide +kernel)
    refine lv_iconst (v := (-1)) hx hb dX11_at_16 (by decide) ?_
    exact hret _ _ _ _ _ _ () [0] hP hD hS rfl (by decide) dX11_at_17 trivial
  · have b_3 := z_b4 c_1 (K := 0) (by decide +kernel)
    refine lv_iload_n hx hb dX11_at_4 rfl (lv_at hl 1 rfl) ?_
    refine lv_aload_n hx hb dX11_at_5 rfl (lv_at hl 0 rfl) ?_
    refine va_alen (v := 4) hx hb hK hP 0 0 rfl rfl (show Int32.ofNat 4 = 4 by decide +kernel) dX11_at_6 ?_
    refine lv_icmp_ge (tgt := 16) hx hb dX11_at_7 (by decide) (fun c_4 => ?_) (fun c_4 => ?_)
    · have b_5 := z_b1 c_4 (K := 4) (by decide +kernel)
      refine lv_iconst (v := (-1)) hx hb dX11_at_16 (by decide) ?_
      exact hret _ _ _ _ _ _ () [0] hP hD hS rfl (by decide) dX11_at_17 trivial
    · have b_6 := z_b2 c_4 (K := 4) (by decide +kernel)
      refine lv_aload_n hx hb dX11_at_10 rfl (lv_at hl 0 rfl) ?_
      refine lv_iload_n hx hb dX11_at_11 rfl (lv_at hl 1 rfl) ?_
      refine va_iald hx hb hK hP 0 0 rfl rfl (z_inN (by omega) (by omega)) dX11_at_12 ?_
      refine lv_topi (fun x_7 _ => ?_)
      refine lv_goto (tgt := 17) hx hb dX11_at_13 (by decide) ?_
      exact hret _ _ _ _ _ _ () [0] hP hD hS rfl (by decide) dX11_at_17 trivial
set_option maxHeartbeats 4000000 in
set_option maxRecDepth 100000 in
theorem d_keepAt_4 (l : Launch) (G : va_G) (cA : zCA) (a : Nat) (c_a : Nat → Int32) (i : Int32) (v : Int32) : zCv l yX11_keepAt cX11_keepAt 3 none ({ frames := 0, cells := 0, slots := 0, locals := 0 }) G cA [.ref a, .int i, .int v] [(a, .inl (cA.1 0, 4, .inl c_a))] (S := (Nat → Int32)) (fun (u : (Nat → Int32)) => True) (fun (u : (Nat → Int32)) => [(a, .inl (cA.1 0, 4, .inl u))]) 0 0 := by
  refine z_start2v (own := RX11) (by decide) (Nat.le_of_ble_eq_true rfl) rfl ?_
  intro p e s m args below meth c A ls Q hx hb hml hts hown hK hE hT hP hD hS hA hl hret
  have hl : lv_has ls 3 [(0, .ref a), (1, .int i), (2, .int v)] := hl
  refine lv_iload_n hx hb dX11_keepAt_0 rfl (lv_at hl 1 rfl) ?_
  refine lv_if_lt (tgt := 14) hx hb dX11_keepAt_1 (by decide) (fun c_1 => ?_) (fun c_1 => ?_)
  · have b_2 := z_b3 c_1 (K := 0) (by decide +kernel)
    exact hret _ _ _ _ _ c_a [0] hP hD hS rfl (by decide) dX11_keepAt_14 trivial
  · have b_3 := z_b4 c_1 (K := 0) (by decide +kernel)
    refine lv_iload_n hx hb dX11_keepAt_4 rfl (lv_at hl 1 rfl) ?_
    refine lv_aload_n hx hb dX11_keepAt_5 rfl (lv_at hl 0 rfl) ?_
    refine va_alen (v := 4) hx hb hK hP 0 0 rfl rfl (show Int32.ofNat 4 = 4 by decide +kernel) dX11_keepAt_6 ?_
    refine lv_icmp_ge (tgt := 14) hx hb dX11_keepAt_7 (by decide) (fun c_4 => ?_) (fun c_4 => ?_)
    · have b_5 := z_b1 c_4 (K := 4) (by decide +kernel)
      exact hret _ _ _ _ _ c_a [0] hP hD hS rfl (by decide) dX11_keepAt_14 trivial
    · have b_6 := z_b2 c_4 (K := 4) (by decide +kernel)
      refine lv_aload_n hx hb dX11_keepAt_10 rfl (lv_at hl 0 rfl) ?_
      refine lv_iload_n hx hb dX11_keepAt_11 rfl (lv_at hl 1 rfl) ?_
      refine lv_iload_n hx hb dX11_keepAt_12 rfl (lv_at hl 2 rfl) ?_
      refine va_iast hx hb hK hP hD hS 0 0 rfl rfl (z_inN (by omega) (by omega)) dX11_keepAt_13 (fun H locs hP hD hS => ?_)
      have hP : va_P G vwCl [(a, .inl (cA.1 0, 4, .inl (upd c_a (i : Int32).toNatClampNeg v)))] H := hP
      have hD : va_D A [(a, .inl (cA.1 0, 4, .inl (upd c_a (i : Int32).toNatClampNeg v)))] := hD
      generalize (upd c_a (i : Int32).toNatClampNeg v) = g_7 at hP hD
      exact hret _ _ _ _ _ g_7 [0] hP hD hS rfl (by decide) dX11_keepAt_14 trivial
set_option maxHeartbeats 4000000 in
set_option maxRecDepth 100000 in
theorem d_at_5 (l : Launch) (G : va_G) (cA : zCA) (a : Nat) (c_a : Nat → Int32) (i : Int32) : zCi l yX11_at cX11_at 2 (some .int) ({ frames := 0, cells := 0, slots := 0, locals := 0 }) G cA [.ref a, .int i] [(a, .inl (cA.1 0, 5, .inl c_a))] (S := Unit) (fun (r : Int32) (u : Unit) => True) (fun (u : Unit) => [(a, .inl (cA.1 0, 5, .inl c_a))]) 0 0 := by
  refine z_start2i (own := RX11) (by decide) (Nat.le_of_ble_eq_true rfl) rfl ?_
  intro p e s m args below meth c A ls Q hx hb hml hts hown hK hE hT hP hD hS hA hl hret
  have hl : lv_has ls 2 [(0, .ref a), (1, .int i)] := hl
  refine lv_iload_n hx hb dX11_at_0 rfl (lv_at hl 1 rfl) ?_
  refine lv_if_lt (tgt := 16) hx hb dX11_at_1 (by decide) (fun c_1 => ?_) (fun c_1 => ?_)
  · have b_2 := z_b3 c_1 (K := 0) (by decide +kernel)
    refine lv_iconst (v := (-1)) hx hb dX11_at_16 (by decide) ?_
    exact hret _ _ _ _ _ _ () [0] hP hD hS rfl (by decide) dX11_at_17 trivial
  · have b_3 := z_b4 c_1 (K := 0) (by decide +kernel)
    refine lv_iload_n hx hb dX11_at_4 rfl (lv_at hl 1 rfl) ?_
    refine lv_aload_n hx hb dX11_at_5 rfl (lv_at hl 0 rfl) ?_
    refine va_alen (v := 5) hx hb hK hP 0 0 rfl rfl (show Int32.ofNat 5 = 5 by decide +kernel) dX11_at_6 ?_
    refine lv_icmp_ge (tgt := 16) hx hb dX11_at_7 (by decide) (fun c_4 => ?_) (fun c_4 => ?_)
    · have b_5 := z_b1 c_4 (K := 5) (by decide +kernel)
      refine lv_iconst (v := (-1)) hx hb dX11_at_16 (by decide) ?_
      exact hret _ _ _ _ _ _ () [0] hP hD hS rfl (by decide) dX11_at_17 trivial
    · have b_6 := z_b2 c_4 (K := 5) (by decide +kernel)
      refine lv_aload_n hx hb dX11_at_10 rfl (lv_at hl 0 rfl) ?_
      refine lv_iload_n hx hb dX11_at_11 rfl (lv_at hl 1 rfl) ?_
      refine va_iald hx hb hK hP 0 0 rfl rfl (z_inN (by omega) (by omega)) dX11_at_12 ?_
      refine lv_topi (fun x_7 _ => ?_)
      refine lv_goto (tgt := 17) hx hb dX11_at_13 (by decide) ?_
      exact hret _ _ _ _ _ _ () [0] hP hD hS rfl (by decide) dX11_at_17 trivial
set_option maxHeartbeats 4000000 in
set_option maxRecDepth 100000 in
theorem d_keepAt_5 (l : Launch) (G : va_G) (cA : zCA) (a : Nat) (c_a : Nat → Int32) (i : Int32) (v : Int32) : zCv l yX11_keepAt cX11_keepAt 3 none ({ frames := 0, cells := 0, slots := 0, locals := 0 }) G cA [.ref a, .int i, .int v] [(a, .inl (cA.1 0, 5, .inl c_a))] (S := (Nat → Int32)) (fun (u : (Nat → Int32)) => True) (fun (u : (Nat → Int32)) => [(a, .inl (cA.1 0, 5, .inl u))]) 0 0 := by
  refine z_start2v (own := RX11) (by decide) (Nat.le_of_ble_eq_true rfl) rfl ?_
  intro p e s m args below meth c A ls Q hx hb hml hts hown hK hE hT hP hD hS hA hl hret
  have hl : lv_has ls 3 [(0, .ref a), (1, .int i), (2, .int v)] := hl
  refine lv_iload_n hx hb dX11_keepAt_0 rfl (lv_at hl 1 rfl) ?_
  refine lv_if_lt (tgt := 14) hx hb dX11_keepAt_1 (by decide) (fun c_1 => ?_) (fun c_1 => ?_)
  · have b_2 := z_b3 c_1 (K := 0) (by decide +kernel)
    exact hret _ _ _ _ _ c_a [0] hP hD hS rfl (by decide) dX11_keepAt_14 trivial
  · have b_3 := z_b4 c_1 (K := 0) (by decide +kernel)
    refine lv_iload_n hx hb dX11_keepAt_4 rfl (lv_at hl 1 rfl) ?_
    refine lv_aload_n hx hb dX11_keepAt_5 rfl (lv_at hl 0 rfl) ?_
    refine va_alen (v := 5) hx hb hK hP 0 0 rfl rfl (show Int32.ofNat 5 = 5 by decide +kernel) dX11_keepAt_6 ?_
    refine lv_icmp_ge (tgt := 14) hx hb dX11_keepAt_7 (by decide) (fun c_4 => ?_) (fun c_4 => ?_)
    · have b_5 := z_b1 c_4 (K := 5) (by decide +kernel)
      exact hret _ _ _ _ _ c_a [0] hP hD hS rfl (by decide) dX11_keepAt_14 trivial
    · have b_6 := z_b2 c_4 (K := 5) (by decide +kernel)
      refine lv_aload_n hx hb dX11_keepAt_10 rfl (lv_at hl 0 rfl) ?_
      refine lv_iload_n hx hb dX11_keepAt_11 rfl (lv_at hl 1 rfl) ?_
      refine lv_iload_n hx hb dX11_keepAt_12 rfl (lv_at hl 2 rfl) ?_
      refine va_iast hx hb hK hP hD hS 0 0 rfl rfl (z_inN (by omega) (by omega)) dX11_keepAt_13 (fun H locs hP hD hS => ?_)
      have hP : va_P G vwCl [(a, .inl (cA.1 0, 5, .inl (upd c_a (i : Int32).toNatClampNeg v)))] H := hP
      have hD : va_D A [(a, .inl (cA.1 0, 5, .inl (upd c_a (i : Int32).toNatClampNeg v)))] := hD
      generalize (upd c_a (i : Int32).toNatClampNeg v) = g_7 at hP hD
      exact hret _ _ _ _ _ g_7 [0] hP hD hS rfl (by decide) dX11_keepAt_14 trivial
set_option maxHeartbeats 4000000 in
set_option maxRecDepth 100000 in
theorem d_at_7 (l : Launch) (G : va_G) (cA : zCA) (a : Nat) (c_a : Nat → Int32) (i : Int32) : zCi l yX11_at cX11_at 2 (some .int) ({ frames := 0, cells := 0, slots := 0, locals := 0 }) G cA [.ref a, .int i] [(a, .inl (cA.1 0, 7, .inl c_a))] (S := Unit) (fun (r : Int32) (u : Unit) => True) (fun (u : Unit) => [(a, .inl (cA.1 0, 7, .inl c_a))]) 0 0 := by
  refine z_start2i (own := RX11) (by decide) (Nat.le_of_ble_eq_true rfl) rfl ?_
  intro p e s m args below meth c A ls Q hx hb hml hts hown hK hE hT hP hD hS hA hl hret
  have hl : lv_has ls 2 [(0, .ref a), (1, .int i)] := hl
  refine lv_iload_n hx hb dX11_at_0 rfl (lv_at hl 1 rfl) ?_
  refine lv_if_lt (tgt := 16) hx hb dX11_at_1 (by decide) (fun c_1 => ?_) (fun c_1 => ?_)
  · have b_2 := z_b3 c_1 (K := 0) (by decide +kernel)
    refine lv_iconst (v := (-1)) hx hb dX11_at_16 (by decide) ?_
    exact hret _ _ _ _ _ _ () [0] hP hD hS rfl (by decide) dX11_at_17 trivial
  · have b_3 := z_b4 c_1 (K := 0) (by decide +kernel)
    refine lv_iload_n hx hb dX11_at_4 rfl (lv_at hl 1 rfl) ?_
    refine lv_aload_n hx hb dX11_at_5 rfl (lv_at hl 0 rfl) ?_
    refine va_alen (v := 7) hx hb hK hP 0 0 rfl rfl (show Int32.ofNat 7 = 7 by decide +kernel) dX11_at_6 ?_
    refine lv_icmp_ge (tgt := 16) hx hb dX11_at_7 (by decide) (fun c_4 => ?_) (fun c_4 => ?_)
    · have b_5 := z_b1 c_4 (K := 7) (by decide +kernel)
      refine lv_iconst (v := (-1)) hx hb dX11_at_16 (by decide) ?_
      exact hret _ _ _ _ _ _ () [0] hP hD hS rfl (by decide) dX11_at_17 trivial
    · have b_6 := z_b2 c_4 (K := 7) (by decide +kernel)
      refine lv_aload_n hx hb dX11_at_10 rfl (lv_at hl 0 rfl) ?_
      refine lv_iload_n hx hb dX11_at_11 rfl (lv_at hl 1 rfl) ?_
      refine va_iald hx hb hK hP 0 0 rfl rfl (z_inN (by omega) (by omega)) dX11_at_12 ?_
      refine lv_topi (fun x_7 _ => ?_)
      refine lv_goto (tgt := 17) hx hb dX11_at_13 (by decide) ?_
      exact hret _ _ _ _ _ _ () [0] hP hD hS rfl (by decide) dX11_at_17 trivial
set_option maxHeartbeats 4000000 in
set_option maxRecDepth 100000 in
theorem d_keepAt_7 (l : Launch) (G : va_G) (cA : zCA) (a : Nat) (c_a : Nat → Int32) (i : Int32) (v : Int32) : zCv l yX11_keepAt cX11_keepAt 3 none ({ frames := 0, cells := 0, slots := 0, locals := 0 }) G cA [.ref a, .int i, .int v] [(a, .inl (cA.1 0, 7, .inl c_a))] (S := (Nat → Int32)) (fun (u : (Nat → Int32)) => True) (fun (u : (Nat → Int32)) => [(a, .inl (cA.1 0, 7, .inl u))]) 0 0 := by
  refine z_start2v (own := RX11) (by decide) (Nat.le_of_ble_eq_true rfl) rfl ?_
  intro p e s m args below meth c A ls Q hx hb hml hts hown hK hE hT hP hD hS hA hl hret
  have hl : lv_has ls 3 [(0, .ref a), (1, .int i), (2, .int v)] := hl
  refine lv_iload_n hx hb dX11_keepAt_0 rfl (lv_at hl 1 rfl) ?_
  refine lv_if_lt (tgt := 14) hx hb dX11_keepAt_1 (by decide) (fun c_1 => ?_) (fun c_1 => ?_)
  · have b_2 := z_b3 c_1 (K := 0) (by decide +kernel)
    exact hret _ _ _ _ _ c_a [0] hP hD hS rfl (by decide) dX11_keepAt_14 trivial
  · have b_3 := z_b4 c_1 (K := 0) (by decide +kernel)
    refine lv_iload_n hx hb dX11_keepAt_4 rfl (lv_at hl 1 rfl) ?_
    refine lv_aload_n hx hb dX11_keepAt_5 rfl (lv_at hl 0 rfl) ?_
    refine va_alen (v := 7) hx hb hK hP 0 0 rfl rfl (show Int32.ofNat 7 = 7 by decide +kernel) dX11_keepAt_6 ?_
    refine lv_icmp_ge (tgt := 14) hx hb dX11_keepAt_7 (by decide) (fun c_4 => ?_) (fun c_4 => ?_)
    · have b_5 := z_b1 c_4 (K := 7) (by decide +kernel)
      exact hret _ _ _ _ _ c_a [0] hP hD hS rfl (by decide) dX11_keepAt_14 trivial
    · have b_6 := z_b2 c_4 (K := 7) (by decide +kernel)
      refine lv_aload_n hx hb dX11_keepAt_10 rfl (lv_at hl 0 rfl) ?_
      refine lv_iload_n hx hb dX11_keepAt_11 rfl (lv_at hl 1 rfl) ?_
      refine lv_iload_n hx hb dX11_keepAt_12 rfl (lv_at hl 2 rfl) ?_
      refine va_iast hx hb hK hP hD hS 0 0 rfl rfl (z_inN (by omega) (by omega)) dX11_keepAt_13 (fun H locs hP hD hS => ?_)
      have hP : va_P G vwCl [(a, .inl (cA.1 0, 7, .inl (upd c_a (i : Int32).toNatClampNeg v)))] H := hP
      have hD : va_D A [(a, .inl (cA.1 0, 7, .inl (upd c_a (i : Int32).toNatClampNeg v)))] := hD
      generalize (upd c_a (i : Int32).toNatClampNeg v) = g_7 at hP hD
      exact hret _ _ _ _ _ g_7 [0] hP hD hS rfl (by decide) dX11_keepAt_14 trivial
set_option maxHeartbeats 4000000 in
set_option maxRecDepth 100000 in
theorem d_at_10 (l : Launch) (G : va_G) (cA : zCA) (a : Nat) (c_a : Nat → Int32) (i : Int32) : zCi l yX11_at cX11_at 2 (some .int) ({ frames := 0, cells := 0, slots := 0, locals := 0 }) G cA [.ref a, .int i] [(a, .inl (cA.1 0, 10, .inl c_a))] (S := Unit) (fun (r : Int32) (u : Unit) => True) (fun (u : Unit) => [(a, .inl (cA.1 0, 10, .inl c_a))]) 0 0 := by
  refine z_start2i (own := RX11) (by decide) (Nat.le_of_ble_eq_true rfl) rfl ?_
  intro p e s m args below meth c A ls Q hx hb hml hts hown hK hE hT hP hD hS hA hl hret
  have hl : lv_has ls 2 [(0, .ref a), (1, .int i)] := hl
  refine lv_iload_n hx hb dX11_at_0 rfl (lv_at hl 1 rfl) ?_
  refine lv_if_lt (tgt := 16) hx hb dX11_at_1 (by decide) (fun c_1 => ?_) (fun c_1 => ?_)
  · have b_2 := z_b3 c_1 (K := 0) (by decide +kernel)
    refine lv_iconst (v := (-1)) hx hb dX11_at_16 (by decide) ?_
    exact hret _ _ _ _ _ _ () [0] hP hD hS rfl (by decide) dX11_at_17 trivial
  · have b_3 := z_b4 c_1 (K := 0) (by decide +kernel)
    refine lv_iload_n hx hb dX11_at_4 rfl (lv_at hl 1 rfl) ?_
    refine lv_aload_n hx hb dX11_at_5 rfl (lv_at hl 0 rfl) ?_
    refine va_alen (v := 10) hx hb hK hP 0 0 rfl rfl (show Int32.ofNat 10 = 10 by decide +kernel) dX11_at_6 ?_
    refine lv_icmp_ge (tgt := 16) hx hb dX11_at_7 (by decide) (fun c_4 => ?_) (fun c_4 => ?_)
    · have b_5 := z_b1 c_4 (K := 10) (by decide +kernel)
      refine lv_iconst (v := (-1)) hx hb dX11_at_16 (by decide) ?_
      exact hret _ _ _ _ _ _ () [0] hP hD hS rfl (by decide) dX11_at_17 trivial
    · have b_6 := z_b2 c_4 (K := 10) (by decide +kernel)
      refine lv_aload_n hx hb dX11_at_10 rfl (lv_at hl 0 rfl) ?_
      refine lv_iload_n hx hb dX11_at_11 rfl (lv_at hl 1 rfl) ?_
      refine va_iald hx hb hK hP 0 0 rfl rfl (z_inN (by omega) (by omega)) dX11_at_12 ?_
      refine lv_topi (fun x_7 _ => ?_)
      refine lv_goto (tgt := 17) hx hb dX11_at_13 (by decide) ?_
      exact hret _ _ _ _ _ _ () [0] hP hD hS rfl (by decide) dX11_at_17 trivial
set_option maxHeartbeats 4000000 in
set_option maxRecDepth 100000 in
theorem d_keepAt_10 (l : Launch) (G : va_G) (cA : zCA) (a : Nat) (c_a : Nat → Int32) (i : Int32) (v : Int32) : zCv l yX11_keepAt cX11_keepAt 3 none ({ frames := 0, cells := 0, slots := 0, locals := 0 }) G cA [.ref a, .int i, .int v] [(a, .inl (cA.1 0, 10, .inl c_a))] (S := (Nat → Int32)) (fun (u : (Nat → Int32)) => True) (fun (u : (Nat → Int32)) => [(a, .inl (cA.1 0, 10, .inl u))]) 0 0 := by
  refine z_start2v (own := RX11) (by decide) (Nat.le_of_ble_eq_true rfl) rfl ?_
  intro p e s m args below meth c A ls Q hx hb hml hts hown hK hE hT hP hD hS hA hl hret
  have hl : lv_has ls 3 [(0, .ref a), (1, .int i), (2, .int v)] := hl
  refine lv_iload_n hx hb dX11_keepAt_0 rfl (lv_at hl 1 rfl) ?_
  refine lv_if_lt (tgt := 14) hx hb dX11_keepAt_1 (by decide) (fun c_1 => ?_) (fun c_1 => ?_)
  · have b_2 := z_b3 c_1 (K := 0) (by decide +kernel)
    exact hret _ _ _ _ _ c_a [0] hP hD hS rfl (by decide) dX11_keepAt_14 trivial
  · have b_3 := z_b4 c_1 (K := 0) (by decide +kernel)
    refine lv_iload_n hx hb dX11_keepAt_4 rfl (lv_at hl 1 rfl) ?_
    refine lv_aload_n hx hb dX11_keepAt_5 rfl (lv_at hl 0 rfl) ?_
    refine va_alen (v := 10) hx hb hK hP 0 0 rfl rfl (show Int32.ofNat 10 = 10 by decide +kernel) dX11_keepAt_6 ?_
    refine lv_icmp_ge (tgt := 14) hx hb dX11_keepAt_7 (by decide) (fun c_4 => ?_) (fun c_4 => ?_)
    · have b_5 := z_b1 c_4 (K := 10) (by decide +kernel)
      exact hret _ _ _ _ _ c_a [0] hP hD hS rfl (by decide) dX11_keepAt_14 trivial
    · have b_6 := z_b2 c_4 (K := 10) (by decide +kernel)
      refine lv_aload_n hx hb dX11_keepAt_10 rfl (lv_at hl 0 rfl) ?_
      refine lv_iload_n hx hb dX11_keepAt_11 rfl (lv_at hl 1 rfl) ?_
      refine lv_iload_n hx hb dX11_keepAt_12 rfl (lv_at hl 2 rfl) ?_
      refine va_iast hx hb hK hP hD hS 0 0 rfl rfl (z_inN (by omega) (by omega)) dX11_keepAt_13 (fun H locs hP hD hS => ?_)
      have hP : va_P G vwCl [(a, .inl (cA.1 0, 10, .inl (upd c_a (i : Int32).toNatClampNeg v)))] H := hP
      have hD : va_D A [(a, .inl (cA.1 0, 10, .inl (upd c_a (i : Int32).toNatClampNeg v)))] := hD
      generalize (upd c_a (i : Int32).toNatClampNeg v) = g_7 at hP hD
      exact hret _ _ _ _ _ g_7 [0] hP hD hS rfl (by decide) dX11_keepAt_14 trivial
set_option maxHeartbeats 4000000 in
set_option maxRecDepth 100000 in
theorem d_at_12 (l : Launch) (G : va_G) (cA : zCA) (a : Nat) (c_a : Nat → Int32) (i : Int32) : zCi l yX11_at cX11_at 2 (some .int) ({ frames := 0, cells := 0, slots := 0, locals := 0 }) G cA [.ref a, .int i] [(a, .inl (cA.1 0, 12, .inl c_a))] (S := Unit) (fun (r : Int32) (u : Unit) => True) (fun (u : Unit) => [(a, .inl (cA.1 0, 12, .inl c_a))]) 0 0 := by
  refine z_start2i (own := RX11) (by decide) (Nat.le_of_ble_eq_true rfl) rfl ?_
  intro p e s m args below meth c A ls Q hx hb hml hts hown hK hE hT hP hD hS hA hl hret
  have hl : lv_has ls 2 [(0, .ref a), (1, .int i)] := hl
  refine lv_iload_n hx hb dX11_at_0 rfl (lv_at hl 1 rfl) ?_
  refine lv_if_lt (tgt := 16) hx hb dX11_at_1 (by decide) (fun c_1 => ?_) (fun c_1 => ?_)
  · have b_2 := z_b3 c_1 (K := 0) (by decide +kernel)
    refine lv_iconst (v := (-1)) hx hb dX11_at_16 (by decide) ?_
    exact hret _ _ _ _ _ _ () [0] hP hD hS rfl (by decide) dX11_at_17 trivial
  · have b_3 := z_b4 c_1 (K := 0) (by decide +kernel)
    refine lv_iload_n hx hb dX11_at_4 rfl (lv_at hl 1 rfl) ?_
    refine lv_aload_n hx hb dX11_at_5 rfl (lv_at hl 0 rfl) ?_
    refine va_alen (v := 12) hx hb hK hP 0 0 rfl rfl (show Int32.ofNat 12 = 12 by decide +kernel) dX11_at_6 ?_
    refine lv_icmp_ge (tgt := 16) hx hb dX11_at_7 (by decide) (fun c_4 => ?_) (fun c_4 => ?_)
    · have b_5 := z_b1 c_4 (K := 12) (by decide +kernel)
      refine lv_iconst (v := (-1)) hx hb dX11_at_16 (by decide) ?_
      exact hret _ _ _ _ _ _ () [0] hP hD hS rfl (by decide) dX11_at_17 trivial
    · have b_6 := z_b2 c_4 (K := 12) (by decide +kernel)
      refine lv_aload_n hx hb dX11_at_10 rfl (lv_at hl 0 rfl) ?_
      refine lv_iload_n hx hb dX11_at_11 rfl (lv_at hl 1 rfl) ?_
      refine va_iald hx hb hK hP 0 0 rfl rfl (z_inN (by omega) (by omega)) dX11_at_12 ?_
      refine lv_topi (fun x_7 _ => ?_)
      refine lv_goto (tgt := 17) hx hb dX11_at_13 (by decide) ?_
      exact hret _ _ _ _ _ _ () [0] hP hD hS rfl (by decide) dX11_at_17 trivial
set_option maxHeartbeats 4000000 in
set_option maxRecDepth 100000 in
theorem d_keepAt_12 (l : Launch) (G : va_G) (cA : zCA) (a : Nat) (c_a : Nat → Int32) (i : Int32) (v : Int32) : zCv l yX11_keepAt cX11_keepAt 3 none ({ frames := 0, cells := 0, slots := 0, locals := 0 }) G cA [.ref a, .int i, .int v] [(a, .inl (cA.1 0, 12, .inl c_a))] (S := (Nat → Int32)) (fun (u : (Nat → Int32)) => True) (fun (u : (Nat → Int32)) => [(a, .inl (cA.1 0, 12, .inl u))]) 0 0 := by
  refine z_start2v (own := RX11) (by decide) (Nat.le_of_ble_eq_true rfl) rfl ?_
  intro p e s m args below meth c A ls Q hx hb hml hts hown hK hE hT hP hD hS hA hl hret
  have hl : lv_has ls 3 [(0, .ref a), (1, .int i), (2, .int v)] := hl
  refine lv_iload_n hx hb dX11_keepAt_0 rfl (lv_at hl 1 rfl) ?_
  refine lv_if_lt (tgt := 14) hx hb dX11_keepAt_1 (by decide) (fun c_1 => ?_) (fun c_1 => ?_)
  · have b_2 := z_b3 c_1 (K := 0) (by decide +kernel)
    exact hret _ _ _ _ _ c_a [0] hP hD hS rfl (by decide) dX11_keepAt_14 trivial
  · have b_3 := z_b4 c_1 (K := 0) (by decide +kernel)
    refine lv_iload_n hx hb dX11_keepAt_4 rfl (lv_at hl 1 rfl) ?_
    refine lv_aload_n hx hb dX11_keepAt_5 rfl (lv_at hl 0 rfl) ?_
    refine va_alen (v := 12) hx hb hK hP 0 0 rfl rfl (show Int32.ofNat 12 = 12 by decide +kernel) dX11_keepAt_6 ?_
    refine lv_icmp_ge (tgt := 14) hx hb dX11_keepAt_7 (by decide) (fun c_4 => ?_) (fun c_4 => ?_)
    · have b_5 := z_b1 c_4 (K := 12) (by decide +kernel)
      exact hret _ _ _ _ _ c_a [0] hP hD hS rfl (by decide) dX11_keepAt_14 trivial
    · have b_6 := z_b2 c_4 (K := 12) (by decide +kernel)
      refine lv_aload_n hx hb dX11_keepAt_10 rfl (lv_at hl 0 rfl) ?_
      refine lv_iload_n hx hb dX11_keepAt_11 rfl (lv_at hl 1 rfl) ?_
      refine lv_iload_n hx hb dX11_keepAt_12 rfl (lv_at hl 2 rfl) ?_
      refine va_iast hx hb hK hP hD hS 0 0 rfl rfl (z_inN (by omega) (by omega)) dX11_keepAt_13 (fun H locs hP hD hS => ?_)
      have hP : va_P G vwCl [(a, .inl (cA.1 0, 12, .inl (upd c_a (i : Int32).toNatClampNeg v)))] H := hP
      have hD : va_D A [(a, .inl (cA.1 0, 12, .inl (upd c_a (i : Int32).toNatClampNeg v)))] := hD
      generalize (upd c_a (i : Int32).toNatClampNeg v) = g_7 at hP hD
      exact hret _ _ _ _ _ g_7 [0] hP hD hS rfl (by decide) dX11_keepAt_14 trivial
set_option maxHeartbeats 4000000 in
set_option maxRecDepth 100000 in
theorem d_at_20 (l : Launch) (G : va_G) (cA : zCA) (a : Nat) (c_a : Nat → Int32) (i : Int32) : zCi l yX11_at cX11_at 2 (some .int) ({ frames := 0, cells := 0, slots := 0, locals := 0 }) G cA [.ref a, .int i] [(a, .inl (cA.1 0, 20, .inl c_a))] (S := Unit) (fun (r : Int32) (u : Unit) => True) (fun (u : Unit) => [(a, .inl (cA.1 0, 20, .inl c_a))]) 0 0 := by
  refine z_start2i (own := RX11) (by decide) (Nat.le_of_ble_eq_true rfl) rfl ?_
  intro p e s m args below meth c A ls Q hx hb hml hts hown hK hE hT hP hD hS hA hl hret
  have hl : lv_has ls 2 [(0, .ref a), (1, .int i)] := hl
  refine lv_iload_n hx hb dX11_at_0 rfl (lv_at hl 1 rfl) ?_
  refine lv_if_lt (tgt := 16) hx hb dX11_at_1 (by decide) (fun c_1 => ?_) (fun c_1 => ?_)
  · have b_2 := z_b3 c_1 (K := 0) (by decide +kernel)
    refine lv_iconst (v := (-1)) hx hb dX11_at_16 (by decide) ?_
    exact hret _ _ _ _ _ _ () [0] hP hD hS rfl (by decide) dX11_at_17 trivial
  · have b_3 := z_b4 c_1 (K := 0) (by decide +kernel)
    refine lv_iload_n hx hb dX11_at_4 rfl (lv_at hl 1 rfl) ?_
    refine lv_aload_n hx hb dX11_at_5 rfl (lv_at hl 0 rfl) ?_
    refine va_alen (v := 20) hx hb hK hP 0 0 rfl rfl (show Int32.ofNat 20 = 20 by decide +kernel) dX11_at_6 ?_
    refine lv_icmp_ge (tgt := 16) hx hb dX11_at_7 (by decide) (fun c_4 => ?_) (fun c_4 => ?_)
    · have b_5 := z_b1 c_4 (K := 20) (by decide +kernel)
      refine lv_iconst (v := (-1)) hx hb dX11_at_16 (by decide) ?_
      exact hret _ _ _ _ _ _ () [0] hP hD hS rfl (by decide) dX11_at_17 trivial
    · have b_6 := z_b2 c_4 (K := 20) (by decide +kernel)
      refine lv_aload_n hx hb dX11_at_10 rfl (lv_at hl 0 rfl) ?_
      refine lv_iload_n hx hb dX11_at_11 rfl (lv_at hl 1 rfl) ?_
      refine va_iald hx hb hK hP 0 0 rfl rfl (z_inN (by omega) (by omega)) dX11_at_12 ?_
      refine lv_topi (fun x_7 _ => ?_)
      refine lv_goto (tgt := 17) hx hb dX11_at_13 (by decide) ?_
      exact hret _ _ _ _ _ _ () [0] hP hD hS rfl (by decide) dX11_at_17 trivial
set_option maxHeartbeats 4000000 in
set_option maxRecDepth 100000 in
theorem d_keepAt_20 (l : Launch) (G : va_G) (cA : zCA) (a : Nat) (c_a : Nat → Int32) (i : Int32) (v : Int32) : zCv l yX11_keepAt cX11_keepAt 3 none ({ frames := 0, cells := 0, slots := 0, locals := 0 }) G cA [.ref a, .int i, .int v] [(a, .inl (cA.1 0, 20, .inl c_a))] (S := (Nat → Int32)) (fun (u : (Nat → Int32)) => True) (fun (u : (Nat → Int32)) => [(a, .inl (cA.1 0, 20, .inl u))]) 0 0 := by
  refine z_start2v (own := RX11) (by decide) (Nat.le_of_ble_eq_true rfl) rfl ?_
  intro p e s m args below meth c A ls Q hx hb hml hts hown hK hE hT hP hD hS hA hl hret
  have hl : lv_has ls 3 [(0, .ref a), (1, .int i), (2, .int v)] := hl
  refine lv_iload_n hx hb dX11_keepAt_0 rfl (lv_at hl 1 rfl) ?_
  refine lv_if_lt (tgt := 14) hx hb dX11_keepAt_1 (by decide) (fun c_1 => ?_) (fun c_1 => ?_)
  · have b_2 := z_b3 c_1 (K := 0) (by decide +kernel)
    exact hret _ _ _ _ _ c_a [0] hP hD hS rfl (by decide) dX11_keepAt_14 trivial
  · have b_3 := z_b4 c_1 (K := 0) (by decide +kernel)
    refine lv_iload_n hx hb dX11_keepAt_4 rfl (lv_at hl 1 rfl) ?_
    refine lv_aload_n hx hb dX11_keepAt_5 rfl (lv_at hl 0 rfl) ?_
    refine va_alen (v := 20) hx hb hK hP 0 0 rfl rfl (show Int32.ofNat 20 = 20 by decide +kernel) dX11_keepAt_6 ?_
    refine lv_icmp_ge (tgt := 14) hx hb dX11_keepAt_7 (by decide) (fun c_4 => ?_) (fun c_4 => ?_)
    · have b_5 := z_b1 c_4 (K := 20) (by decide +kernel)
      exact hret _ _ _ _ _ c_a [0] hP hD hS rfl (by decide) dX11_keepAt_14 trivial
    · have b_6 := z_b2 c_4 (K := 20) (by decide +kernel)
      refine lv_aload_n hx hb dX11_keepAt_10 rfl (lv_at hl 0 rfl) ?_
      refine lv_iload_n hx hb dX11_keepAt_11 rfl (lv_at hl 1 rfl) ?_
      refine lv_iload_n hx hb dX11_keepAt_12 rfl (lv_at hl 2 rfl) ?_
      refine va_iast hx hb hK hP hD hS 0 0 rfl rfl (z_inN (by omega) (by omega)) dX11_keepAt_13 (fun H locs hP hD hS => ?_)
      have hP : va_P G vwCl [(a, .inl (cA.1 0, 20, .inl (upd c_a (i : Int32).toNatClampNeg v)))] H := hP
      have hD : va_D A [(a, .inl (cA.1 0, 20, .inl (upd c_a (i : Int32).toNatClampNeg v)))] := hD
      generalize (upd c_a (i : Int32).toNatClampNeg v) = g_7 at hP hD
      exact hret _ _ _ _ _ g_7 [0] hP hD hS rfl (by decide) dX11_keepAt_14 trivial
set_option maxHeartbeats 4000000 in
set_option maxRecDepth 100000 in
theorem d_at_30 (l : Launch) (G : va_G) (cA : zCA) (a : Nat) (c_a : Nat → Int32) (i : Int32) : zCi l yX11_at cX11_at 2 (some .int) ({ frames := 0, cells := 0, slots := 0, locals := 0 }) G cA [.ref a, .int i] [(a, .inl (cA.1 0, 30, .inl c_a))] (S := Unit) (fun (r : Int32) (u : Unit) => True) (fun (u : Unit) => [(a, .inl (cA.1 0, 30, .inl c_a))]) 0 0 := by
  refine z_start2i (own := RX11) (by decide) (Nat.le_of_ble_eq_true rfl) rfl ?_
  intro p e s m args below meth c A ls Q hx hb hml hts hown hK hE hT hP hD hS hA hl hret
  have hl : lv_has ls 2 [(0, .ref a), (1, .int i)] := hl
  refine lv_iload_n hx hb dX11_at_0 rfl (lv_at hl 1 rfl) ?_
  refine lv_if_lt (tgt := 16) hx hb dX11_at_1 (by decide) (fun c_1 => ?_) (fun c_1 => ?_)
  · have b_2 := z_b3 c_1 (K := 0) (by decide +kernel)
    refine lv_iconst (v := (-1)) hx hb dX11_at_16 (by decide) ?_
    exact hret _ _ _ _ _ _ () [0] hP hD hS rfl (by decide) dX11_at_17 trivial
  · have b_3 := z_b4 c_1 (K := 0) (by decide +kernel)
    refine lv_iload_n hx hb dX11_at_4 rfl (lv_at hl 1 rfl) ?_
    refine lv_aload_n hx hb dX11_at_5 rfl (lv_at hl 0 rfl) ?_
    refine va_alen (v := 30) hx hb hK hP 0 0 rfl rfl (show Int32.ofNat 30 = 30 by decide +kernel) dX11_at_6 ?_
    refine lv_icmp_ge (tgt := 16) hx hb dX11_at_7 (by decide) (fun c_4 => ?_) (fun c_4 => ?_)
    · have b_5 := z_b1 c_4 (K := 30) (by decide +kernel)
      refine lv_iconst (v := (-1)) hx hb dX11_at_16 (by decide) ?_
      exact hret _ _ _ _ _ _ () [0] hP hD hS rfl (by decide) dX11_at_17 trivial
    · have b_6 := z_b2 c_4 (K := 30) (by decide +kernel)
      refine lv_aload_n hx hb dX11_at_10 rfl (lv_at hl 0 rfl) ?_
      refine lv_iload_n hx hb dX11_at_11 rfl (lv_at hl 1 rfl) ?_
      refine va_iald hx hb hK hP 0 0 rfl rfl (z_inN (by omega) (by omega)) dX11_at_12 ?_
      refine lv_topi (fun x_7 _ => ?_)
      refine lv_goto (tgt := 17) hx hb dX11_at_13 (by decide) ?_
      exact hret _ _ _ _ _ _ () [0] hP hD hS rfl (by decide) dX11_at_17 trivial
set_option maxHeartbeats 4000000 in
set_option maxRecDepth 100000 in
theorem d_keepAt_30 (l : Launch) (G : va_G) (cA : zCA) (a : Nat) (c_a : Nat → Int32) (i : Int32) (v : Int32) : zCv l yX11_keepAt cX11_keepAt 3 none ({ frames := 0, cells := 0, slots := 0, locals := 0 }) G cA [.ref a, .int i, .int v] [(a, .inl (cA.1 0, 30, .inl c_a))] (S := (Nat → Int32)) (fun (u : (Nat → Int32)) => True) (fun (u : (Nat → Int32)) => [(a, .inl (cA.1 0, 30, .inl u))]) 0 0 := by
  refine z_start2v (own := RX11) (by decide) (Nat.le_of_ble_eq_true rfl) rfl ?_
  intro p e s m args below meth c A ls Q hx hb hml hts hown hK hE hT hP hD hS hA hl hret
  have hl : lv_has ls 3 [(0, .ref a), (1, .int i), (2, .int v)] := hl
  refine lv_iload_n hx hb dX11_keepAt_0 rfl (lv_at hl 1 rfl) ?_
  refine lv_if_lt (tgt := 14) hx hb dX11_keepAt_1 (by decide) (fun c_1 => ?_) (fun c_1 => ?_)
  · have b_2 := z_b3 c_1 (K := 0) (by decide +kernel)
    exact hret _ _ _ _ _ c_a [0] hP hD hS rfl (by decide) dX11_keepAt_14 trivial
  · have b_3 := z_b4 c_1 (K := 0) (by decide +kernel)
    refine lv_iload_n hx hb dX11_keepAt_4 rfl (lv_at hl 1 rfl) ?_
    refine lv_aload_n hx hb dX11_keepAt_5 rfl (lv_at hl 0 rfl) ?_
    refine va_alen (v := 30) hx hb hK hP 0 0 rfl rfl (show Int32.ofNat 30 = 30 by decide +kernel) dX11_keepAt_6 ?_
    refine lv_icmp_ge (tgt := 14) hx hb dX11_keepAt_7 (by decide) (fun c_4 => ?_) (fun c_4 => ?_)
    · have b_5 := z_b1 c_4 (K := 30) (by decide +kernel)
      exact hret _ _ _ _ _ c_a [0] hP hD hS rfl (by decide) dX11_keepAt_14 trivial
    · have b_6 := z_b2 c_4 (K := 30) (by decide +kernel)
      refine lv_aload_n hx hb dX11_keepAt_10 rfl (lv_at hl 0 rfl) ?_
      refine lv_iload_n hx hb dX11_keepAt_11 rfl (lv_at hl 1 rfl) ?_
      refine lv_iload_n hx hb dX11_keepAt_12 rfl (lv_at hl 2 rfl) ?_
      refine va_iast hx hb hK hP hD hS 0 0 rfl rfl (z_inN (by omega) (by omega)) dX11_keepAt_13 (fun H locs hP hD hS => ?_)
      have hP : va_P G vwCl [(a, .inl (cA.1 0, 30, .inl (upd c_a (i : Int32).toNatClampNeg v)))] H := hP
      have hD : va_D A [(a, .inl (cA.1 0, 30, .inl (upd c_a (i : Int32).toNatClampNeg v)))] := hD
      generalize (upd c_a (i : Int32).toNatClampNeg v) = g_7 at hP hD
      exact hret _ _ _ _ _ g_7 [0] hP hD hS rfl (by decide) dX11_keepAt_14 trivial
set_option maxHeartbeats 4000000 in
set_option maxRecDepth 100000 in
theorem d_at_48 (l : Launch) (G : va_G) (cA : zCA) (a : Nat) (c_a : Nat → Int32) (i : Int32) : zCi l yX11_at cX11_at 2 (some .int) ({ frames := 0, cells := 0, slots := 0, locals := 0 }) G cA [.ref a, .int i] [(a, .inl (cA.1 0, 48, .inl c_a))] (S := Unit) (fun (r : Int32) (u : Unit) => True) (fun (u : Unit) => [(a, .inl (cA.1 0, 48, .inl c_a))]) 0 0 := by
  refine z_start2i (own := RX11) (by decide) (Nat.le_of_ble_eq_true rfl) rfl ?_
  intro p e s m args below meth c A ls Q hx hb hml hts hown hK hE hT hP hD hS hA hl hret
  have hl : lv_has ls 2 [(0, .ref a), (1, .int i)] := hl
  refine lv_iload_n hx hb dX11_at_0 rfl (lv_at hl 1 rfl) ?_
  refine lv_if_lt (tgt := 16) hx hb dX11_at_1 (by decide) (fun c_1 => ?_) (fun c_1 => ?_)
  · have b_2 := z_b3 c_1 (K := 0) (by decide +kernel)
    refine lv_iconst (v := (-1)) hx hb dX11_at_16 (by decide) ?_
    exact hret _ _ _ _ _ _ () [0] hP hD hS rfl (by decide) dX11_at_17 trivial
  · have b_3 := z_b4 c_1 (K := 0) (by decide +kernel)
    refine lv_iload_n hx hb dX11_at_4 rfl (lv_at hl 1 rfl) ?_
    refine lv_aload_n hx hb dX11_at_5 rfl (lv_at hl 0 rfl) ?_
    refine va_alen (v := 48) hx hb hK hP 0 0 rfl rfl (show Int32.ofNat 48 = 48 by decide +kernel) dX11_at_6 ?_
    refine lv_icmp_ge (tgt := 16) hx hb dX11_at_7 (by decide) (fun c_4 => ?_) (fun c_4 => ?_)
    · have b_5 := z_b1 c_4 (K := 48) (by decide +kernel)
      refine lv_iconst (v := (-1)) hx hb dX11_at_16 (by decide) ?_
      exact hret _ _ _ _ _ _ () [0] hP hD hS rfl (by decide) dX11_at_17 trivial
    · have b_6 := z_b2 c_4 (K := 48) (by decide +kernel)
      refine lv_aload_n hx hb dX11_at_10 rfl (lv_at hl 0 rfl) ?_
      refine lv_iload_n hx hb dX11_at_11 rfl (lv_at hl 1 rfl) ?_
      refine va_iald hx hb hK hP 0 0 rfl rfl (z_inN (by omega) (by omega)) dX11_at_12 ?_
      refine lv_topi (fun x_7 _ => ?_)
      refine lv_goto (tgt := 17) hx hb dX11_at_13 (by decide) ?_
      exact hret _ _ _ _ _ _ () [0] hP hD hS rfl (by decide) dX11_at_17 trivial
set_option maxHeartbeats 4000000 in
set_option maxRecDepth 100000 in
theorem d_keepAt_48 (l : Launch) (G : va_G) (cA : zCA) (a : Nat) (c_a : Nat → Int32) (i : Int32) (v : Int32) : zCv l yX11_keepAt cX11_keepAt 3 none ({ frames := 0, cells := 0, slots := 0, locals := 0 }) G cA [.ref a, .int i, .int v] [(a, .inl (cA.1 0, 48, .inl c_a))] (S := (Nat → Int32)) (fun (u : (Nat → Int32)) => True) (fun (u : (Nat → Int32)) => [(a, .inl (cA.1 0, 48, .inl u))]) 0 0 := by
  refine z_start2v (own := RX11) (by decide) (Nat.le_of_ble_eq_true rfl) rfl ?_
  intro p e s m args below meth c A ls Q hx hb hml hts hown hK hE hT hP hD hS hA hl hret
  have hl : lv_has ls 3 [(0, .ref a), (1, .int i), (2, .int v)] := hl
  refine lv_iload_n hx hb dX11_keepAt_0 rfl (lv_at hl 1 rfl) ?_
  refine lv_if_lt (tgt := 14) hx hb dX11_keepAt_1 (by decide) (fun c_1 => ?_) (fun c_1 => ?_)
  · have b_2 := z_b3 c_1 (K := 0) (by decide +kernel)
    exact hret _ _ _ _ _ c_a [0] hP hD hS rfl (by decide) dX11_keepAt_14 trivial
  · have b_3 := z_b4 c_1 (K := 0) (by decide +kernel)
    refine lv_iload_n hx hb dX11_keepAt_4 rfl (lv_at hl 1 rfl) ?_
    refine lv_aload_n hx hb dX11_keepAt_5 rfl (lv_at hl 0 rfl) ?_
    refine va_alen (v := 48) hx hb hK hP 0 0 rfl rfl (show Int32.ofNat 48 = 48 by decide +kernel) dX11_keepAt_6 ?_
    refine lv_icmp_ge (tgt := 14) hx hb dX11_keepAt_7 (by decide) (fun c_4 => ?_) (fun c_4 => ?_)
    · have b_5 := z_b1 c_4 (K := 48) (by decide +kernel)
      exact hret _ _ _ _ _ c_a [0] hP hD hS rfl (by decide) dX11_keepAt_14 trivial
    · have b_6 := z_b2 c_4 (K := 48) (by decide +kernel)
      refine lv_aload_n hx hb dX11_keepAt_10 rfl (lv_at hl 0 rfl) ?_
      refine lv_iload_n hx hb dX11_keepAt_11 rfl (lv_at hl 1 rfl) ?_
      refine lv_iload_n hx hb dX11_keepAt_12 rfl (lv_at hl 2 rfl) ?_
      refine va_iast hx hb hK hP hD hS 0 0 rfl rfl (z_inN (by omega) (by omega)) dX11_keepAt_13 (fun H locs hP hD hS => ?_)
      have hP : va_P G vwCl [(a, .inl (cA.1 0, 48, .inl (upd c_a (i : Int32).toNatClampNeg v)))] H := hP
      have hD : va_D A [(a, .inl (cA.1 0, 48, .inl (upd c_a (i : Int32).toNatClampNeg v)))] := hD
      generalize (upd c_a (i : Int32).toNatClampNeg v) = g_7 at hP hD
      exact hret _ _ _ _ _ g_7 [0] hP hD hS rfl (by decide) dX11_keepAt_14 trivial
set_option maxHeartbeats 4000000 in
set_option maxRecDepth 100000 in
theorem d_at_60 (l : Launch) (G : va_G) (cA : zCA) (a : Nat) (c_a : Nat → Int32) (i : Int32) : zCi l yX11_at cX11_at 2 (some .int) ({ frames := 0, cells := 0, slots := 0, locals := 0 }) G cA [.ref a, .int i] [(a, .inl (cA.1 0, 60, .inl c_a))] (S := Unit) (fun (r : Int32) (u : Unit) => True) (fun (u : Unit) => [(a, .inl (cA.1 0, 60, .inl c_a))]) 0 0 := by
  refine z_start2i (own := RX11) (by decide) (Nat.le_of_ble_eq_true rfl) rfl ?_
  intro p e s m args below meth c A ls Q hx hb hml hts hown hK hE hT hP hD hS hA hl hret
  have hl : lv_has ls 2 [(0, .ref a), (1, .int i)] := hl
  refine lv_iload_n hx hb dX11_at_0 rfl (lv_at hl 1 rfl) ?_
  refine lv_if_lt (tgt := 16) hx hb dX11_at_1 (by decide) (fun c_1 => ?_) (fun c_1 => ?_)
  · have b_2 := z_b3 c_1 (K := 0) (by decide +kernel)
    refine lv_iconst (v := (-1)) hx hb dX11_at_16 (by decide) ?_
    exact hret _ _ _ _ _ _ () [0] hP hD hS rfl (by decide) dX11_at_17 trivial
  · have b_3 := z_b4 c_1 (K := 0) (by decide +kernel)
    refine lv_iload_n hx hb dX11_at_4 rfl (lv_at hl 1 rfl) ?_
    refine lv_aload_n hx hb dX11_at_5 rfl (lv_at hl 0 rfl) ?_
    refine va_alen (v := 60) hx hb hK hP 0 0 rfl rfl (show Int32.ofNat 60 = 60 by decide +kernel) dX11_at_6 ?_
    refine lv_icmp_ge (tgt := 16) hx hb dX11_at_7 (by decide) (fun c_4 => ?_) (fun c_4 => ?_)
    · have b_5 := z_b1 c_4 (K := 60) (by decide +kernel)
      refine lv_iconst (v := (-1)) hx hb dX11_at_16 (by decide) ?_
      exact hret _ _ _ _ _ _ () [0] hP hD hS rfl (by decide) dX11_at_17 trivial
    · have b_6 := z_b2 c_4 (K := 60) (by decide +kernel)
      refine lv_aload_n hx hb dX11_at_10 rfl (lv_at hl 0 rfl) ?_
      refine lv_iload_n hx hb dX11_at_11 rfl (lv_at hl 1 rfl) ?_
      refine va_iald hx hb hK hP 0 0 rfl rfl (z_inN (by omega) (by omega)) dX11_at_12 ?_
      refine lv_topi (fun x_7 _ => ?_)
      refine lv_goto (tgt := 17) hx hb dX11_at_13 (by decide) ?_
      exact hret _ _ _ _ _ _ () [0] hP hD hS rfl (by decide) dX11_at_17 trivial
set_option maxHeartbeats 4000000 in
set_option maxRecDepth 100000 in
theorem d_keepAt_60 (l : Launch) (G : va_G) (cA : zCA) (a : Nat) (c_a : Nat → Int32) (i : Int32) (v : Int32) : zCv l yX11_keepAt cX11_keepAt 3 none ({ frames := 0, cells := 0, slots := 0, locals := 0 }) G cA [.ref a, .int i, .int v] [(a, .inl (cA.1 0, 60, .inl c_a))] (S := (Nat → Int32)) (fun (u : (Nat → Int32)) => True) (fun (u : (Nat → Int32)) => [(a, .inl (cA.1 0, 60, .inl u))]) 0 0 := by
  refine z_start2v (own := RX11) (by decide) (Nat.le_of_ble_eq_true rfl) rfl ?_
  intro p e s m args below meth c A ls Q hx hb hml hts hown hK hE hT hP hD hS hA hl hret
  have hl : lv_has ls 3 [(0, .ref a), (1, .int i), (2, .int v)] := hl
  refine lv_iload_n hx hb dX11_keepAt_0 rfl (lv_at hl 1 rfl) ?_
  refine lv_if_lt (tgt := 14) hx hb dX11_keepAt_1 (by decide) (fun c_1 => ?_) (fun c_1 => ?_)
  · have b_2 := z_b3 c_1 (K := 0) (by decide +kernel)
    exact hret _ _ _ _ _ c_a [0] hP hD hS rfl (by decide) dX11_keepAt_14 trivial
  · have b_3 := z_b4 c_1 (K := 0) (by decide +kernel)
    refine lv_iload_n hx hb dX11_keepAt_4 rfl (lv_at hl 1 rfl) ?_
    refine lv_aload_n hx hb dX11_keepAt_5 rfl (lv_at hl 0 rfl) ?_
    refine va_alen (v := 60) hx hb hK hP 0 0 rfl rfl (show Int32.ofNat 60 = 60 by decide +kernel) dX11_keepAt_6 ?_
    refine lv_icmp_ge (tgt := 14) hx hb dX11_keepAt_7 (by decide) (fun c_4 => ?_) (fun c_4 => ?_)
    · have b_5 := z_b1 c_4 (K := 60) (by decide +kernel)
      exact hret _ _ _ _ _ c_a [0] hP hD hS rfl (by decide) dX11_keepAt_14 trivial
    · have b_6 := z_b2 c_4 (K := 60) (by decide +kernel)
      refine lv_aload_n hx hb dX11_keepAt_10 rfl (lv_at hl 0 rfl) ?_
      refine lv_iload_n hx hb dX11_keepAt_11 rfl (lv_at hl 1 rfl) ?_
      refine lv_iload_n hx hb dX11_keepAt_12 rfl (lv_at hl 2 rfl) ?_
      refine va_iast hx hb hK hP hD hS 0 0 rfl rfl (z_inN (by omega) (by omega)) dX11_keepAt_13 (fun H locs hP hD hS => ?_)
      have hP : va_P G vwCl [(a, .inl (cA.1 0, 60, .inl (upd c_a (i : Int32).toNatClampNeg v)))] H := hP
      have hD : va_D A [(a, .inl (cA.1 0, 60, .inl (upd c_a (i : Int32).toNatClampNeg v)))] := hD
      generalize (upd c_a (i : Int32).toNatClampNeg v) = g_7 at hP hD
      exact hret _ _ _ _ _ g_7 [0] hP hD hS rfl (by decide) dX11_keepAt_14 trivial
set_option maxHeartbeats 4000000 in
set_option maxRecDepth 100000 in
theorem d_longAt_3 (l : Launch) (G : va_G) (cA : zCA) (a : Nat) (c_a : Nat → Int64) (i : Int32) : zCl l yX11_longAt cX11_longAt 2 (some .long) ({ frames := 0, cells := 0, slots := 0, locals := 0 }) G cA [.ref a, .int i] [(a, .inl (cA.1 1, 3, .inr (.inl c_a)))] (S := Unit) (fun (r : Int64) (u : Unit) => True) (fun (u : Unit) => [(a, .inl (cA.1 1, 3, .inr (.inl c_a)))]) 0 0 := by
  refine z_start2l (own := RX11) (by decide) (Nat.le_of_ble_eq_true rfl) rfl ?_
  intro p e s m args below meth c A ls Q hx hb hml hts hown hK hE hT hP hD hS hA hl hret
  have hl : lv_has ls 2 [(0, .ref a), (1, .int i)] := hl
  refine lv_iload_n hx hb dX11_longAt_0 rfl (lv_at hl 1 rfl) ?_
  refine lv_if_lt (tgt := 16) hx hb dX11_longAt_1 (by decide) (fun c_1 => ?_) (fun c_1 => ?_)
  · have b_2 := z_b3 c_1 (K := 0) (by decide +kernel)
    refine lv_lconst (v := 0) hx hb dX11_longAt_16 (by decide) ?_
    exact hret _ _ _ _ _ _ () [0] hP hD hS rfl (by decide) dX11_longAt_17 trivial
  · have b_3 := z_b4 c_1 (K := 0) (by decide +kernel)
    refine lv_iload_n hx hb dX11_longAt_4 rfl (lv_at hl 1 rfl) ?_
    refine lv_aload_n hx hb dX11_longAt_5 rfl (lv_at hl 0 rfl) ?_
    refine va_alen (v := 3) hx hb hK hP 0 1 rfl rfl (show Int32.ofNat 3 = 3 by decide +kernel) dX11_longAt_6 ?_
    refine lv_icmp_ge (tgt := 16) hx hb dX11_longAt_7 (by decide) (fun c_4 => ?_) (fun c_4 => ?_)
    · have b_5 := z_b1 c_4 (K := 3) (by decide +kernel)
      refine lv_lconst (v := 0) hx hb dX11_longAt_16 (by decide) ?_
      exact hret _ _ _ _ _ _ () [0] hP hD hS rfl (by decide) dX11_longAt_17 trivial
    · have b_6 := z_b2 c_4 (K := 3) (by decide +kernel)
      refine lv_aload_n hx hb dX11_longAt_10 rfl (lv_at hl 0 rfl) ?_
      refine lv_iload_n hx hb dX11_longAt_11 rfl (lv_at hl 1 rfl) ?_
      refine va_lald hx hb hK hP 0 1 rfl rfl (z_inN (by omega) (by omega)) dX11_longAt_12 ?_
      refine lv_topl (fun x_7 _ => ?_)
      refine lv_goto (tgt := 17) hx hb dX11_longAt_13 (by decide) ?_
      exact hret _ _ _ _ _ _ () [0] hP hD hS rfl (by decide) dX11_longAt_17 trivial
set_option maxHeartbeats 4000000 in
set_option maxRecDepth 100000 in
theorem d_keepLongAt_3 (l : Launch) (G : va_G) (cA : zCA) (a : Nat) (c_a : Nat → Int64) (i : Int32) (v : Int64) : zCv l yX11_keepLongAt cX11_keepLongAt 4 none ({ frames := 0, cells := 0, slots := 0, locals := 0 }) G cA [.ref a, .int i, .long v] [(a, .inl (cA.1 1, 3, .inr (.inl c_a)))] (S := (Nat → Int64)) (fun (u : (Nat → Int64)) => True) (fun (u : (Nat → Int64)) => [(a, .inl (cA.1 1, 3, .inr (.inl u)))]) 0 0 := by
  refine z_start2v (own := RX11) (by decide) (Nat.le_of_ble_eq_true rfl) rfl ?_
  intro p e s m args below meth c A ls Q hx hb hml hts hown hK hE hT hP hD hS hA hl hret
  have hl : lv_has ls 4 [(0, .ref a), (1, .int i), (2, .long v)] := hl
  refine lv_iload_n hx hb dX11_keepLongAt_0 rfl (lv_at hl 1 rfl) ?_
  refine lv_if_lt (tgt := 14) hx hb dX11_keepLongAt_1 (by decide) (fun c_1 => ?_) (fun c_1 => ?_)
  · have b_2 := z_b3 c_1 (K := 0) (by decide +kernel)
    exact hret _ _ _ _ _ c_a [0] hP hD hS rfl (by decide) dX11_keepLongAt_14 trivial
  · have b_3 := z_b4 c_1 (K := 0) (by decide +kernel)
    refine lv_iload_n hx hb dX11_keepLongAt_4 rfl (lv_at hl 1 rfl) ?_
    refine lv_aload_n hx hb dX11_keepLongAt_5 rfl (lv_at hl 0 rfl) ?_
    refine va_alen (v := 3) hx hb hK hP 0 1 rfl rfl (show Int32.ofNat 3 = 3 by decide +kernel) dX11_keepLongAt_6 ?_
    refine lv_icmp_ge (tgt := 14) hx hb dX11_keepLongAt_7 (by decide) (fun c_4 => ?_) (fun c_4 => ?_)
    · have b_5 := z_b1 c_4 (K := 3) (by decide +kernel)
      exact hret _ _ _ _ _ c_a [0] hP hD hS rfl (by decide) dX11_keepLongAt_14 trivial
    · have b_6 := z_b2 c_4 (K := 3) (by decide +kernel)
      refine lv_aload_n hx hb dX11_keepLongAt_10 rfl (lv_at hl 0 rfl) ?_
      refine lv_iload_n hx hb dX11_keepLongAt_11 rfl (lv_at hl 1 rfl) ?_
      refine lv_lload_n hx hb dX11_keepLongAt_12 rfl (lv_at hl 2 rfl) ?_
      refine va_last hx hb hK hP hD hS 0 1 rfl rfl (z_inN (by omega) (by omega)) dX11_keepLongAt_13 (fun H locs hP hD hS => ?_)
      have hP : va_P G vwCl [(a, .inl (cA.1 1, 3, .inr (.inl (vp_updL c_a (i : Int32).toNatClampNeg v))))] H := hP
      have hD : va_D A [(a, .inl (cA.1 1, 3, .inr (.inl (vp_updL c_a (i : Int32).toNatClampNeg v))))] := hD
      generalize (vp_updL c_a (i : Int32).toNatClampNeg v) = g_7 at hP hD
      exact hret _ _ _ _ _ g_7 [0] hP hD hS rfl (by decide) dX11_keepLongAt_14 trivial
set_option maxHeartbeats 4000000 in
set_option maxRecDepth 100000 in
theorem d_longAt_5 (l : Launch) (G : va_G) (cA : zCA) (a : Nat) (c_a : Nat → Int64) (i : Int32) : zCl l yX11_longAt cX11_longAt 2 (some .long) ({ frames := 0, cells := 0, slots := 0, locals := 0 }) G cA [.ref a, .int i] [(a, .inl (cA.1 1, 5, .inr (.inl c_a)))] (S := Unit) (fun (r : Int64) (u : Unit) => True) (fun (u : Unit) => [(a, .inl (cA.1 1, 5, .inr (.inl c_a)))]) 0 0 := by
  refine z_start2l (own := RX11) (by decide) (Nat.le_of_ble_eq_true rfl) rfl ?_
  intro p e s m args below meth c A ls Q hx hb hml hts hown hK hE hT hP hD hS hA hl hret
  have hl : lv_has ls 2 [(0, .ref a), (1, .int i)] := hl
  refine lv_iload_n hx hb dX11_longAt_0 rfl (lv_at hl 1 rfl) ?_
  refine lv_if_lt (tgt := 16) hx hb dX11_longAt_1 (by decide) (fun c_1 => ?_) (fun c_1 => ?_)
  · have b_2 := z_b3 c_1 (K := 0) (by decide +kernel)
    refine lv_lconst (v := 0) hx hb dX11_longAt_16 (by decide) ?_
    exact hret _ _ _ _ _ _ () [0] hP hD hS rfl (by decide) dX11_longAt_17 trivial
  · have b_3 := z_b4 c_1 (K := 0) (by decide +kernel)
    refine lv_iload_n hx hb dX11_longAt_4 rfl (lv_at hl 1 rfl) ?_
    refine lv_aload_n hx hb dX11_longAt_5 rfl (lv_at hl 0 rfl) ?_
    refine va_alen (v := 5) hx hb hK hP 0 1 rfl rfl (show Int32.ofNat 5 = 5 by decide +kernel) dX11_longAt_6 ?_
    refine lv_icmp_ge (tgt := 16) hx hb dX11_longAt_7 (by decide) (fun c_4 => ?_) (fun c_4 => ?_)
    · have b_5 := z_b1 c_4 (K := 5) (by decide +kernel)
      refine lv_lconst (v := 0) hx hb dX11_longAt_16 (by decide) ?_
      exact hret _ _ _ _ _ _ () [0] hP hD hS rfl (by decide) dX11_longAt_17 trivial
    · have b_6 := z_b2 c_4 (K := 5) (by decide +kernel)
      refine lv_aload_n hx hb dX11_longAt_10 rfl (lv_at hl 0 rfl) ?_
      refine lv_iload_n hx hb dX11_longAt_11 rfl (lv_at hl 1 rfl) ?_
      refine va_lald hx hb hK hP 0 1 rfl rfl (z_inN (by omega) (by omega)) dX11_longAt_12 ?_
      refine lv_topl (fun x_7 _ => ?_)
      refine lv_goto (tgt := 17) hx hb dX11_longAt_13 (by decide) ?_
      exact hret _ _ _ _ _ _ () [0] hP hD hS rfl (by decide) dX11_longAt_17 trivial
set_option maxHeartbeats 4000000 in
set_option maxRecDepth 100000 in
theorem d_keepLongAt_5 (l : Launch) (G : va_G) (cA : zCA) (a : Nat) (c_a : Nat → Int64) (i : Int32) (v : Int64) : zCv l yX11_keepLongAt cX11_keepLongAt 4 none ({ frames := 0, cells := 0, slots := 0, locals := 0 }) G cA [.ref a, .int i, .long v] [(a, .inl (cA.1 1, 5, .inr (.inl c_a)))] (S := (Nat → Int64)) (fun (u : (Nat → Int64)) => True) (fun (u : (Nat → Int64)) => [(a, .inl (cA.1 1, 5, .inr (.inl u)))]) 0 0 := by
  refine z_start2v (own := RX11) (by decide) (Nat.le_of_ble_eq_true rfl) rfl ?_
  intro p e s m args below meth c A ls Q hx hb hml hts hown hK hE hT hP hD hS hA hl hret
  have hl : lv_has ls 4 [(0, .ref a), (1, .int i), (2, .long v)] := hl
  refine lv_iload_n hx hb dX11_keepLongAt_0 rfl (lv_at hl 1 rfl) ?_
  refine lv_if_lt (tgt := 14) hx hb dX11_keepLongAt_1 (by decide) (fun c_1 => ?_) (fun c_1 => ?_)
  · have b_2 := z_b3 c_1 (K := 0) (by decide +kernel)
    exact hret _ _ _ _ _ c_a [0] hP hD hS rfl (by decide) dX11_keepLongAt_14 trivial
  · have b_3 := z_b4 c_1 (K := 0) (by decide +kernel)
    refine lv_iload_n hx hb dX11_keepLongAt_4 rfl (lv_at hl 1 rfl) ?_
    refine lv_aload_n hx hb dX11_keepLongAt_5 rfl (lv_at hl 0 rfl) ?_
    refine va_alen (v := 5) hx hb hK hP 0 1 rfl rfl (show Int32.ofNat 5 = 5 by decide +kernel) dX11_keepLongAt_6 ?_
    refine lv_icmp_ge (tgt := 14) hx hb dX11_keepLongAt_7 (by decide) (fun c_4 => ?_) (fun c_4 => ?_)
    · have b_5 := z_b1 c_4 (K := 5) (by decide +kernel)
      exact hret _ _ _ _ _ c_a [0] hP hD hS rfl (by decide) dX11_keepLongAt_14 trivial
    · have b_6 := z_b2 c_4 (K := 5) (by decide +kernel)
      refine lv_aload_n hx hb dX11_keepLongAt_10 rfl (lv_at hl 0 rfl) ?_
      refine lv_iload_n hx hb dX11_keepLongAt_11 rfl (lv_at hl 1 rfl) ?_
      refine lv_lload_n hx hb dX11_keepLongAt_12 rfl (lv_at hl 2 rfl) ?_
      refine va_last hx hb hK hP hD hS 0 1 rfl rfl (z_inN (by omega) (by omega)) dX11_keepLongAt_13 (fun H locs hP hD hS => ?_)
      have hP : va_P G vwCl [(a, .inl (cA.1 1, 5, .inr (.inl (vp_updL c_a (i : Int32).toNatClampNeg v))))] H := hP
      have hD : va_D A [(a, .inl (cA.1 1, 5, .inr (.inl (vp_updL c_a (i : Int32).toNatClampNeg v))))] := hD
      generalize (vp_updL c_a (i : Int32).toNatClampNeg v) = g_7 at hP hD
      exact hret _ _ _ _ _ g_7 [0] hP hD hS rfl (by decide) dX11_keepLongAt_14 trivial
set_option maxHeartbeats 4000000 in
set_option maxRecDepth 100000 in
theorem d_longAt_10 (l : Launch) (G : va_G) (cA : zCA) (a : Nat) (c_a : Nat → Int64) (i : Int32) : zCl l yX11_longAt cX11_longAt 2 (some .long) ({ frames := 0, cells := 0, slots := 0, locals := 0 }) G cA [.ref a, .int i] [(a, .inl (cA.1 1, 10, .inr (.inl c_a)))] (S := Unit) (fun (r : Int64) (u : Unit) => True) (fun (u : Unit) => [(a, .inl (cA.1 1, 10, .inr (.inl c_a)))]) 0 0 := by
  refine z_start2l (own := RX11) (by decide) (Nat.le_of_ble_eq_true rfl) rfl ?_
  intro p e s m args below meth c A ls Q hx hb hml hts hown hK hE hT hP hD hS hA hl hret
  have hl : lv_has ls 2 [(0, .ref a), (1, .int i)] := hl
  refine lv_iload_n hx hb dX11_longAt_0 rfl (lv_at hl 1 rfl) ?_
  refine lv_if_lt (tgt := 16) hx hb dX11_longAt_1 (by decide) (fun c_1 => ?_) (fun c_1 => ?_)
  · have b_2 := z_b3 c_1 (K := 0) (by decide +kernel)
    refine lv_lconst (v := 0) hx hb dX11_longAt_16 (by decide) ?_
    exact hret _ _ _ _ _ _ () [0] hP hD hS rfl (by decide) dX11_longAt_17 trivial
  · have b_3 := z_b4 c_1 (K := 0) (by decide +kernel)
    refine lv_iload_n hx hb dX11_longAt_4 rfl (lv_at hl 1 rfl) ?_
    refine lv_aload_n hx hb dX11_longAt_5 rfl (lv_at hl 0 rfl) ?_
    refine va_alen (v := 10) hx hb hK hP 0 1 rfl rfl (show Int32.ofNat 10 = 10 by decide +kernel) dX11_longAt_6 ?_
    refine lv_icmp_ge (tgt := 16) hx hb dX11_longAt_7 (by decide) (fun c_4 => ?_) (fun c_4 => ?_)
    · have b_5 := z_b1 c_4 (K := 10) (by decide +kernel)
      refine lv_lconst (v := 0) hx hb dX11_longAt_16 (by decide) ?_
      exact hret _ _ _ _ _ _ () [0] hP hD hS rfl (by decide) dX11_longAt_17 trivial
    · have b_6 := z_b2 c_4 (K := 10) (by decide +kernel)
      refine lv_aload_n hx hb dX11_longAt_10 rfl (lv_at hl 0 rfl) ?_
      refine lv_iload_n hx hb dX11_longAt_11 rfl (lv_at hl 1 rfl) ?_
      refine va_lald hx hb hK hP 0 1 rfl rfl (z_inN (by omega) (by omega)) dX11_longAt_12 ?_
      refine lv_topl (fun x_7 _ => ?_)
      refine lv_goto (tgt := 17) hx hb dX11_longAt_13 (by decide) ?_
      exact hret _ _ _ _ _ _ () [0] hP hD hS rfl (by decide) dX11_longAt_17 trivial
