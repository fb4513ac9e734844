set_option maxHeartbeats 4000000 in
set_option maxRecDepth 100000 in
theorem d_at_3 (l : Launch) (G : va_G) (cA : zCA) (a : Nat) (c_a : Nat → Int32) (i : Int32) : zCi l yX11_at cX11_at 2 (some .int) ({ frames := 0, cells := 0, slots := 0, locals := 0 }) G cA [.ref a, .int i] [(a, .inl (cA.1 0, 3, .inl c_a))] (S := Unit) (fun (r : Int32) (u : Unit) => r.toInt = zat 3 c_a i.toInt) (fun (u : Unit) => [(a, .inl (cA.1 0, 3, .inl c_a))]) 0 0 := by
  refine z_start2i (own := RX11) (by decide) (Nat.le_of_ble_eq_true rfl) rfl ?_
  intro p e s m args below meth c A ls Q hx hb hml hts hown hK hE hT hP hD hS hA hl hret
  have hl : lv_has ls 2 [(0, .ref a), (1, .int i)] := hl
  refine lv_iload_n hx hb dX11_at_0 rfl (lv_at hl 1 rfl) ?_
  refine lv_if_lt (tgt := 16) hx hb dX11_at_1 (by decide) (fun c_1 => ?_) (fun c_1 => ?_)
  · have b_2 := z_b3 c_1 (K := 0) (by decide +kernel)
    refine lv_iconst (v := (-1)) hx hb dX11_at_16 (by decide) ?_
    exact hret _ _ _ _ _ _ () [0] hP hD hS rfl (by decide) dX11_at_17 (z_at0 (by omega))
  · have b_3 := z_b4 c_1 (K := 0) (by decide +kernel)
    refine lv_iload_n hx hb dX11_at_4 rfl (lv_at hl 1 rfl) ?_
    refine lv_aload_n hx hb dX11_at_5 rfl (lv_at hl 0 rfl) ?_
    refine va_alen (v := 3) hx hb hK hP 0 0 rfl rfl (show Int32.ofNat 3 = 3 by decide +kernel) dX11_at_6 ?_
    refine lv_icmp_ge (tgt := 16) hx hb dX11_at_7 (by decide) (fun c_4 => ?_) (fun c_4 => ?_)
    · have b_5 := z_b1 c_4 (K := 3) (by decide +kernel)
      refine lv_iconst (v := (-1)) hx hb dX11_at_16 (by decide) ?_
      exact hret _ _ _ _ _ _ () [0] hP hD hS rfl (by decide) dX11_at_17 (z_at0 (by omega))
    · have b_6 := z_b2 c_4 (K := 3) (by decide +kernel)
      refine lv_aload_n hx hb dX11_at_10 rfl (lv_at hl 0 rfl) ?_
      refine lv_iload_n hx hb dX11_at_11 rfl (lv_at hl 1 rfl) ?_
      refine va_iald hx hb hK hP 0 0 rfl rfl (z_inN (by omega) (by omega)) dX11_at_12 ?_
      refine lv_goto (tgt := 17) hx hb dX11_at_13 (by decide) ?_
      exact hret _ _ _ _ _ _ () [0] hP hD hS rfl (by decide) dX11_at_17 (z_at1 (by omega) (by omega))
set_option maxHeartbeats 4000000 in
set_option maxRecDepth 100000 in
theorem d_keepAt_3 (l : Launch) (G : va_G) (cA : zCA) (a : Nat) (c_a : Nat → Int32) (i : Int32) (v : Int32) : zCv l yX11_keepAt cX11_keepAt 3 none ({ frames := 0, cells := 0, slots := 0, locals := 0 }) G cA [.ref a, .int i, .int v] [(a, .inl (cA.1 0, 3, .inl c_a))] (S := (Nat → Int32)) (fun (u : (Nat → Int32)) => u = c_a ∨ (0 ≤ i.toInt ∧ i.toInt < 3 ∧ u = upd c_a i.toNatClampNeg v)) (fun (u : (Nat → Int32)) => [(a, .inl (cA.1 0, 3, .inl u))]) 0 0 := by
  refine z_start2v (own := RX11) (by decide) (Nat.le_of_ble_eq_true rfl) rfl ?_
  intro p e s m args below meth c A ls Q hx hb hml hts hown hK hE hT hP hD hS hA hl hret
  have hl : lv_has ls 3 [(0, .ref a), (1, .int i), (2, .int v)] := hl
  refine lv_iload_n hx hb dX11_keepAt_0 rfl (lv_at hl 1 rfl) ?_
  refine lv_if_lt (tgt := 14) hx hb dX11_keepAt_1 (by decide) (fun c_1 => ?_) (fun c_1 => ?_)
  · have b_2 := z_b3 c_1 (K := 0) (by decide +kernel)
    exact hret _ _ _ _ _ c_a [0] hP hD hS rfl (by decide) dX11_keepAt_14 (Or.inl rfl)
  · have b_3 := z_b4 c_1 (K := 0) (by decide +kernel)
    refine lv_iload_n hx hb dX11_keepAt_4 rfl (lv_at hl 1 rfl) ?_
    refine lv_aload_n hx hb dX11_keepAt_5 rfl (lv_at hl 0 rfl) ?_
    refine va_alen (v := 3) hx hb hK hP 0 0 rfl rfl (show Int32.ofNat 3 = 3 by decide +kernel) dX11_keepAt_6 ?_
    refine lv_icmp_ge (tgt := 14) hx hb dX11_keepAt_7 (by decide) (fun c_4 => ?_) (fun c_4 => ?_)
    · have b_5 := z_b1 c_4 (K := 3) (by decide +kernel)
      exact hret _ _ _ _ _ c_a [0] hP hD hS rfl (by decide) dX11_keepAt_14 (Or.inl rfl)
    · have b_6 := z_b2 c_4 (K := 3) (by decide +kernel)
      refine lv_aload_n hx hb dX11_keepAt_10 rfl (lv_at hl 0 rfl) ?_
      refine lv_iload_n hx hb dX11_keepAt_11 rfl (lv_at hl 1 rfl) ?_
      refine lv_iload_n hx hb dX11_keepAt_12 rfl (lv_at hl 2 rfl) ?_
      refine va_iast hx hb hK hP hD hS 0 0 rfl rfl (z_inN (by omega) (by omega)) dX11_keepAt_13 (fun H locs hP hD hS => ?_)
      have hP : va_P G vwCl [(a, .inl (cA.1 0, 3, .inl (upd c_a (i : Int32).toNatClampNeg v)))] H := hP
      have hD : va_D A [(a, .inl (cA.1 0, 3, .inl (upd c_a (i : Int32).toNatClampNeg v)))] := hD
      generalize hg_g_7 : (upd c_a (i : Int32).toNatClampNeg v) = g_7 at hP hD
      exact hret _ _ _ _ _ g_7 [0] hP hD hS rfl (by decide) dX11_keepAt_14 (Or.inr ⟨by omega, by omega, hg_g_7.symm⟩)
set_option maxHeartbeats 4000000 in
set_option maxRecDepth 100000 in
theorem d_at_4 (l : Launch) (G : va_G) (cA : zCA) (a : Nat) (c_a : Nat → Int32) (i : Int32) : zCi l yX11_at cX11_at 2 (some .int) ({ frames := 0, cells := 0, slots := 0, locals := 0 }) G cA [.ref a, .int i] [(a, .inl (cA.1 0, 4, .inl c_a))] (S := Unit) (fun (r : Int32) (u : Unit) => True) (fun (u : Unit) => [(a, .inl (cA.1 0, 4, .inl c_a))]) 0 0 := by
  refine z_start2i (own := RX11) (by decide) (Nat.le_of_ble_eq_true rfl) rfl ?_
  intro p e s m args below meth c A ls Q hx hb hml hts hown hK hE hT hP hD hS hA hl hret
  have hl : lv_has ls 2 [(0, .ref a), (1, .int i)] := hl
  refine lv_iload_n hx hb dX11_at_0 rfl (lv_at hl 1 rfl) ?_
  refine lv_if_lt (tgt := 16) hx hb dX11_at_1 (by decide) (fun c_1 => ?_) (fun c_1 => ?_)
  · have b_2 := z_b3 c_1 (K := 0) (by decide +kernel)
    refine lv_iconst (v := (-1)) hx hb dX11_at_16 (by decide) ?_
    exact hret _ _ _ _ _ _ () [0] hP hD hS rfl (by decide) dX11_at_17 trivial
  · have b_3 := z_b4 c_1 (K := 0) (by decide +kernel)
    refine lv_iload_n hx hb dX11_at_4 rfl (lv_at hl 1 rfl) ?_
    refine lv_aload_n hx hb dX11_at_5 rfl (lv_at hl 0 rfl) ?_
    refine va_alen (v := 4) hx hb hK hP 0 0 rfl rfl (show Int32.ofNat 4 = 4 by decide +kernel) dX11_at_6 ?_
    refine lv_icmp_ge (tgt := 16) hx hb dX11_at_7 (by decide) (fun c_4 => ?_) (fun c_4 => ?_)
    · have b_5 := z_b1 c_4 (K := 4) (by decide +kernel)
      refine lv_iconst (v := (-1)) hx hb dX11_at_16 (by decide) ?_
      exact hret _ _ _ _ _ _ () [0] hP hD hS rfl (by decide) dX11_at_17 trivial
    · have b_6 := z_b2 c_4 (K := 4) (by decide +kernel)
      refine lv_aload_n hx hb dX11_at_10 rfl (lv_at hl 0 rfl) ?_
      refine lv_iload_n hx hb dX11_at_11 rfl (lv_at hl 1 rfl) ?_
      refine va_iald hx hb hK hP 0 0 rfl rfl (z_inN (by omega) (by omega)) dX11_at_12 ?_
      refine lv_topi (fun x_7 _ => ?_)
      refine lv_goto (tgt := 17) hx hb dX11_at_13 (by decide) ?_
      exact hret _ _ _ _ _ _ () [0] hP hD hS rfl (by decide) dX11_at_17 trivial
set_option maxHeartbeats 4000000 in
set_option maxRecDepth 100000 in
theorem d_keepAt_4 (l : Launch) (G : va_G) (cA : zCA) (a : Nat) (c_a : Nat → Int32) (i : Int32) (v : Int32) : zCv l yX11_keepAt cX11_keepAt 3 none ({ frames := 0, cells := 0, slots := 0, locals := 0 }) G cA [.ref a, .int i, .int v] [(a, .inl (cA.1 0, 4, .inl c_a))] (S := (Nat → Int32)) (fun (u : (Nat → Int32)) => True) (fun (u : (Nat → Int32)) => [(a, .inl (cA.1 0, 4, .inl u))]) 0 0 := by
  refine z_start2v (own := RX11) (by decide) (Nat.le_of_ble_eq_true rfl) rfl ?_
  intro p e s m args below meth c A ls Q hx hb hml hts hown hK hE hT hP hD hS hA hl hret
  have hl : lv_has ls 3 [(0, .ref a), (1, .int i), (2, .int v)] := hl
  refine lv_iload_n hx hb dX11_keepAt_0 rfl (lv_at hl 1 rfl) ?_
  refine lv_if_lt (tgt := 14) hx hb dX11_keepAt_1 (by decide) (fun c_1 => ?_) (fun c_1 => ?_)
  · have b_2 := z_b3 c_1 (K := 0) (by decide +kernel)
    exact hret _ _ _ _ _ c_a [0] hP hD hS rfl (by decide) dX11_keepAt_14 trivial
  · have b_3 := z_b4 c_1 (K := 0) (by decide +kernel)
    refine lv_iload_n hx hb dX11_keepAt_4 rfl (lv_at hl 1 rfl) ?_
    refine lv_aload_n hx hb dX11_keepAt_5 rfl (lv_at hl 0 rfl) ?_
    refine va_alen (v := 4) hx hb hK hP 0 0 rfl rfl (show Int32.ofNat 4 = 4 by decide +kernel) dX11_keepAt_6 ?_
    refine lv_icmp_ge (tgt := 14) hx hb dX11_keepAt_7 (by decide) (fun c_4 => ?_) (fun c_4 => ?_)
    · have b_5 := z_b1 c_4 (K := 4) (by decide +kernel)
      exact hret _ _ _ _ _ c_a [0] hP hD hS rfl (by decide) dX11_keepAt_14 trivial
    · have b_6 := z_b2 c_4 (K := 4) (by decide +kernel)
      refine lv_aload_n hx hb dX11_keepAt_10 rfl (lv_at hl 0 rfl) ?_
      refine lv_iload_n hx hb dX11_keepAt_11 rfl (lv_at hl 1 rfl) ?_
      refine lv_iload_n hx hb dX11_keepAt_12 rfl (lv_at hl 2 rfl) ?_
      refine va_iast hx hb hK hP hD hS 0 0 rfl rfl (z_inN (by omega) (by omega)) dX11_keepAt_13 (fun H locs hP hD hS => ?_)
      have hP : va_P G vwCl [(a, .inl (cA.1 0, 4, .inl (upd c_a (i : Int32).toNatClampNeg v)))] H := hP
      have hD : va_D A [(a, .inl (cA.1 0, 4, .inl (upd c_a (i : Int32).toNatClampNeg v)))] := hD
      generalize hg_g_7 : (upd c_a (i : Int32).toNatClampNeg v) = g_7 at hP hD
      exact hret _ _ _ _ _ g_7 [0] hP hD hS rfl (by decide) dX11_keepAt_14 trivial
set_option maxHeartbeats 4000000 in
set_option maxRecDepth 100000 in
theorem d_at_5 (l : Launch) (G : va_G) (cA : zCA) (a : Nat) (c_a : Nat → Int32) (i : Int32) : zCi l yX11_at cX11_at 2 (some .int) ({ frames := 0, cells := 0, slots := 0, locals := 0 }) G cA [.ref a, .int i] [(a, .inl (cA.1 0, 5, .inl c_a))] (S := Unit) (fun (r : Int32) (u : Unit) => True) (fun (u : Unit) => [(a, .inl (cA.1 0, 5, .inl c_a))]) 0 0 := by
  refine z_start2i (own := RX11) (by decide) (Nat.le_of_ble_eq_true rfl) rfl ?_
  intro p e s m args below meth c A ls Q hx hb hml hts hown hK hE hT hP hD hS hA hl hret
  have hl : lv_has ls 2 [(0, .ref a), (1, .int i)] := hl
  refine lv_iload_n hx hb dX11_at_0 rfl (lv_at hl 1 rfl) ?_
  refine lv_if_lt (tgt := 16) hx hb dX11_at_1 (by decide) (fun c_1 => ?_) (fun c_1 => ?_)
  · have b_2 := z_b3 c_1 (K := 0) (by decide +kernel)
    refine lv_iconst (v := (-1)) hx hb dX11_at_16 (by decide) ?_
    exact hret _ _ _ _ _ _ () [0] hP hD hS rfl (by decide) dX11_at_17 trivial
  · have b_3 := z_b4 c_1 (K := 0) (by decide +kernel)
    refine lv_iload_n hx hb dX11_at_4 rfl (lv_at hl 1 rfl) ?_
    refine lv_aload_n hx hb dX11_at_5 rfl (lv_at hl 0 rfl) ?_
    refine va_alen (v := 5) hx hb hK hP 0 0 rfl rfl (show Int32.ofNat 5 = 5 by decide +kernel) dX11_at_6 ?_
    refine lv_icmp_ge (tgt := 16) hx hb dX11_at_7 (by decide) (fun c_4 => ?_) (fun c_4 => ?_)
    · have b_5 := z_b1 c_4 (K := 5) (by decide +kernel)
      refine lv_iconst (v := (-1)) hx hb dX11_at_16 (by decide) ?_
      exact hret _ _ _ _ _ _ () [0] hP hD hS rfl (by decide) dX11_at_17 trivial
    · have b_6 := z_b2 c_4 (K := 5) (by decide +kernel)
      refine lv_aload_n hx hb dX11_at_10 rfl (lv_at hl 0 rfl) ?_
      refine lv_iload_n hx hb dX11_at_11 rfl (lv_at hl 1 rfl) ?_
      refine va_iald hx hb hK hP 0 0 rfl rfl (z_inN (by omega) (by omega)) dX11_at_12 ?_
      refine lv_topi (fun x_7 _ => ?_)
      refine lv_goto (tgt := 17) hx hb dX11_at_13 (by decide) ?_
      exact hret _ _ _ _ _ _ () [0] hP hD hS rfl (by decide) dX11_at_17 trivial
set_option maxHeartbeats 4000000 in
set_option maxRecDepth 100000 in
theorem d_keepAt_5 (l : Launch) (G : va_G) (cA : zCA) (a : Nat) (c_a : Nat → Int32) (i : Int32) (v : Int32) : zCv l yX11_keepAt cX11_keepAt 3 none ({ frames := 0, cells := 0, slots := 0, locals := 0 }) G cA [.ref a, .int i, .int v] [(a, .inl (cA.1 0, 5, .inl c_a))] (S := (Nat → Int32)) (fun (u : (Nat → Int32)) => True) (fun (u : (Nat → Int32)) => [(a, .inl (cA.1 0, 5, .inl u))]) 0 0 := by
  refine z_start2v (own := RX11) (by decide) (Nat.le_of_ble_eq_true rfl) rfl ?_
  intro p e s m args below meth c A ls Q hx hb hml hts hown hK hE hT hP hD hS hA hl hret
  have hl : lv_has ls 3 [(0, .ref a), (1, .int i), (2, .int v)] := hl
  refine lv_iload_n hx hb dX11_keepAt_0 rfl (lv_at hl 1 rfl) ?_
  refine lv_if_lt (tgt := 14) hx hb dX11_keepAt_1 (by decide) (fun c_1 => ?_) (fun c_1 => ?_)
  · have b_2 := z_b3 c_1 (K := 0) (by decide +kernel)
    exact hret _ _ _ _ _ c_a [0] hP hD hS rfl (by decide) dX11_keepAt_14 trivial
  · have b_3 := z_b4 c_1 (K := 0) (by decide +kernel)
    refine lv_iload_n hx hb dX11_keepAt_4 rfl (lv_at hl 1 rfl) ?_
    refine lv_aload_n hx hb dX11_keepAt_5 rfl (lv_at hl 0 rfl) ?_
    refine va_alen (v := 5) hx hb hK hP 0 0 rfl rfl (show Int32.ofNat 5 = 5 by decide +kernel) dX11_keepAt_6 ?_
    refine lv_icmp_ge (tgt := 14) hx hb dX11_keepAt_7 (by decide) (fun c_4 => ?_) (fun c_4 => ?_)
    · have b_5 := z_b1 c_4 (K := 5) (by decide +kernel)
      exact hret _ _ _ _ _ c_a [0] hP hD hS rfl (by decide) dX11_keepAt_14 trivial
    · have b_6 := z_b2 c_4 (K := 5) (by decide +kernel)
      refine lv_aload_n hx hb dX11_keepAt_10 rfl (lv_at hl 0 rfl) ?_
      refine lv_iload_n hx hb dX11_keepAt_11 rfl (lv_at hl 1 rfl) ?_
      refine lv_iload_n hx hb dX11_keepAt_12 rfl (lv_at hl 2 rfl) ?_
      refine va_iast hx hb hK hP hD hS 0 0 rfl rfl (z_inN (by omega) (by omega)) dX11_keepAt_13 (fun H locs hP hD hS => ?_)
      have hP : va_P G vwCl [(a, .inl (cA.1 0, 5, .inl (upd c_a (i : Int32).toNatClampNeg v)))] H := hP
      have hD : va_D A [(a, .inl (cA.1 0, 5, .inl (upd c_a (i : Int32).toNatClampNeg v)))] := hD
      generalize hg_g_7 : (upd c_a (i : Int32).toNatClampNeg v) = g_7 at hP hD
      exact hret _ _ _ _ _ g_7 [0] hP hD hS rfl (by decide) dX11_keepAt_14 trivial
set_option maxHeartbeats 4000000 in
set_option maxRecDepth 100000 in
theorem d_at_7 (l : Launch) (G : va_G) (cA : zCA) (a : Nat) (c_a : Nat → Int32) (i : Int32) : zCi l yX11_at cX11_at 2 (some .int) ({ frames := 0, cells := 0, slots := 0, locals := 0 }) G cA [.ref a, .int i] [(a, .inl (cA.1 0, 7, .inl c_a))] (S := Unit) (fun (r : Int32) (u : Unit) => True) (fun (u : Unit) => [(a, .inl (cA.1 0, 7, .inl c_a))]) 0 0 := by
  refine z_start2i (own := RX11) (by decide) (Nat.le_of_ble_eq_true rfl) rfl ?_
  intro p e s m args below meth c A ls Q hx hb hml hts hown hK hE hT hP hD hS hA hl hret
  have hl : lv_has ls 2 [(0, .ref a), (1, .int i)] := hl
  refine lv_iload_n hx hb dX11_at_0 rfl (lv_at hl 1 rfl) ?_
  refine lv_if_lt (tgt := 16) hx hb dX11_at_1 (by decide) (fun c_1 => ?_) (fun c_1 => ?_)
  · have b_2 := z_b3 c_1 (K := 0) (by decide +kernel)
    refine lv_iconst (v := (-1)) hx hb dX11_at_16 (by decide) ?_
    exact hret _ _ _ _ _ _ () [0] hP hD hS rfl (by decide) dX11_at_17 trivial
  · have b_3 := z_b4 c_1 (K := 0) (by decide +kernel)
    refine lv_iload_n hx hb dX11_at_4 rfl (lv_at hl 1 rfl) ?_
    refine lv_aload_n hx hb dX11_at_5 rfl (lv_at hl 0 rfl) ?_
    refine va_alen (v := 7) hx hb hK hP 0 0 rfl rfl (show Int32.ofNat 7 = 7 by decide +kernel) dX11_at_6 ?_
    refine lv_icmp_ge (tgt := 16) hx hb dX11_at_7 (by decide) (fun c_4 => ?_) (fun c_4 => ?_)
    · have b_5 := z_b1 c_4 (K := 7) (by decide +kernel)
      refine lv_iconst (v := (-1)) hx hb dX11_at_16 (by decide) ?_
      exact hret _ _ _ _ _ _ () [0] hP hD hS rfl (by decide) dX11_at_17 trivial
    · have b_6 := z_b2 c_4 (K := 7) (by decide +kernel)
      refine lv_aload_n hx hb dX11_at_10 rfl (lv_at hl 0 rfl) ?_
      refine lv_iload_n hx hb dX11_at_11 rfl (lv_at hl 1 rfl) ?_
      refine va_iald hx hb hK hP 0 0 rfl rfl (z_inN (by omega) (by omega)) dX11_at_12 ?_
      refine lv_topi (fun x_7 _ => ?_)
      refine lv_goto (tgt := 17) hx hb dX11_at_13 (by decide) ?_
      exact hret _ _ _ _ _ _ () [0] hP hD hS rfl (by decide) dX11_at_17 trivial
set_option maxHeartbeats 4000000 in
set_option maxRecDepth 100000 in
theorem d_keepAt_7 (l : Launch) (G : va_G) (cA : zCA) (a : Nat) (c_a : Nat → Int32) (i : Int32) (v : Int32) : zCv l yX11_keepAt cX11_keepAt 3 none ({ frames := 0, cells := 0, slots := 0, locals := 0 }) G cA [.ref a, .int i, .int v] [(a, .inl (cA.1 0, 7, .inl c_a))] (S := (Nat → Int32)) (fun (u : (Nat → Int32)) => True) (fun (u : (Nat → Int32)) => [(a, .inl (cA.1 0, 7, .inl u))]) 0 0 := by
  refine z_start2v (own := RX11) (by decide) (Nat.le_of_ble_eq_true rfl) rfl ?_
  intro p e s m args below meth c A ls Q hx hb hml hts hown hK hE hT hP hD hS hA hl hret
  have hl : lv_has ls 3 [(0, .ref a), (1, .int i), (2, .int v)] := hl
  refine lv_iload_n hx hb dX11_keepAt_0 rfl (lv_at hl 1 rfl) ?_
  refine lv_if_lt (tgt := 14) hx hb dX11_keepAt_1 (by decide) (fun c_1 => ?_) (fun c_1 => ?_)
  · have b_2 := z_b3 c_1 (K := 0) (by decide +kernel)
    exact hret _ _ _ _ _ c_a [0] hP hD hS rfl (by decide) dX11_keepAt_14 trivial
  · have b_3 := z_b4 c_1 (K := 0) (by decide +kernel)
    refine lv_iload_n hx hb dX11_keepAt_4 rfl (lv_at hl 1 rfl) ?_
    refine lv_aload_n hx hb dX11_keepAt_5 rfl (lv_at hl 0 rfl) ?_
    refine va_alen (v := 7) hx hb hK hP 0 0 rfl rfl (show Int32.ofNat 7 = 7 by decide +kernel) dX11_keepAt_6 ?_
    refine lv_icmp_ge (tgt := 14) hx hb dX11_keepAt_7 (by decide) (fun c_4 => ?_) (fun c_4 => ?_)
    · have b_5 := z_b1 c_4 (K := 7) (by decide +kernel)
      exact hret _ _ _ _ _ c_a [0] hP hD hS rfl (by decide) dX11_keepAt_14 trivial
    · have b_6 := z_b2 c_4 (K := 7) (by decide +kernel)
      refine lv_aload_n hx hb dX11_keepAt_10 rfl (lv_at hl 0 rfl) ?_
      refine lv_iload_n hx hb dX11_keepAt_11 rfl (lv_at hl 1 rfl) ?_
      refine lv_iload_n hx hb dX11_keepAt_12 rfl (lv_at hl 2 rfl) ?_
      refine va_iast hx hb hK hP hD hS 0 0 rfl rfl (z_inN (by omega) (by omega)) dX11_keepAt_13 (fun H locs hP hD hS => ?_)
      have hP : va_P G vwCl [(a, .inl (cA.1 0, 7, .inl (upd c_a (i : Int32).toNatClampNeg v)))] H := hP
      have hD : va_D A [(a, .inl (cA.1 0, 7, .inl (upd c_a (i : Int32).toNatClampNeg v)))] := hD
      generalize hg_g_7 : (upd c_a (i : Int32).toNatClampNeg v) = g_7 at hP hD
      exact hret _ _ _ _ _ g_7 [0] hP hD hS rfl (by decide) dX11_keepAt_14 trivial
set_option maxHeartbeats 4000000 in
set_option maxRecDepth 100000 in
theorem d_at_10 (l : Launch) (G : va_G) (cA : zCA) (a : Nat) (c_a : Nat → Int32) (i : Int32) : zCi l yX11_at cX11_at 2 (some .int) ({ frames := 0, cells := 0, slots := 0, locals := 0 }) G cA [.ref a, .int i] [(a, .inl (cA.1 0, 10, .inl c_a))] (S := Unit) (fun (r : Int32) (u : Unit) => True) (fun (u : Unit) => [(a, .inl (cA.1 0, 10, .inl c_a))]) 0 0 := by
  refine z_start2i (own := RX11) (by decide) (Nat.le_of_ble_eq_true rfl) rfl ?_
  intro p e s m args below meth c A ls Q hx hb hml hts hown hK hE hT hP hD hS hA hl hret
  have hl : lv_has ls 2 [(0, .ref a), (1, .int i)] := hl
  refine lv_iload_n hx hb dX11_at_0 rfl (lv_at hl 1 rfl) ?_
  refine lv_if_lt (tgt := 16) hx hb dX11_at_1 (by decide) (fun c_1 => ?_) (fun c_1 => ?_)
  · have b_2 := z_b3 c_1 (K := 0) (by decide +kernel)
    refine lv_iconst (v := (-1)) hx hb dX11_at_16 (by decide) ?_
    exact hret _ _ _ _ _ _ () [0] hP hD hS rfl (by decide) dX11_at_17 trivial
  · have b_3 := z_b4 c_1 (K := 0) (by decide +kernel)
    refine lv_iload_n hx hb dX11_at_4 rfl (lv_at hl 1 rfl) ?_
    refine lv_aload_n hx hb dX11_at_5 rfl (lv_at hl 0 rfl) ?_
    refine va_alen (v := 10) hx hb hK hP 0 0 rfl rfl (show Int32.ofNat 10 = 10 by decide +kernel) dX11_at_6 ?_
    refine lv_icmp_ge (tgt := 16) hx hb dX11_at_7 (by decide) (fun c_4 => ?_) (fun c_4 => ?_)
    · have b_5 := z_b1 c_4 (K := 10) (by decide +kernel)
      refine lv_iconst (v := (-1)) hx hb dX11_at_16 (by decide) ?_
      exact hret _ _ _ _ _ _ () [0] hP hD hS rfl (by decide) dX11_at_17 trivial
    · have b_6 := z_b2 c_4 (K := 10) (by decide +kernel)
      refine lv_aload_n hx hb dX11_at_10 rfl (lv_at hl 0 rfl) ?_
      refine lv_iload_n hx hb dX11_at_11 rfl (lv_at hl 1 rfl) ?_
      refine va_iald hx hb hK hP 0 0 rfl rfl (z_inN (by omega) (by omega)) dX11_at_12 ?_
      refine lv_topi (fun x_7 _ => ?_)
      refine lv_goto (tgt := 17) hx hb dX11_at_13 (by decide) ?_
      exact hret _ _ _ _ _ _ () [0] hP hD hS rfl (by decide) dX11_at_17 trivial
set_option maxHeartbeats 4000000 in
set_option maxRecDepth 100000 in
theorem d_keepAt_10 (l : Launch) (G : va_G) (cA : zCA) (a : Nat) (c_a : Nat → Int32) (i : Int32) (v : Int32) : zCv l yX11_keepAt cX11_keepAt 3 none ({ frames := 0, cells := 0, slots := 0, locals := 0 }) G cA [.ref a, .int i, .int v] [(a, .inl (cA.1 0, 10, .inl c_a))] (S := (Nat → Int32)) (fun (u : (Nat → Int32)) => True) (fun (u : (Nat → Int32)) => [(a, .inl (cA.1 0, 10, .inl u))]) 0 0 := by
  refine z_start2v (own := RX11) (by decide) (Nat.le_of_ble_eq_true rfl) rfl ?_
  intro p e s m args below meth c A ls Q hx hb hml hts hown hK hE hT hP hD hS hA hl hret
  have hl : lv_has ls 3 [(0, .ref a), (1, .int i), (2, .int v)] := hl
  refine lv_iload_n hx hb dX11_keepAt_0 rfl (lv_at hl 1 rfl) ?_
  refine lv_if_lt (tgt := 14) hx hb dX11_keepAt_1 (by decide) (fun c_1 => ?_) (fun c_1 => ?_)
  · have b_2 := z_b3 c_1 (K := 0) (by decide +kernel)
    exact hret _ _ _ _ _ c_a [0] hP hD hS rfl (by decide) dX11_keepAt_14 trivial
  · have b_3 := z_b4 c_1 (K := 0) (by decide +kernel)
    refine lv_iload_n hx hb dX11_keepAt_4 rfl (lv_at hl 1 rfl) ?_
    refine lv_aload_n hx hb dX11_keepAt_5 rfl (lv_at hl 0 rfl) ?_
    refine va_alen (v := 10) hx hb hK hP 0 0 rfl rfl (show Int32.ofNat 10 = 10 by decide +kernel) dX11_keepAt_6 ?_
    refine lv_icmp_ge (tgt := 14) hx hb dX11_keepAt_7 (by decide) (fun c_4 => ?_) (fun c_4 => ?_)
    · have b_5 := z_b1 c_4 (K := 10) (by decide +kernel)
      exact hret _ _ _ _ _ c_a [0] hP hD hS rfl (by decide) dX11_keepAt_14 trivial
    · have b_6 := z_b2 c_4 (K := 10) (by decide +kernel)
      refine lv_aload_n hx hb dX11_keepAt_10 rfl (lv_at hl 0 rfl) ?_
      refine lv_iload_n hx hb dX11_keepAt_11 rfl (lv_at hl 1 rfl) ?_
      refine lv_iload_n hx hb dX11_keepAt_12 rfl (lv_at hl 2 rfl) ?_
      refine va_iast hx hb hK hP hD hS 0 0 rfl rfl (z_inN (by omega) (by omega)) dX11_keepAt_13 (fun H locs hP hD hS => ?_)
      have hP : va_P G vwCl [(a, .inl (cA.1 0, 10, .inl (upd c_a (i : Int32).toNatClampNeg v)))] H := hP
      have hD : va_D A [(a, .inl (cA.1 0, 10, .inl (upd c_a (i : Int32).toNatClampNeg v)))] := hD
      generalize hg_g_7 : (upd c_a (i : Int32).toNatClampNeg v) = g_7 at hP hD
      exact hret _ _ _ _ _ g_7 [0] hP hD hS rfl (by decide) dX11_keepAt_14 trivial
set_option maxHeartbeats 4000000 in
set_option maxRecDepth 100000 in
theorem d_at_12 (l : Launch) (G : va_G) (cA : zCA) (a : Nat) (c_a : Nat → Int32) (i : Int32) : zCi l yX11_at cX11_at 2 (some .int) ({ frames := 0, cells := 0, slots := 0, locals := 0 }) G cA [.ref a, .int i] [(a, .inl (cA.1 0, 12, .inl c_a))] (S := Unit) (fun (r : Int32) (u : Unit) => True) (fun (u : Unit) => [(a, .inl (cA.1 0, 12, .inl c_a))]) 0 0 := by
  refine z_start2i (own := RX11) (by decide) (Nat.le_of_ble_eq_true rfl) rfl ?_
  intro p e s m args below meth c A ls Q hx hb hml hts hown hK hE hT hP hD hS hA hl hret
  have hl : lv_has ls 2 [(0, .ref a), (1, .int i)] := hl
  refine lv_iload_n hx hb dX11_at_0 rfl (lv_at hl 1 rfl) ?_
  refine lv_if_lt (tgt := 16) hx hb dX11_at_1 (by decide) (fun c_1 => ?_) (fun c_1 => ?_)
  · have b_2 := z_b3 c_1 (K := 0) (by decide +kernel)
    refine lv_iconst (v := (-1)) hx hb dX11_at_16 (by decide) ?_
    exact hret _ _ _ _ _ _ () [0] hP hD hS rfl (by decide) dX11_at_17 trivial
  · have b_3 := z_b4 c_1 (K := 0) (by decide +kernel)
    refine lv_iload_n hx hb dX11_at_4 rfl (lv_at hl 1 rfl) ?_
    refine lv_aload_n hx hb dX11_at_5 rfl (lv_at hl 0 rfl) ?_
    refine va_alen (v := 12) hx hb hK hP 0 0 rfl rfl (show Int32.ofNat 12 = 12 by decide +kernel) dX11_at_6 ?_
    refine lv_icmp_ge (tgt := 16) hx hb dX11_at_7 (by decide) (fun c_4 => ?_) (fun c_4 => ?_)
    · have b_5 := z_b1 c_4 (K := 12) (by decide +kernel)
      refine lv_iconst (v := (-1)) hx hb dX11_at_16 (by decide) ?_
      exact hret _ _ _ _ _ _ () [0] hP hD hS rfl (by decide) dX11_at_17 trivial
    · have b_6 := z_b2 c_4 (K := 12) (by decide +kernel)
      refine lv_aload_n hx hb dX11_at_10 rfl (lv_at hl 0 rfl) ?_
      refine lv_iload_n hx hb dX11_at_11 rfl (lv_at hl 1 rfl) ?_
      refine va_iald hx hb hK hP 0 0 rfl rfl (z_inN (by omega) (by omega)) dX11_at_12 ?_
      refine lv_topi (fun x_7 _ => ?_)
      refine lv_goto (tgt := 17) hx hb dX11_at_13 (by decide) ?_
      exact hret _ _ _ _ _ _ () [0] hP hD hS rfl (by decide) dX11_at_17 trivial
set_option maxHeartbeats 4000000 in
set_option maxRecDepth 100000 in
theorem d_keepAt_12 (l : Launch) (G : va_G) (cA : zCA) (a : Nat) (c_a : Nat → Int32) (i : Int32) (v : Int32) : zCv l yX11_keepAt cX11_keepAt 3 none ({ frames := 0, cells := 0, slots := 0, locals := 0 }) G cA [.ref a, .int i, .int v] [(a, .inl (cA.1 0, 12, .inl c_a))] (S := (Nat → Int32)) (fun (u : (Nat → Int32)) => True) (fun (u : (Nat → Int32)) => [(a, .inl (cA.1 0, 12, .inl u))]) 0 0 := by
  refine z_start2v (own := RX11) (by decide) (Nat.le_of_ble_eq_true rfl) rfl ?_
  intro p e s m args below meth c A ls Q hx hb hml hts hown hK hE hT hP hD hS hA hl hret
  have hl : lv_has ls 3 [(0, .ref a), (1, .int i), (2, .int v)] := hl
  refine lv_iload_n hx hb dX11_keepAt_0 rfl (lv_at hl 1 rfl) ?_
  refine lv_if_lt (tgt := 14) hx hb dX11_keepAt_1 (by decide) (fun c_1 => ?_) (fun c_1 => ?_)
  · have b_2 := z_b3 c_1 (K := 0) (by decide +kernel)
    exact hret _ _ _ _ _ c_a [0] hP hD hS rfl (by decide) dX11_keepAt_14 trivial
  · have b_3 := z_b4 c_1 (K := 0) (by decide +kernel)
    refine lv_iload_n hx hb dX11_keepAt_4 rfl (lv_at hl 1 rfl) ?_
    refine lv_aload_n hx hb dX11_keepAt_5 rfl (lv_at hl 0 rfl) ?_
    refine va_alen (v := 12) hx hb hK hP 0 0 rfl rfl (show Int32.ofNat 12 = 12 by decide +kernel) dX11_keepAt_6 ?_
    refine lv_icmp_ge (tgt := 14) hx hb dX11_keepAt_7 (by decide) (fun c_4 => ?_) (fun c_4 => ?_)
    · have b_5 := z_b1 c_4 (K := 12) (by decide +kernel)
      exact hret _ _ _ _ _ c_a [0] hP hD hS rfl (by decide) dX11_keepAt_14 trivial
    · have b_6 := z_b2 c_4 (K := 12) (by decide +kernel)
      refine lv_aload_n hx hb dX11_keepAt_10 rfl (lv_at hl 0 rfl) ?_
      refine lv_iload_n hx hb dX11_keepAt_11 rfl (lv_at hl 1 rfl) ?_
      refine lv_iload_n hx hb dX11_keepAt_12 rfl (lv_at hl 2 rfl) ?_
      refine va_iast hx hb hK hP hD hS 0 0 rfl rfl (z_inN (by omega) (by omega)) dX11_keepAt_13 (fun H locs hP hD hS => ?_)
      have hP : va_P G vwCl [(a, .inl (cA.1 0, 12, .inl (upd c_a (i : Int32).toNatClampNeg v)))] H := hP
      have hD : va_D A [(a, .inl (cA.1 0, 12, .inl (upd c_a (i : Int32).toNatClampNeg v)))] := hD
      generalize hg_g_7 : (upd c_a (i : Int32).toNatClampNeg v) = g_7 at hP hD
      exact hret _ _ _ _ _ g_7 [0] hP hD hS rfl (by decide) dX11_keepAt_14 trivial
set_option maxHeartbeats 4000000 in
set_option maxRecDepth 100000 in
theorem d_at_20 (l : Launch) (G : va_G) (cA : zCA) (a : Nat) (c_a : Nat → Int32) (i : Int32) : zCi l yX11_at cX11_at 2 (some .int) ({ frames := 0, cells := 0, slots := 0, locals := 0 }) G cA [.ref a, .int i] [(a, .inl (cA.1 0, 20, .inl c_a))] (S := Unit) (fun (r : Int32) (u : Unit) => True) (fun (u : Unit) => [(a, .inl (cA.1 0, 20, .inl c_a))]) 0 0 := by
  refine z_start2i (own := RX11) (by decide) (Nat.le_of_ble_eq_true rfl) rfl ?_
  intro p e s m args below meth c A ls Q hx hb hml hts hown hK hE hT hP hD hS hA hl hret
  have hl : lv_has ls 2 [(0, .ref a), (1, .int i)] := hl
  refine lv_iload_n hx hb dX11_at_0 rfl (lv_at hl 1 rfl) ?_
  refine lv_if_lt (tgt := 16) hx hb dX11_at_1 (by decide) (fun c_1 => ?_) (fun c_1 => ?_)
  · have b_2 := z_b3 c_1 (K := 0) (by decide +kernel)
    refine lv_iconst (v := (-1)) hx hb dX11_at_16 (by decide) ?_
    exact hret _ _ _ _ _ _ () [0] hP hD hS rfl (by decide) dX11_at_17 trivial
  · have b_3 := z_b4 c_1 (K := 0) (by decide +kernel)
    refine lv_iload_n hx hb dX11_at_4 rfl (lv_at hl 1 rfl) ?_
    refine lv_aload_n hx hb dX11_at_5 rfl (lv_at hl 0 rfl) ?_
    refine va_alen (v := 20) hx hb hK hP 0 0 rfl rfl (show Int32.ofNat 20 = 20 by decide +kernel) dX11_at_6 ?_
    refine lv_icmp_ge (tgt := 16) hx hb dX11_at_7 (by decide) (fun c_4 => ?_) (fun c_4 => ?_)
    · have b_5 := z_b1 c_4 (K := 20) (by decide +kernel)
      refine lv_iconst (v := (-1)) hx hb dX11_at_16 (by decide) ?_
      exact hret _ _ _ _ _ _ () [0] hP hD hS rfl (by decide) dX11_at_17 trivial
    · have b_6 := z_b2 c_4 (K := 20) (by decide +kernel)
      refine lv_aload_n hx hb dX11_at_10 rfl (lv_at hl 0 rfl) ?_
      refine lv_iload_n hx hb dX11_at_11 rfl (lv_at hl 1 rfl) ?_
      refine va_iald hx hb hK hP 0 0 rfl rfl (z_inN (by omega) (by omega)) dX11_at_12 ?_
      refine lv_topi (fun x_7 _ => ?_)
      refine lv_goto (tgt := 17) hx hb dX11_at_13 (by decide) ?_
      exact hret _ _ _ _ _ _ () [0] hP hD hS rfl (by decide) dX11_at_17 trivial
set_option maxHeartbeats 4000000 in
set_option maxRecDepth 100000 in
theorem d_keepAt_20 (l : Launch) (G : va_G) (cA : zCA) (a : Nat) (c_a : Nat → Int32) (i : Int32) (v : Int32) : zCv l yX11_keepAt cX11_keepAt 3 none ({ frames := 0, cells := 0, slots := 0, locals := 0 }) G cA [.ref a, .int i, .int v] [(a, .inl (cA.1 0, 20, .inl c_a))] (S := (Nat → Int32)) (fun (u : (Nat → Int32)) => True) (fun (u : (Nat → Int32)) => [(a, .inl (cA.1 0, 20, .inl u))]) 0 0 := by
  refine z_start2v (own := RX11) (by decide) (Nat.le_of_ble_eq_true rfl) rfl ?_
  intro p e s m args below meth c A ls Q hx hb hml hts hown hK hE hT hP hD hS hA hl hret
  have hl : lv_has ls 3 [(0, .ref a), (1, .int i), (2, .int v)] := hl
  refine lv_iload_n hx hb dX11_keepAt_0 rfl (lv_at hl 1 rfl) ?_
  refine lv_if_lt (tgt := 14) hx hb dX11_keepAt_1 (by decide) (fun c_1 => ?_) (fun c_1 => ?_)
  · have b_2 := z_b3 c_1 (K := 0) (by decide +kernel)
    exact hret _ _ _ _ _ c_a [0] hP hD hS rfl (by decide) dX11_keepAt_14 trivial
  · have b_3 := z_b4 c_1 (K := 0) (by decide +kernel)
    refine lv_iload_n hx hb dX11_keepAt_4 rfl (lv_at hl 1 rfl) ?_
    refine lv_aload_n hx hb dX11_keepAt_5 rfl (lv_at hl 0 rfl) ?_
    refine va_alen (v := 20) hx hb hK hP 0 0 rfl rfl (show Int32.ofNat 20 = 20 by decide +kernel) dX11_keepAt_6 ?_
    refine lv_icmp_ge (tgt := 14) hx hb dX11_keepAt_7 (by decide) (fun c_4 => ?_) (fun c_4 => ?_)
    · have b_5 := z_b1 c_4 (K := 20) (by decide +kernel)
      exact hret _ _ _ _ _ c_a [0] hP hD hS rfl (by decide) dX11_keepAt_14 trivial
    · have b_6 := z_b2 c_4 (K := 20) (by decide +kernel)
      refine lv_aload_n hx hb dX11_keepAt_10 rfl (lv_at hl 0 rfl) ?_
      refine lv_iload_n hx hb dX11_keepAt_11 rfl (lv_at hl 1 rfl) ?_
      refine lv_iload_n hx hb dX11_keepAt_12 rfl (lv_at hl 2 rfl) ?_
      refine va_iast hx hb hK hP hD hS 0 0 rfl rfl (z_inN (by omega) (by omega)) dX11_keepAt_13 (fun H locs hP hD hS => ?_)
      have hP : va_P G vwCl [(a, .inl (cA.1 0, 20, .inl (upd c_a (i : Int32).toNatClampNeg v)))] H := hP
      have hD : va_D A [(a, .inl (cA.1 0, 20, .inl (upd c_a (i : Int32).toNatClampNeg v)))] := hD
      generalize hg_g_7 : (upd c_a (i : Int32).toNatClampNeg v) = g_7 at hP hD
      exact hret _ _ _ _ _ g_7 [0] hP hD hS rfl (by decide) dX11_keepAt_14 trivial
set_option maxHeartbeats 4000000 in
set_option maxRecDepth 100000 in
theorem d_at_30 (l : Launch) (G : va_G) (cA : zCA) (a : Nat) (c_a : Nat → Int32) (i : Int32) : zCi l yX11_at cX11_at 2 (some .int) ({ frames := 0, cells := 0, slots := 0, locals := 0 }) G cA [.ref a, .int i] [(a, .inl (cA.1 0, 30, .inl c_a))] (S := Unit) (fun (r : Int32) (u : Unit) => True) (fun (u : Unit) => [(a, .inl (cA.1 0, 30, .inl c_a))]) 0 0 := by
  refine z_start2i (own := RX11) (by decide) (Nat.le_of_ble_eq_true rfl) rfl ?_
  intro p e s m args below meth c A ls Q hx hb hml hts hown hK hE hT hP hD hS hA hl hret
  have hl : lv_has ls 2 [(0, .ref a), (1, .int i)] := hl
  refine lv_iload_n hx hb dX11_at_0 rfl (lv_at hl 1 rfl) ?_
  refine lv_if_lt (tgt := 16) hx hb dX11_at_1 (by decide) (fun c_1 => ?_) (fun c_1 => ?_)
  · have b_2 := z_b3 c_1 (K := 0) (by decide +kernel)
    refine lv_iconst (v := (-1)) hx hb dX11_at_16 (by decide) ?_
    exact hret _ _ _ _ _ _ () [0] hP hD hS rfl (by decide) dX11_at_17 trivial
  · have b_3 := z_b4 c_1 (K := 0) (by decide +kernel)
    refine lv_iload_n hx hb dX11_at_4 rfl (lv_at hl 1 rfl) ?_
    refine lv_aload_n hx hb dX11_at_5 rfl (lv_at hl 0 rfl) ?_
    refine va_alen (v := 30) hx hb hK hP 0 0 rfl rfl (show Int32.ofNat 30 = 30 by decide +kernel) dX11_at_6 ?_
    refine lv_icmp_ge (tgt := 16) hx hb dX11_at_7 (by decide) (fun c_4 => ?_) (fun c_4 => ?_)
    · have b_5 := z_b1 c_4 (K := 30) (by decide +kernel)
      refine lv_iconst (v := (-1)) hx hb dX11_at_16 (by decide) ?_
      exact hret _ _ _ _ _ _ () [0] hP hD hS rfl (by decide) dX11_at_17 trivial
    · have b_6 := z_b2 c_4 (K := 30) (by decide +kernel)
      refine lv_aload_n hx hb dX11_at_10 rfl (lv_at hl 0 rfl) ?_
      refine lv_iload_n hx hb dX11_at_11 rfl (lv_at hl 1 rfl) ?_
      refine va_iald hx hb hK hP 0 0 rfl rfl (z_inN (by omega) (by omega)) dX11_at_12 ?_
      refine lv_topi (fun x_7 _ => ?_)
      refine lv_goto (tgt := 17) hx hb dX11_at_13 (by decide) ?_
      exact hret _ _ _ _ _ _ () [0] hP hD hS rfl (by decide) dX11_at_17 trivial
set_option maxHeartbeats 4000000 in
set_option maxRecDepth 100000 in
theorem d_keepAt_30 (l : Launch) (G : va_G) (cA : zCA) (a : Nat) (c_a : Nat → Int32) (i : Int32) (v : Int32) : zCv l yX11_keepAt cX11_keepAt 3 none ({ frames := 0, cells := 0, slots := 0, locals := 0 }) G cA [.ref a, .int i, .int v] [(a, .inl (cA.1 0, 30, .inl c_a))] (S := (Nat → Int32)) (fun (u : (Nat → Int32)) => True) (fun (u : (Nat → Int32)) => [(a, .inl (cA.1 0, 30, .inl u))]) 0 0 := by
  refine z_start2v (own := RX11) (by decide) (Nat.le_of_ble_eq_true rfl) rfl ?_
  intro p e s m args below meth c A ls Q hx hb hml hts hown hK hE hT hP hD hS hA hl hret
  have hl : lv_has ls 3 [(0, .ref a), (1, .int i), (2, .int v)] := hl
  refine lv_iload_n hx hb dX11_keepAt_0 rfl (lv_at hl 1 rfl) ?_
  refine lv_if_lt (tgt := 14) hx hb dX11_keepAt_1 (by decide) (fun c_1 => ?_) (fun c_1 => ?_)
  · have b_2 := z_b3 c_1 (K := 0) (by decide +kernel)
    exact hret _ _ _ _ _ c_a [0] hP hD hS rfl (by decide) dX11_keepAt_14 trivial
  · have b_3 := z_b4 c_1 (K := 0) (by decide +kernel)
    refine lv_iload_n hx hb dX11_keepAt_4 rfl (lv_at hl 1 rfl) ?_
    refine lv_aload_n hx hb dX11_keepAt_5 rfl (lv_at hl 0 rfl) ?_
    refine va_alen (v := 30) hx hb hK hP 0 0 rfl rfl (show Int32.ofNat 30 = 30 by decide +kernel) dX11_keepAt_6 ?_
    refine lv_icmp_ge (tgt := 14) hx hb dX11_keepAt_7 (by decide) (fun c_4 => ?_) (fun c_4 => ?_)
    · have b_5 := z_b1 c_4 (K := 30) (by decide +kernel)
      exact hret _ _ _ _ _ c_a [0] hP hD hS rfl (by decide) dX11_keepAt_14 trivial
    · have b_6 := z_b2 c_4 (K := 30) (by decide +kernel)
      refine lv_aload_n hx hb dX11_keepAt_10 rfl (lv_at hl 0 rfl) ?_
      refine lv_iload_n hx hb dX11_keepAt_11 rfl (lv_at hl 1 rfl) ?_
      refine lv_iload_n hx hb dX11_keepAt_12 rfl (lv_at hl 2 rfl) ?_
      refine va_iast hx hb hK hP hD hS 0 0 rfl rfl (z_inN (by omega) (by omega)) dX11_keepAt_13 (fun H locs hP hD hS => ?_)
      have hP : va_P G vwCl [(a, .inl (cA.1 0, 30, .inl (upd c_a (i : Int32).toNatClampNeg v)))] H := hP
      have hD : va_D A [(a, .inl (cA.1 0, 30, .inl (upd c_a (i : Int32).toNatClampNeg v)))] := hD
      generalize hg_g_7 : (upd c_a (i : Int32).toNatClampNeg v) = g_7 at hP hD
      exact hret _ _ _ _ _ g_7 [0] hP hD hS rfl (by decide) dX11_keepAt_14 trivial
set_option maxHeartbeats 4000000 in
set_option maxRecDepth 100000 in
theorem d_at_48 (l : Launch) (G : va_G) (cA : zCA) (a : Nat) (c_a : Nat → Int32) (i : Int32) : zCi l yX11_at cX11_at 2 (some .int) ({ frames := 0, cells := 0, slots := 0, locals := 0 }) G cA [.ref a, .int i] [(a, .inl (cA.1 0, 48, .inl c_a))] (S := Unit) (fun (r : Int32) (u : Unit) => True) (fun (u : Unit) => [(a, .inl (cA.1 0, 48, .inl c_a))]) 0 0 := by
  refine z_start2i (own := RX11) (by decide) (Nat.le_of_ble_eq_true rfl) rfl ?_
  intro p e s m args below meth c A ls Q hx hb hml hts hown hK hE hT hP hD hS hA hl hret
  have hl : lv_has ls 2 [(0, .ref a), (1, .int i)] := hl
  refine lv_iload_n hx hb dX11_at_0 rfl (lv_at hl 1 rfl) ?_
  refine lv_if_lt (tgt := 16) hx hb dX11_at_1 (by decide) (fun c_1 => ?_) (fun c_1 => ?_)
  · have b_2 := z_b3 c_1 (K := 0) (by decide +kernel)
    refine lv_iconst (v := (-1)) hx hb dX11_at_16 (by decide) ?_
    exact hret _ _ _ _ _ _ () [0] hP hD hS rfl (by decide) dX11_at_17 trivial
  · have b_3 := z_b4 c_1 (K := 0) (by decide +kernel)
    refine lv_iload_n hx hb dX11_at_4 rfl (lv_at hl 1 rfl) ?_
    refine lv_aload_n hx hb dX11_at_5 rfl (lv_at hl 0 rfl) ?_
    refine va_alen (v := 48) hx hb hK hP 0 0 rfl rfl (show Int32.ofNat 48 = 48 by decide +kernel) dX11_at_6 ?_
    refine lv_icmp_ge (tgt := 16) hx hb dX11_at_7 (by decide) (fun c_4 => ?_) (fun c_4 => ?_)
    · have b_5 := z_b1 c_4 (K := 48) (by decide +kernel)
      refine lv_iconst (v := (-1)) hx hb dX11_at_16 (by decide) ?_
      exact hret _ _ _ _ _ _ () [0] hP hD hS rfl (by decide) dX11_at_17 trivial
    · have b_6 := z_b2 c_4 (K := 48) (by decide +kernel)
      refine lv_aload_n hx hb dX11_at_10 rfl (lv_at hl 0 rfl) ?_
      refine lv_iload_n hx hb dX11_at_11 rfl (lv_at hl 1 rfl) ?_
      refine va_iald hx hb hK hP 0 0 rfl rfl (z_inN (by omega) (by omega)) dX11_at_12 ?_
      refine lv_topi (fun x_7 _ => ?_)
      refine lv_goto (tgt := 17) hx hb dX11_at_13 (by decide) ?_
      exact hret _ _ _ _ _ _ () [0] hP hD hS rfl (by decide) dX11_at_17 trivial
set_option maxHeartbeats 4000000 in
set_option maxRecDepth 100000 in
theorem d_keepAt_48 (l : Launch) (G : va_G) (cA : zCA) (a : Nat) (c_a : Nat → Int32) (i : Int32) (v : Int32) : zCv l yX11_keepAt cX11_keepAt 3 none ({ frames := 0, cells := 0, slots := 0, locals := 0 }) G cA [.ref a, .int i, .int v] [(a, .inl (cA.1 0, 48, .inl c_a))] (S := (Nat → Int32)) (fun (u : (Nat → Int32)) => True) (fun (u : (Nat → Int32)) => [(a, .inl (cA.1 0, 48, .inl u))]) 0 0 := by
  refine z_start2v (own := RX11) (by decide) (Nat.le_of_ble_eq_true rfl) rfl ?_
  intro p e s m args below meth c A ls Q hx hb hml hts hown hK hE hT hP hD hS hA hl hret
  have hl : lv_has ls 3 [(0, .ref a), (1, .int i), (2, .int v)] := hl
  refine lv_iload_n hx hb dX11_keepAt_0 rfl (lv_at hl 1 rfl) ?_
  refine lv_if_lt (tgt := 14) hx hb dX11_keepAt_1 (by decide) (fun c_1 => ?_) (fun c_1 => ?_)
  · have b_2 := z_b3 c_1 (K := 0) (by decide +kernel)
    exact hret _ _ _ _ _ c_a [0] hP hD hS rfl (by decide) dX11_keepAt_14 trivial
  · have b_3 := z_b4 c_1 (K := 0) (by decide +kernel)
    refine lv_iload_n hx hb dX11_keepAt_4 rfl (lv_at hl 1 rfl) ?_
    refine lv_aload_n hx hb dX11_keepAt_5 rfl (lv_at hl 0 rfl) ?_
    refine va_alen (v := 48) hx hb hK hP 0 0 rfl rfl (show Int32.ofNat 48 = 48 by decide +kernel) dX11_keepAt_6 ?_
    refine lv_icmp_ge (tgt := 14) hx hb dX11_keepAt_7 (by decide) (fun c_4 => ?_) (fun c_4 => ?_)
    · have b_5 := z_b1 c_4 (K := 48) (by decide +kernel)
      exact hret _ _ _ _ _ c_a [0] hP hD hS rfl (by decide) dX11_keepAt_14 trivial
    · have b_6 := z_b2 c_4 (K := 48) (by decide +kernel)
      refine lv_aload_n hx hb dX11_keepAt_10 rfl (lv_at hl 0 rfl) ?_
      refine lv_iload_n hx hb dX11_keepAt_11 rfl (lv_at hl 1 rfl) ?_
      refine lv_iload_n hx hb dX11_keepAt_12 rfl (lv_at hl 2 rfl) ?_
      refine va_iast hx hb hK hP hD hS 0 0 rfl rfl (z_inN (by omega) (by omega)) dX11_keepAt_13 (fun H locs hP hD hS => ?_)
      have hP : va_P G vwCl [(a, .inl (cA.1 0, 48, .inl (upd c_a (i : Int32).toNatClampNeg v)))] H := hP
      have hD : va_D A [(a, .inl (cA.1 0, 48, .inl (upd c_a (i : Int32).toNatClampNeg v)))] := hD
      generalize hg_g_7 : (upd c_a (i : Int32).toNatClampNeg v) = g_7 at hP hD
      exact hret _ _ _ _ _ g_7 [0] hP hD hS rfl (by decide) dX11_keepAt_14 trivial
set_option maxHeartbeats 4000000 in
set_option maxRecDepth 100000 in
theorem d_at_60 (l : Launch) (G : va_G) (cA : zCA) (a : Nat) (c_a : Nat → Int32) (i : Int32) : zCi l yX11_at cX11_at 2 (some .int) ({ frames := 0, cells := 0, slots := 0, locals := 0 }) G cA [.ref a, .int i] [(a, .inl (cA.1 0, 60, .inl c_a))] (S := Unit) (fun (r : Int32) (u : Unit) => True) (fun (u : Unit) => [(a, .inl (cA.1 0, 60, .inl c_a))]) 0 0 := by
  refine z_start2i (own := RX11) (by decide) (Nat.le_of_ble_eq_true rfl) rfl ?_
  intro p e s m args below meth c A ls Q hx hb hml hts hown hK hE hT hP hD hS hA hl hret
  have hl : lv_has ls 2 [(0, .ref a), (1, .int i)] := hl
  refine lv_iload_n hx hb dX11_at_0 rfl (lv_at hl 1 rfl) ?_
  refine lv_if_lt (tgt := 16) hx hb dX11_at_1 (by decide) (fun c_1 => ?_) (fun c_1 => ?_)
  · have b_2 := z_b3 c_1 (K := 0) (by decide +kernel)
    refine lv_iconst (v := (-1)) hx hb dX11_at_16 (by decide) ?_
    exact hret _ _ _ _ _ _ () [0] hP hD hS rfl (by decide) dX11_at_17 trivial
  · have b_3 := z_b4 c_1 (K := 0) (by decide +kernel)
    refine lv_iload_n hx hb dX11_at_4 rfl (lv_at hl 1 rfl) ?_
    refine lv_aload_n hx hb dX11_at_5 rfl (lv_at hl 0 rfl) ?_
    refine va_alen (v := 60) hx hb hK hP 0 0 rfl rfl (show Int32.ofNat 60 = 60 by decide +kernel) dX11_at_6 ?_
    refine lv_icmp_ge (tgt := 16) hx hb dX11_at_7 (by decide) (fun c_4 => ?_) (fun c_4 => ?_)
    · have b_5 := z_b1 c_4 (K := 60) (by decide +kernel)
      refine lv_iconst (v := (-1)) hx hb dX11_at_16 (by decide) ?_
      exact hret _ _ _ _ _ _ () [0] hP hD hS rfl (by decide) dX11_at_17 trivial
    · have b_6 := z_b2 c_4 (K := 60) (by decide +kernel)
      refine lv_aload_n hx hb dX11_at_10 rfl (lv_at hl 0 rfl) ?_
      refine lv_iload_n hx hb dX11_at_11 rfl (lv_at hl 1 rfl) ?_
      refine va_iald hx hb hK hP 0 0 rfl rfl (z_inN (by omega) (by omega)) dX11_at_12 ?_
      refine lv_topi (fun x_7 _ => ?_)
      refine lv_goto (tgt := 17) hx hb dX11_at_13 (by decide) ?_
      exact hret _ _ _ _ _ _ () [0] hP hD hS rfl (by decide) dX11_at_17 trivial
set_option maxHeartbeats 4000000 in
set_option maxRecDepth 100000 in
theorem d_keepAt_60 (l : Launch) (G : va_G) (cA : zCA) (a : Nat) (c_a : Nat → Int32) (i : Int32) (v : Int32) : zCv l yX11_keepAt cX11_keepAt 3 none ({ frames := 0, cells := 0, slots := 0, locals := 0 }) G cA [.ref a, .int i, .int v] [(a, .inl (cA.1 0, 60, .inl c_a))] (S := (Nat → Int32)) (fun (u : (Nat → Int32)) => True) (fun (u : (Nat → Int32)) => [(a, .inl (cA.1 0, 60, .inl u))]) 0 0 := by
  refine z_start2v (own := RX11) (by decide) (Nat.le_of_ble_eq_true rfl) rfl ?_
  intro p e s m args below meth c A ls Q hx hb hml hts hown hK hE hT hP hD hS hA hl hret
  have hl : lv_has ls 3 [(0, .ref a), (1, .int i), (2, .int v)] := hl
  refine lv_iload_n hx hb dX11_keepAt_0 rfl (lv_at hl 1 rfl) ?_
  refine lv_if_lt (tgt := 14) hx hb dX11_keepAt_1 (by decide) (fun c_1 => ?_) (fun c_1 => ?_)
  · have b_2 := z_b3 c_1 (K := 0) (by decide +kernel)
    exact hret _ _ _ _ _ c_a [0] hP hD hS rfl (by decide) dX11_keepAt_14 trivial
  · have b_3 := z_b4 c_1 (K := 0) (by decide +kernel)
    refine lv_iload_n hx hb dX11_keepAt_4 rfl (lv_at hl 1 rfl) ?_
    refine lv_aload_n hx hb dX11_keepAt_5 rfl (lv_at hl 0 rfl) ?_
    refine va_alen (v := 60) hx hb hK hP 0 0 rfl rfl (show Int32.ofNat 60 = 60 by decide +kernel) dX11_keepAt_6 ?_
    refine lv_icmp_ge (tgt := 14) hx hb dX11_keepAt_7 (by decide) (fun c_4 => ?_) (fun c_4 => ?_)
    · have b_5 := z_b1 c_4 (K := 60) (by decide +kernel)
      exact hret _ _ _ _ _ c_a [0] hP hD hS rfl (by decide) dX11_keepAt_14 trivial
    · have b_6 := z_b2 c_4 (K := 60) (by decide +kernel)
      refine lv_aload_n hx hb dX11_keepAt_10 rfl (lv_at hl 0 rfl) ?_
      refine lv_iload_n hx hb dX11_keepAt_11 rfl (lv_at hl 1 rfl) ?_
      refine lv_iload_n hx hb dX11_keepAt_12 rfl (lv_at hl 2 rfl) ?_
      refine va_iast hx hb hK hP hD hS 0 0 rfl rfl (z_inN (by omega) (by omega)) dX11_keepAt_13 (fun H locs hP hD hS => ?_)
      have hP : va_P G vwCl [(a, .inl (cA.1 0, 60, .inl (upd c_a (i : Int32).toNatClampNeg v)))] H := hP
      have hD : va_D A [(a, .inl (cA.1 0, 60, .inl (upd c_a (i : Int32).toNatClampNeg v)))] := hD
      generalize hg_g_7 : (upd c_a (i : Int32).toNatClampNeg v) = g_7 at hP hD
      exact hret _ _ _ _ _ g_7 [0] hP hD hS rfl (by decide) dX11_keepAt_14 trivial
set_option maxHeartbeats 40000000 in
set_option maxRecDepth 100000 in
theorem d_longAt_3 (l : Launch) (G : va_G) (cA : zCA) (a : Nat) (c_a : Nat → Int64) (i : Int32) : zCl l yX11_longAt cX11_longAt 2 (some .long) ({ frames := 0, cells := 0, slots := 0, locals := 0 }) G cA [.ref a, .int i] [(a, .inl (cA.1 1, 3, .inr (.inl c_a)))] (S := Unit) (fun (r : Int64) (u : Unit) => (r = (F_longAt_3 c_a i)) ∧ (True)) (fun (u : Unit) => [(a, .inl (cA.1 1, 3, .inr (.inl c_a)))]) 0 0 := by
  refine z_start2l (own := RX11) (by decide) (Nat.le_of_ble_eq_true rfl) rfl ?_
  intro p e s m args below meth c A ls Q hx hb hml hts hown hK hE hT hP hD hS hA hl hret
  have hl : lv_has ls 2 [(0, .ref a), (1, .int i)] := hl
  refine lv_iload_n hx hb dX11_longAt_0 rfl (lv_at hl 1 rfl) ?_
  refine lv_if_lt (tgt := 16) hx hb dX11_longAt_1 (by decide) (fun c_1 => ?_) (fun c_1 => ?_)
  · have b_2 := z_b3 c_1 (K := 0) (by decide +kernel)
    refine lv_lconst (v := 0) hx hb dX11_longAt_16 (by decide) ?_
    have hX_3 : F_longAt_3 c_a i = ((0 : Int64) : Int64) := by
      refine (F_longAt_3_s ..).trans ?_
      refine (if_pos c_1).trans ?_
      exact rfl
    exact hret _ _ _ _ _ _ () [0] hP hD hS rfl (by decide) dX11_longAt_17 ⟨(congrArg (fun z9 => z9) hX_3).symm, trivial⟩
  · have b_4 := z_b4 c_1 (K := 0) (by decide +kernel)
    refine lv_iload_n hx hb dX11_longAt_4 rfl (lv_at hl 1 rfl) ?_
    refine lv_aload_n hx hb dX11_longAt_5 rfl (lv_at hl 0 rfl) ?_
    refine va_alen (v := 3) hx hb hK hP 0 1 rfl rfl (show Int32.ofNat 3 = 3 by decide +kernel) dX11_longAt_6 ?_
    refine lv_icmp_ge (tgt := 16) hx hb dX11_longAt_7 (by decide) (fun c_5 => ?_) (fun c_5 => ?_)
    · have b_6 := z_b1 c_5 (K := 3) (by decide +kernel)
      refine lv_lconst (v := 0) hx hb dX11_longAt_16 (by decide) ?_
      have hX_7 : F_longAt_3 c_a i = ((0 : Int64) : Int64) := by
        refine (F_longAt_3_s ..).trans ?_
        refine (if_neg c_1).trans ?_
        refine (if_pos c_5).trans ?_
        exact rfl
      exact hret _ _ _ _ _ _ () [0] hP hD hS rfl (by decide) dX11_longAt_17 ⟨(congrArg (fun z9 => z9) hX_7).symm, trivial⟩
    · have b_8 := z_b2 c_5 (K := 3) (by decide +kernel)
      refine lv_aload_n hx hb dX11_longAt_10 rfl (lv_at hl 0 rfl) ?_
      refine lv_iload_n hx hb dX11_longAt_11 rfl (lv_at hl 1 rfl) ?_
      refine va_lald hx hb hK hP 0 1 rfl rfl (z_inN (by omega) (by omega)) dX11_longAt_12 ?_
      refine lv_topl (fun x_9 he_x_9 => ?_)
      refine lv_goto (tgt := 17) hx hb dX11_longAt_13 (by decide) ?_
      have hX_10 : F_longAt_3 c_a i = (x_9 : Int64) := by
        refine (F_longAt_3_s ..).trans ?_
        refine (if_neg c_1).trans ?_
        refine (if_neg c_5).trans ?_
        try (extract_lets -merge -useContext +onlyGivenNames y9; have e9 : x_9 = y9 := (by first | exact he_x_9 | exact he_x_9.symm); clear_value y9; subst e9)
        exact rfl
      exact hret _ _ _ _ _ _ () [0] hP hD hS rfl (by decide) dX11_longAt_17 ⟨(congrArg (fun z9 => z9) hX_10).symm, trivial⟩
set_option maxHeartbeats 40000000 in
set_option maxRecDepth 100000 in
theorem d_keepLongAt_3 (l : Launch) (G : va_G) (cA : zCA) (a : Nat) (c_a : Nat → Int64) (i : Int32) (v : Int64) : zCv l yX11_keepLongAt cX11_keepLongAt 4 none ({ frames := 0, cells := 0, slots := 0, locals := 0 }) G cA [.ref a, .int i, .long v] [(a, .inl (cA.1 1, 3, .inr (.inl c_a)))] (S := (Nat → Int64)) (fun (u : (Nat → Int64)) => (u = (F_keepLongAt_3 c_a i v)) ∧ (True)) (fun (u : (Nat → Int64)) => [(a, .inl (cA.1 1, 3, .inr (.inl u)))]) 0 0 := by
  refine z_start2v (own := RX11) (by decide) (Nat.le_of_ble_eq_true rfl) rfl ?_
  intro p e s m args below meth c A ls Q hx hb hml hts hown hK hE hT hP hD hS hA hl hret
  have hl : lv_has ls 4 [(0, .ref a), (1, .int i), (2, .long v)] := hl
  refine lv_iload_n hx hb dX11_keepLongAt_0 rfl (lv_at hl 1 rfl) ?_
  refine lv_if_lt (tgt := 14) hx hb dX11_keepLongAt_1 (by decide) (fun c_1 => ?_) (fun c_1 => ?_)
  · have b_2 := z_b3 c_1 (K := 0) (by decide +kernel)
    have hX_3 : F_keepLongAt_3 c_a i v = (c_a : (Nat → Int64)) := by
      refine (F_keepLongAt_3_s ..).trans ?_
      refine (if_pos c_1).trans ?_
      exact rfl
    exact hret _ _ _ _ _ c_a [0] hP hD hS rfl (by decide) dX11_keepLongAt_14 ⟨(congrArg (fun z9 => z9) hX_3).symm, trivial⟩
  · have b_4 := z_b4 c_1 (K := 0) (by decide +kernel)
    refine lv_iload_n hx hb dX11_keepLongAt_4 rfl (lv_at hl 1 rfl) ?_
    refine lv_aload_n hx hb dX11_keepLongAt_5 rfl (lv_at hl 0 rfl) ?_
    refine va_alen (v := 3) hx hb hK hP 0 1 rfl rfl (show Int32.ofNat 3 = 3 by decide +kernel) dX11_keepLongAt_6 ?_
    refine lv_icmp_ge (tgt := 14) hx hb dX11_keepLongAt_7 (by decide) (fun c_5 => ?_) (fun c_5 => ?_)
    · have b_6 := z_b1 c_5 (K := 3) (by decide +kernel)
      have hX_7 : F_keepLongAt_3 c_a i v = (c_a : (Nat → Int64)) := by
        refine (F_keepLongAt_3_s ..).trans ?_
        refine (if_neg c_1).trans ?_
        refine (if_pos c_5).trans ?_
        exact rfl
      exact hret _ _ _ _ _ c_a [0] hP hD hS rfl (by decide) dX11_keepLongAt_14 ⟨(congrArg (fun z9 => z9) hX_7).symm, trivial⟩
    · have b_8 := z_b2 c_5 (K := 3) (by decide +kernel)
      refine lv_aload_n hx hb dX11_keepLongAt_10 rfl (lv_at hl 0 rfl) ?_
      refine lv_iload_n hx hb dX11_keepLongAt_11 rfl (lv_at hl 1 rfl) ?_
      refine lv_lload_n hx hb dX11_keepLongAt_12 rfl (lv_at hl 2 rfl) ?_
      refine va_last hx hb hK hP hD hS 0 1 rfl rfl (z_inN (by omega) (by omega)) dX11_keepLongAt_13 (fun H locs hP hD hS => ?_)
      have hP : va_P G vwCl [(a, .inl (cA.1 1, 3, .inr (.inl (vp_updL c_a (i : Int32).toNatClampNeg v))))] H := hP
      have hD : va_D A [(a, .inl (cA.1 1, 3, .inr (.inl (vp_updL c_a (i : Int32).toNatClampNeg v))))] := hD
      generalize hg_g_9 : (vp_updL c_a (i : Int32).toNatClampNeg v) = g_9 at hP hD
      have hX_10 : F_keepLongAt_3 c_a i v = (g_9 : (Nat → Int64)) := by
        refine (F_keepLongAt_3_s ..).trans ?_
        refine (if_neg c_1).trans ?_
        refine (if_neg c_5).trans ?_
        try (extract_lets -merge -useContext +onlyGivenNames y9; have e9 : g_9 = y9 := (by first | exact hg_g_9 | exact hg_g_9.symm); clear_value y9; subst e9)
        exact rfl
      exact hret _ _ _ _ _ g_9 [0] hP hD hS rfl (by decide) dX11_keepLongAt_14 ⟨(congrArg (fun z9 => z9) hX_10).symm, trivial⟩
set_option maxHeartbeats 40000000 in
set_option maxRecDepth 100000 in
theorem d_longAt_5 (l : Launch) (G : va_G) (cA : zCA) (a : Nat) (c_a : Nat → Int64) (i : Int32) : zCl l yX11_longAt cX11_longAt 2 (some .long) ({ frames := 0, cells := 0, slots := 0, locals := 0 }) G cA [.ref a, .int i] [(a, .inl (cA.1 1, 5, .inr (.inl c_a)))] (S := Unit) (fun (r : Int64) (u : Unit) => (r = (F_longAt_5 c_a i)) ∧ (True)) (fun (u : Unit) => [(a, .inl (cA.1 1, 5, .inr (.inl c_a)))]) 0 0 := by
  refine z_start2l (own := RX11) (by decide) (Nat.le_of_ble_eq_true rfl) rfl ?_
  intro p e s m args below meth c A ls Q hx hb hml hts hown hK hE hT hP hD hS hA hl hret
  have hl : lv_has ls 2 [(0, .ref a), (1, .int i)] := hl
  refine lv_iload_n hx hb dX11_longAt_0 rfl (lv_at hl 1 rfl) ?_
  refine lv_if_lt (tgt := 16) hx hb dX11_longAt_1 (by decide) (fun c_1 => ?_) (fun c_1 => ?_)
  · have b_2 := z_b3 c_1 (K := 0) (by decide +kernel)
    refine lv_lconst (v := 0) hx hb dX11_longAt_16 (by decide) ?_
    have hX_3 : F_longAt_5 c_a i = ((0 : Int64) : Int64) := by
      refine (F_longAt_5_s ..).trans ?_
      refine (if_pos c_1).trans ?_
      exact rfl
    exact hret _ _ _ _ _ _ () [0] hP hD hS rfl (by decide) dX11_longAt_17 ⟨(congrArg (fun z9 => z9) hX_3).symm, trivial⟩
  · have b_4 := z_b4 c_1 (K := 0) (by decide +kernel)
    refine lv_iload_n hx hb dX11_longAt_4 rfl (lv_at hl 1 rfl) ?_
    refine lv_aload_n hx hb dX11_longAt_5 rfl (lv_at hl 0 rfl) ?_
    refine va_alen (v := 5) hx hb hK hP 0 1 rfl rfl (show Int32.ofNat 5 = 5 by decide +kernel) dX11_longAt_6 ?_
    refine lv_icmp_ge (tgt := 16) hx hb dX11_longAt_7 (by decide) (fun c_5 => ?_) (fun c_5 => ?_)
    · have b_6 := z_b1 c_5 (K := 5) (by decide +kernel)
      refine lv_lconst (v := 0) hx hb dX11_longAt_16 (by decide) ?_
      have hX_7 : F_longAt_5 c_a i = ((0 : Int64) : Int64) := by
        refine (F_longAt_5_s ..).trans ?_
        refine (if_neg c_1).trans ?_
        refine (if_pos c_5).trans ?_
        exact rfl
      exact hret _ _ _ _ _ _ () [0] hP hD hS rfl (by decide) dX11_longAt_17 ⟨(congrArg (fun z9 => z9) hX_7).symm, trivial⟩
    · have b_8 := z_b2 c_5 (K := 5) (by decide +kernel)
      refine lv_aload_n hx hb dX11_longAt_10 rfl (lv_at hl 0 rfl) ?_
      refine lv_iload_n hx hb dX11_longAt_11 rfl (lv_at hl 1 rfl) ?_
      refine va_lald hx hb hK hP 0 1 rfl rfl (z_inN (by omega) (by omega)) dX11_longAt_12 ?_
      refine lv_topl (fun x_9 he_x_9 => ?_)
      refine lv_goto (tgt := 17) hx hb dX11_longAt_13 (by decide) ?_
      have hX_10 : F_longAt_5 c_a i = (x_9 : Int64) := by
        refine (F_longAt_5_s ..).trans ?_
        refine (if_neg c_1).trans ?_
        refine (if_neg c_5).trans ?_
        try (extract_lets -merge -useContext +onlyGivenNames y9; have e9 : x_9 = y9 := (by first | exact he_x_9 | exact he_x_9.symm); clear_value y9; subst e9)
        exact rfl
      exact hret _ _ _ _ _ _ () [0] hP hD hS rfl (by decide) dX11_longAt_17 ⟨(congrArg (fun z9 => z9) hX_10).symm, trivial⟩
set_option maxHeartbeats 40000000 in
set_option maxRecDepth 100000 in
theorem d_keepLongAt_5 (l : Launch) (G : va_G) (cA : zCA) (a : Nat) (c_a : Nat → Int64) (i : Int32) (v : Int64) : zCv l yX11_keepLongAt cX11_keepLongAt 4 none ({ frames := 0, cells := 0, slots := 0, locals := 0 }) G cA [.ref a, .int i, .long v] [(a, .inl (cA.1 1, 5, .inr (.inl c_a)))] (S := (Nat → Int64)) (fun (u : (Nat → Int64)) => (u = (F_keepLongAt_5 c_a i v)) ∧ (True)) (fun (u : (Nat → Int64)) => [(a, .inl (cA.1 1, 5, .inr (.inl u)))]) 0 0 := by
  refine z_start2v (own := RX11) (by decide) (Nat.le_of_ble_eq_true rfl) rfl ?_
  intro p e s m args below meth c A ls Q hx hb hml hts hown hK hE hT hP hD hS hA hl hret
  have hl : lv_has ls 4 [(0, .ref a), (1, .int i), (2, .long v)] := hl
  refine lv_iload_n hx hb dX11_keepLongAt_0 rfl (lv_at hl 1 rfl) ?_
  refine lv_if_lt (tgt := 14) hx hb dX11_keepLongAt_1 (by decide) (fun c_1 => ?_) (fun c_1 => ?_)
  · have b_2 := z_b3 c_1 (K := 0) (by decide +kernel)
    have hX_3 : F_keepLongAt_5 c_a i v = (c_a : (Nat → Int64)) := by
      refine (F_keepLongAt_5_s ..).trans ?_
      refine (if_pos c_1).trans ?_
      exact rfl
    exact hret _ _ _ _ _ c_a [0] hP hD hS rfl (by decide) dX11_keepLongAt_14 ⟨(congrArg (fun z9 => z9) hX_3).symm, trivial⟩
  · have b_4 := z_b4 c_1 (K := 0) (by decide +kernel)
    refine lv_iload_n hx hb dX11_keepLongAt_4 rfl (lv_at hl 1 rfl) ?_
    refine lv_aload_n hx hb dX11_keepLongAt_5 rfl (lv_at hl 0 rfl) ?_
    refine va_alen (v := 5) hx hb hK hP 0 1 rfl rfl (show Int32.ofNat 5 = 5 by decide +kernel) dX11_keepLongAt_6 ?_
    refine lv_icmp_ge (tgt := 14) hx hb dX11_keepLongAt_7 (by decide) (fun c_5 => ?_) (fun c_5 => ?_)
    · have b_6 := z_b1 c_5 (K := 5) (by decide +kernel)
      have hX_7 : F_keepLongAt_5 c_a i v = (c_a : (Nat → Int64)) := by
        refine (F_keepLongAt_5_s ..).trans ?_
        refine (if_neg c_1).trans ?_
        refine (if_pos c_5).trans ?_
        exact rfl
      exact hret _ _ _ _ _ c_a [0] hP hD hS rfl (by decide) dX11_keepLongAt_14 ⟨(congrArg (fun z9 => z9) hX_7).symm, trivial⟩
    · have b_8 := z_b2 c_5 (K := 5) (by decide +kernel)
      refine lv_aload_n hx hb dX11_keepLongAt_10 rfl (lv_at hl 0 rfl) ?_
      refine lv_iload_n hx hb dX11_keepLongAt_11 rfl (lv_at hl 1 rfl) ?_
      refine lv_lload_n hx hb dX11_keepLongAt_12 rfl (lv_at hl 2 rfl) ?_
      refine va_last hx hb hK hP hD hS 0 1 rfl rfl (z_inN (by omega) (by omega)) dX11_keepLongAt_13 (fun H locs hP hD hS => ?_)
      have hP : va_P G vwCl [(a, .inl (cA.1 1, 5, .inr (.inl (vp_updL c_a (i : Int32).toNatClampNeg v))))] H := hP
      have hD : va_D A [(a, .inl (cA.1 1, 5, .inr (.inl (vp_updL c_a (i : Int32).toNatClampNeg v))))] := hD
      generalize hg_g_9 : (vp_updL c_a (i : Int32).toNatClampNeg v) = g_9 at hP hD
      have hX_10 : F_keepLongAt_5 c_a i v = (g_9 : (Nat → Int64)) := by
        refine (F_keepLongAt_5_s ..).trans ?_
        refine (if_neg c_1).trans ?_
        refine (if_neg c_5).trans ?_
        try (extract_lets -merge -useContext +onlyGivenNames y9; have e9 : g_9 = y9 := (by first | exact hg_g_9 | exact hg_g_9.symm); clear_value y9; subst e9)
        exact rfl
      exact hret _ _ _ _ _ g_9 [0] hP hD hS rfl (by decide) dX11_keepLongAt_14 ⟨(congrArg (fun z9 => z9) hX_10).symm, trivial⟩
set_option maxHeartbeats 40000000 in
set_option maxRecDepth 100000 in
theorem d_longAt_10 (l : Launch) (G : va_G) (cA : zCA) (a : Nat) (c_a : Nat → Int64) (i : Int32) : zCl l yX11_longAt cX11_longAt 2 (some .long) ({ frames := 0, cells := 0, slots := 0, locals := 0 }) G cA [.ref a, .int i] [(a, .inl (cA.1 1, 10, .inr (.inl c_a)))] (S := Unit) (fun (r : Int64) (u : Unit) => (r = (F_longAt_10 c_a i)) ∧ (True)) (fun (u : Unit) => [(a, .inl (cA.1 1, 10, .inr (.inl c_a)))]) 0 0 := by
  refine z_start2l (own := RX11) (by decide) (Nat.le_of_ble_eq_true rfl) rfl ?_
  intro p e s m args below meth c A ls Q hx hb hml hts hown hK hE hT hP hD hS hA hl hret
  have hl : lv_has ls 2 [(0, .ref a), (1, .int i)] := hl
  refine lv_iload_n hx hb dX11_longAt_0 rfl (lv_at hl 1 rfl) ?_
  refine lv_if_lt (tgt := 16) hx hb dX11_longAt_1 (by decide) (fun c_1 => ?_) (fun c_1 => ?_)
  · have b_2 := z_b3 c_1 (K := 0) (by decide +kernel)
    refine lv_lconst (v := 0) hx hb dX11_longAt_16 (by decide) ?_
    have hX_3 : F_longAt_10 c_a i = ((0 : Int64) : Int64) := by
      refine (F_longAt_10_s ..).trans ?_
      refine (if_pos c_1).trans ?_
      exact rfl
    exact hret _ _ _ _ _ _ () [0] hP hD hS rfl (by decide) dX11_longAt_17 ⟨(congrArg (fun z9 => z9) hX_3).symm, trivial⟩
  · have b_4 := z_b4 c_1 (K := 0) (by decide +kernel)
    refine lv_iload_n hx hb dX11_longAt_4 rfl (lv_at hl 1 rfl) ?_
    refine lv_aload_n hx hb dX11_longAt_5 rfl (lv_at hl 0 rfl) ?_
    refine va_alen (v := 10) hx hb hK hP 0 1 rfl rfl (show Int32.ofNat 10 = 10 by decide +kernel) dX11_longAt_6 ?_
    refine lv_icmp_ge (tgt := 16) hx hb dX11_longAt_7 (by decide) (fun c_5 => ?_) (fun c_5 => ?_)
    · have b_6 := z_b1 c_5 (K := 10) (by decide +kernel)
      refine lv_lconst (v := 0) hx hb dX11_longAt_16 (by decide) ?_
      have hX_7 : F_longAt_10 c_a i = ((0 : Int64) : Int64) := by
        refine (F_longAt_10_s ..).trans ?_
        refine (if_neg c_1).trans ?_
        refine (if_pos c_5).trans ?_
        exact rfl
      exact hret _ _ _ _ _ _ () [0] hP hD hS rfl (by decide) dX11_longAt_17 ⟨(congrArg (fun z9 => z9) hX_7).symm, trivial⟩
    · have b_8 := z_b2 c_5 (K := 10) (by decide +kernel)
      refine lv_aload_n hx hb dX11_longAt_10 rfl (lv_at hl 0 rfl) ?_
      refine lv_iload_n hx hb dX11_longAt_11 rfl (lv_at hl 1 rfl) ?_
      refine va_lald hx hb hK hP 0 1 rfl rfl (z_inN (by omega) (by omega)) dX11_longAt_12 ?_
      refine lv_topl (fun x_9 he_x_9 => ?_)
      refine lv_goto (tgt := 17) hx hb dX11_longAt_13 (by decide) ?_
      have hX_10 : F_longAt_10 c_a i = (x_9 : Int64) := by
        refine (F_longAt_10_s ..).trans ?_
        refine (if_neg c_1).trans ?_
        refine (if_neg c_5).trans ?_
        try (extract_lets -merge -useContext +onlyGivenNames y9; have e9 : x_9 = y9 := (by first | exact he_x_9 | exact he_x_9.symm); clear_value y9; subst e9)
        exact rfl
      exact hret _ _ _ _ _ _ () [0] hP hD hS rfl (by decide) dX11_longAt_17 ⟨(congrArg (fun z9 => z9) hX_10).symm, trivial⟩
set_option maxHeartbeats 40000000 in
set_option maxRecDepth 100000 in
theorem d_keepLongAt_10 (l : Launch) (G : va_G) (cA : zCA) (a : Nat) (c_a : Nat → Int64) (i : Int32) (v : Int64) : zCv l yX11_keepLongAt cX11_keepLongAt 4 none ({ frames := 0, cells := 0, slots := 0, locals := 0 }) G cA [.ref a, .int i, .long v] [(a, .inl (cA.1 1, 10, .inr (.inl c_a)))] (S := (Nat → Int64)) (fun (u : (Nat → Int64)) => (u = (F_keepLongAt_10 c_a i v)) ∧ (True)) (fun (u : (Nat → Int64)) => [(a, .inl (cA.1 1, 10, .inr (.inl u)))]) 0 0 := by
  refine z_start2v (own := RX11) (by decide) (Nat.le_of_ble_eq_true rfl) rfl ?_
  intro p e s m args below meth c A ls Q hx hb hml hts hown hK hE hT hP hD hS hA hl hret
  have hl : lv_has ls 4 [(0, .ref a), (1, .int i), (2, .long v)] := hl
  refine lv_iload_n hx hb dX11_keepLongAt_0 rfl (lv_at hl 1 rfl) ?_
  refine lv_if_lt (tgt := 14) hx hb dX11_keepLongAt_1 (by decide) (fun c_1 => ?_) (fun c_1 => ?_)
  · have b_2 := z_b3 c_1 (K := 0) (by decide +kernel)
    have hX_3 : F_keepLongAt_10 c_a i v = (c_a : (Nat → Int64)) := by
      refine (F_keepLongAt_10_s ..).trans ?_
      refine (if_pos c_1).trans ?_
      exact rfl
    exact hret _ _ _ _ _ c_a [0] hP hD hS rfl (by decide) dX11_keepLongAt_14 ⟨(congrArg (fun z9 => z9) hX_3).symm, trivial⟩
  · have b_4 := z_b4 c_1 (K := 0) (by decide +kernel)
    refine lv_iload_n hx hb dX11_keepLongAt_4 rfl (lv_at hl 1 rfl) ?_
    refine lv_aload_n hx hb dX11_keepLongAt_5 rfl (lv_at hl 0 rfl) ?_
    refine va_alen (v := 10) hx hb hK hP 0 1 rfl rfl (show Int32.ofNat 10 = 10 by decide +kernel) dX11_keepLongAt_6 ?_
    refine lv_icmp_ge (tgt := 14) hx hb dX11_keepLongAt_7 (by decide) (fun c_5 => ?_) (fun c_5 => ?_)
    · have b_6 := z_b1 c_5 (K := 10) (by decide +kernel)
      have hX_7 : F_keepLongAt_10 c_a i v = (c_a : (Nat → Int64)) := by
        refine (F_keepLongAt_10_s ..).trans ?_
        refine (if_neg c_1).trans ?_
        refine (if_pos c_5).trans ?_
        exact rfl
      exact hret _ _ _ _ _ c_a [0] hP hD hS rfl (by decide) dX11_keepLongAt_14 ⟨(congrArg (fun z9 => z9) hX_7).symm, trivial⟩
    · have b_8 := z_b2 c_5 (K := 10) (by decide +kernel)
      refine lv_aload_n hx hb dX11_keepLongAt_10 rfl (lv_at hl 0 rfl) ?_
      refine lv_iload_n hx hb dX11_keepLongAt_11 rfl (lv_at hl 1 rfl) ?_
      refine lv_lload_n hx hb dX11_keepLongAt_12 rfl (lv_at hl 2 rfl) ?_
      refine va_last hx hb hK hP hD hS 0 1 rfl rfl (z_inN (by omega) (by omega)) dX11_keepLongAt_13 (fun H locs hP hD hS => ?_)
      have hP : va_P G vwCl [(a, .inl (cA.1 1, 10, .inr (.inl (vp_updL c_a (i : Int32).toNatClampNeg v))))] H := hP
      have hD : va_D A [(a, .inl (cA.1 1, 10, .inr (.inl (vp_updL c_a (i : Int32).toNatClampNeg v))))] := hD
      generalize hg_g_9 : (vp_updL c_a (i : Int32).toNatClampNeg v) = g_9 at hP hD
      have hX_10 : F_keepLongAt_10 c_a i v = (g_9 : (Nat → Int64)) := by
        refine (F_keepLongAt_10_s ..).trans ?_
        refine (if_neg c_1).trans ?_
        refine (if_neg c_5).trans ?_
        try (extract_lets -merge -useContext +onlyGivenNames y9; have e9 : g_9 = y9 := (by first | exact hg_g_9 | exact hg_g_9.symm); clear_value y9; subst e9)
        exact rfl
      exact hret _ _ _ _ _ g_9 [0] hP hD hS rfl (by decide) dX11_keepLongAt_14 ⟨(congrArg (fun z9 => z9) hX_10).symm, trivial⟩
set_option maxHeartbeats 40000000 in
set_option maxRecDepth 100000 in
theorem d_longAt_20 (l : Launch) (G : va_G) (cA : zCA) (a : Nat) (c_a : Nat → Int64) (i : Int32) : zCl l yX11_longAt cX11_longAt 2 (some .long) ({ frames := 0, cells := 0, slots := 0, locals := 0 }) G cA [.ref a, .int i] [(a, .inl (cA.1 1, 20, .inr (.inl c_a)))] (S := Unit) (fun (r : Int64) (u : Unit) => (r = (F_longAt_20 c_a i)) ∧ (True)) (fun (u : Unit) => [(a, .inl (cA.1 1, 20, .inr (.inl c_a)))]) 0 0 := by
  refine z_start2l (own := RX11) (by decide) (Nat.le_of_ble_eq_true rfl) rfl ?_
  intro p e s m args below meth c A ls Q hx hb hml hts hown hK hE hT hP hD hS hA hl hret
  have hl : lv_has ls 2 [(0, .ref a), (1, .int i)] := hl
  refine lv_iload_n hx hb dX11_longAt_0 rfl (lv_at hl 1 rfl) ?_
  refine lv_if_lt (tgt := 16) hx hb dX11_longAt_1 (by decide) (fun c_1 => ?_) (fun c_1 => ?_)
  · have b_2 := z_b3 c_1 (K := 0) (by decide +kernel)
    refine lv_lconst (v := 0) hx hb dX11_longAt_16 (by decide) ?_
    have hX_3 : F_longAt_20 c_a i = ((0 : Int64) : Int64) := by
      refine (F_longAt_20_s ..).trans ?_
      refine (if_pos c_1).trans ?_
      exact rfl
    exact hret _ _ _ _ _ _ () [0] hP hD hS rfl (by decide) dX11_longAt_17 ⟨(congrArg (fun z9 => z9) hX_3).symm, trivial⟩
  · have b_4 := z_b4 c_1 (K := 0) (by decide +kernel)
    refine lv_iload_n hx hb dX11_longAt_4 rfl (lv_at hl 1 rfl) ?_
    refine lv_aload_n hx hb dX11_longAt_5 rfl (lv_at hl 0 rfl) ?_
    refine va_alen (v := 20) hx hb hK hP 0 1 rfl rfl (show Int32.ofNat 20 = 20 by decide +kernel) dX11_longAt_6 ?_
    refine lv_icmp_ge (tgt := 16) hx hb dX11_longAt_7 (by decide) (fun c_5 => ?_) (fun c_5 => ?_)
    · have b_6 := z_b1 c_5 (K := 20) (by decide +kernel)
      refine lv_lconst (v := 0) hx hb dX11_longAt_16 (by decide) ?_
      have hX_7 : F_longAt_20 c_a i = ((0 : Int64) : Int64) := by
        refine (F_longAt_20_s ..).trans ?_
        refine (if_neg c_1).trans ?_
        refine (if_pos c_5).trans ?_
        exact rfl
      exact hret _ _ _ _ _ _ () [0] hP hD hS rfl (by decide) dX11_longAt_17 ⟨(congrArg (fun z9 => z9) hX_7).symm, trivial⟩
    · have b_8 := z_b2 c_5 (K := 20) (by decide +kernel)
      refine lv_aload_n hx hb dX11_longAt_10 rfl (lv_at hl 0 rfl) ?_
      refine lv_iload_n hx hb dX11_longAt_11 rfl (lv_at hl 1 rfl) ?_
      refine va_lald hx hb hK hP 0 1 rfl rfl (z_inN (by omega) (by omega)) dX11_longAt_12 ?_
      refine lv_topl (fun x_9 he_x_9 => ?_)
      refine lv_goto (tgt := 17) hx hb dX11_longAt_13 (by decide) ?_
      have hX_10 : F_longAt_20 c_a i = (x_9 : Int64) := by
        refine (F_longAt_20_s ..).trans ?_
        refine (if_neg c_1).trans ?_
        refine (if_neg c_5).trans ?_
        try (extract_lets -merge -useContext +onlyGivenNames y9; have e9 : x_9 = y9 := (by first | exact he_x_9 | exact he_x_9.symm); clear_value y9; subst e9)
        exact rfl
      exact hret _ _ _ _ _ _ () [0] hP hD hS rfl (by decide) dX11_longAt_17 ⟨(congrArg (fun z9 => z9) hX_10).symm, trivial⟩
set_option maxHeartbeats 40000000 in
set_option maxRecDepth 100000 in
theorem d_keepLongAt_20 (l : Launch) (G : va_G) (cA : zCA) (a : Nat) (c_a : Nat → Int64) (i : Int32) (v : Int64) : zCv l yX11_keepLongAt cX11_keepLongAt 4 none ({ frames := 0, cells := 0, slots := 0, locals := 0 }) G cA [.ref a, .int i, .long v] [(a, .inl (cA.1 1, 20, .inr (.inl c_a)))] (S := (Nat → Int64)) (fun (u : (Nat → Int64)) => (u = (F_keepLongAt_20 c_a i v)) ∧ (True)) (fun (u : (Nat → Int64)) => [(a, .inl (cA.1 1, 20, .inr (.inl u)))]) 0 0 := by
  refine z_start2v (own := RX11) (by decide) (Nat.le_of_ble_eq_true rfl) rfl ?_
  intro p e s m args below meth c A ls Q hx hb hml hts hown hK hE hT hP hD hS hA hl hret
  have hl : lv_has ls 4 [(0, .ref a), (1, .int i), (2, .long v)] := hl
  refine lv_iload_n hx hb dX11_keepLongAt_0 rfl (lv_at hl 1 rfl) ?_
  refine lv_if_lt (tgt := 14) hx hb dX11_keepLongAt_1 (by decide) (fun c_1 => ?_) (fun c_1 => ?_)
  · have b_2 := z_b3 c_1 (K := 0) (by decide +kernel)
    have hX_3 : F_keepLongAt_20 c_a i v = (c_a : (Nat → Int64)) := by
      refine (F_keepLongAt_20_s ..).trans ?_
      refine (if_pos c_1).trans ?_
      exact rfl
    exact hret _ _ _ _ _ c_a [0] hP hD hS rfl (by decide) dX11_keepLongAt_14 ⟨(congrArg (fun z9 => z9) hX_3).symm, trivial⟩
  · have b_4 := z_b4 c_1 (K := 0) (by decide +kernel)
    refine lv_iload_n hx hb dX11_keepLongAt_4 rfl (lv_at hl 1 rfl) ?_
    refine lv_aload_n hx hb dX11_keepLongAt_5 rfl (lv_at hl 0 rfl) ?_
    refine va_alen (v := 20) hx hb hK hP 0 1 rfl rfl (show Int32.ofNat 20 = 20 by decide +kernel) dX11_keepLongAt_6 ?_
    refine lv_icmp_ge (tgt := 14) hx hb dX11_keepLongAt_7 (by decide) (fun c_5 => ?_) (fun c_5 => ?_)
    · have b_6 := z_b1 c_5 (K := 20) (by decide +kernel)
      have hX_7 : F_keepLongAt_20 c_a i v = (c_a : (Nat → Int64)) := by
        refine (F_keepLongAt_20_s ..).trans ?_
        refine (if_neg c_1).trans ?_
        refine (if_pos c_5).trans ?_
        exact rfl
      exact hret _ _ _ _ _ c_a [0] hP hD hS rfl (by decide) dX11_keepLongAt_14 ⟨(congrArg (fun z9 => z9) hX_7).symm, trivial⟩
    · have b_8 := z_b2 c_5 (K := 20) (by decide +kernel)
      refine lv_aload_n hx hb dX11_keepLongAt_10 rfl (lv_at hl 0 rfl) ?_
      refine lv_iload_n hx hb dX11_keepLongAt_11 rfl (lv_at hl 1 rfl) ?_
      refine lv_lload_n hx hb dX11_keepLongAt_12 rfl (lv_at hl 2 rfl) ?_
      refine va_last hx hb hK hP hD hS 0 1 rfl rfl (z_inN (by omega) (by omega)) dX11_keepLongAt_13 (fun H locs hP hD hS => ?_)
      have hP : va_P G vwCl [(a, .inl (cA.1 1, 20, .inr (.inl (vp_updL c_a (i : Int32).toNatClampNeg v))))] H := hP
      have hD : va_D A [(a, .inl (cA.1 1, 20, .inr (.inl (vp_updL c_a (i : Int32).toNatClampNeg v))))] := hD
      generalize hg_g_9 : (vp_updL c_a (i : Int32).toNatClampNeg v) = g_9 at hP hD
      have hX_10 : F_keepLongAt_20 c_a i v = (g_9 : (Nat → Int64)) := by
        refine (F_keepLongAt_20_s ..).trans ?_
        refine (if_neg c_1).trans ?_
        refine (if_neg c_5).trans ?_
        try (extract_lets -merge -useContext +onlyGivenNames y9; have e9 : g_9 = y9 := (by first | exact hg_g_9 | exact hg_g_9.symm); clear_value y9; subst e9)
        exact rfl
      exact hret _ _ _ _ _ g_9 [0] hP hD hS rfl (by decide) dX11_keepLongAt_14 ⟨(congrArg (fun z9 => z9) hX_10).symm, trivial⟩
set_option maxHeartbeats 40000000 in
set_option maxRecDepth 100000 in
theorem d_longAt_60 (l : Launch) (G : va_G) (cA : zCA) (a : Nat) (c_a : Nat → Int64) (i : Int32) : zCl l yX11_longAt cX11_longAt 2 (some .long) ({ frames := 0, cells := 0, slots := 0, locals := 0 }) G cA [.ref a, .int i] [(a, .inl (cA.1 1, 60, .inr (.inl c_a)))] (S := Unit) (fun (r : Int64) (u : Unit) => (r = (F_longAt_60 c_a i)) ∧ (True)) (fun (u : Unit) => [(a, .inl (cA.1 1, 60, .inr (.inl c_a)))]) 0 0 := by
  refine z_start2l (own := RX11) (by decide) (Nat.le_of_ble_eq_true rfl) rfl ?_
  intro p e s m args below meth c A ls Q hx hb hml hts hown hK hE hT hP hD hS hA hl hret
  have hl : lv_has ls 2 [(0, .ref a), (1, .int i)] := hl
  refine lv_iload_n hx hb dX11_longAt_0 rfl (lv_at hl 1 rfl) ?_
  refine lv_if_lt (tgt := 16) hx hb dX11_longAt_1 (by decide) (fun c_1 => ?_) (fun c_1 => ?_)
  · have b_2 := z_b3 c_1 (K := 0) (by decide +kernel)
    refine lv_lconst (v := 0) hx hb dX11_longAt_16 (by decide) ?_
    have hX_3 : F_longAt_60 c_a i = ((0 : Int64) : Int64) := by
      refine (F_longAt_60_s ..).trans ?_
      refine (if_pos c_1).trans ?_
      exact rfl
    exact hret _ _ _ _ _ _ () [0] hP hD hS rfl (by decide) dX11_longAt_17 ⟨(congrArg (fun z9 => z9) hX_3).symm, trivial⟩
  · have b_4 := z_b4 c_1 (K := 0) (by decide +kernel)
    refine lv_iload_n hx hb dX11_longAt_4 rfl (lv_at hl 1 rfl) ?_
    refine lv_aload_n hx hb dX11_longAt_5 rfl (lv_at hl 0 rfl) ?_
    refine va_alen (v := 60) hx hb hK hP 0 1 rfl rfl (show Int32.ofNat 60 = 60 by decide +kernel) dX11_longAt_6 ?_
    refine lv_icmp_ge (tgt := 16) hx hb dX11_longAt_7 (by decide) (fun c_5 => ?_) (fun c_5 => ?_)
    · have b_6 := z_b1 c_5 (K := 60) (by decide +kernel)
      refine lv_lconst (v := 0) hx hb dX11_longAt_16 (by decide) ?_
      have hX_7 : F_longAt_60 c_a i = ((0 : Int64) : Int64) := by
        refine (F_longAt_60_s ..).trans ?_
        refine (if_neg c_1).trans ?_
        refine (if_pos c_5).trans ?_
        exact rfl
      exact hret _ _ _ _ _ _ () [0] hP hD hS rfl (by decide) dX11_longAt_17 ⟨(congrArg (fun z9 => z9) hX_7).symm, trivial⟩
    · have b_8 := z_b2 c_5 (K := 60) (by decide +kernel)
      refine lv_aload_n hx hb dX11_longAt_10 rfl (lv_at hl 0 rfl) ?_
      refine lv_iload_n hx hb dX11_longAt_11 rfl (lv_at hl 1 rfl) ?_
      refine va_lald hx hb hK hP 0 1 rfl rfl (z_inN (by omega) (by omega)) dX11_longAt_12 ?_
      refine lv_topl (fun x_9 he_x_9 => ?_)
      refine lv_goto (tgt := 17) hx hb dX11_longAt_13 (by decide) ?_
      have hX_10 : F_longAt_60 c_a i = (x_9 : Int64) := by
        refine (F_longAt_60_s ..).trans ?_
        refine (if_neg c_1).trans ?_
        refine (if_neg c_5).trans ?_
        try (extract_lets -merge -useContext +onlyGivenNames y9; have e9 : x_9 = y9 := (by first | exact he_x_9 | exact he_x_9.symm); clear_value y9; subst e9)
        exact rfl
      exact hret _ _ _ _ _ _ () [0] hP hD hS rfl (by decide) dX11_longAt_17 ⟨(congrArg (fun z9 => z9) hX_10).symm, trivial⟩
set_option maxHeartbeats 40000000 in
set_option maxRecDepth 100000 in
theorem d_keepLongAt_60 (l : Launch) (G : va_G) (cA : zCA) (a : Nat) (c_a : Nat → Int64) (i : Int32) (v : Int64) : zCv l yX11_keepLongAt cX11_keepLongAt 4 none ({ frames := 0, cells := 0, slots := 0, locals := 0 }) G cA [.ref a, .int i, .long v] [(a, .inl (cA.1 1, 60, .inr (.inl c_a)))] (S := (Nat → Int64)) (fun (u : (Nat → Int64)) => (u = (F_keepLongAt_60 c_a i v)) ∧ (True)) (fun (u : (Nat → Int64)) => [(a, .inl (cA.1 1, 60, .inr (.inl u)))]) 0 0 := by
  refine z_start2v (own := RX11) (by decide) (Nat.le_of_ble_eq_true rfl) rfl ?_
  intro p e s m args below meth c A ls Q hx hb hml hts hown hK hE hT hP hD hS hA hl hret
  have hl : lv_has ls 4 [(0, .ref a), (1, .int i), (2, .long v)] := hl
  refine lv_iload_n hx hb dX11_keepLongAt_0 rfl (lv_at hl 1 rfl) ?_
  refine lv_if_lt (tgt := 14) hx hb dX11_keepLongAt_1 (by decide) (fun c_1 => ?_) (fun c_1 => ?_)
  · have b_2 := z_b3 c_1 (K := 0) (by decide +kernel)
    have hX_3 : F_keepLongAt_60 c_a i v = (c_a : (Nat → Int64)) := by
      refine (F_keepLongAt_60_s ..).trans ?_
      refine (if_pos c_1).trans ?_
      exact rfl
    exact hret _ _ _ _ _ c_a [0] hP hD hS rfl (by decide) dX11_keepLongAt_14 ⟨(congrArg (fun z9 => z9) hX_3).symm, trivial⟩
  · have b_4 := z_b4 c_1 (K := 0) (by decide +kernel)
    refine lv_iload_n hx hb dX11_keepLongAt_4 rfl (lv_at hl 1 rfl) ?_
    refine lv_aload_n hx hb dX11_keepLongAt_5 rfl (lv_at hl 0 rfl) ?_
    refine va_alen (v := 60) hx hb hK hP 0 1 rfl rfl (show Int32.ofNat 60 = 60 by decide +kernel) dX11_keepLongAt_6 ?_
    refine lv_icmp_ge (tgt := 14) hx hb dX11_keepLongAt_7 (by decide) (fun c_5 => ?_) (fun c_5 => ?_)
    · have b_6 := z_b1 c_5 (K := 60) (by decide +kernel)
      have hX_7 : F_keepLongAt_60 c_a i v = (c_a : (Nat → Int64)) := by
        refine (F_keepLongAt_60_s ..).trans ?_
        refine (if_neg c_1).trans ?_
        refine (if_pos c_5).trans ?_
        exact rfl
      exact hret _ _ _ _ _ c_a [0] hP hD hS rfl (by decide) dX11_keepLongAt_14 ⟨(congrArg (fun z9 => z9) hX_7).symm, trivial⟩
    · have b_8 := z_b2 c_5 (K := 60) (by decide +kernel)
      refine lv_aload_n hx hb dX11_keepLongAt_10 rfl (lv_at hl 0 rfl) ?_
      refine lv_iload_n hx hb dX11_keepLongAt_11 rfl (lv_at hl 1 rfl) ?_
      refine lv_lload_n hx hb dX11_keepLongAt_12 rfl (lv_at hl 2 rfl) ?_
      refine va_last hx hb hK hP hD hS 0 1 rfl rfl (z_inN (by omega) (by omega)) dX11_keepLongAt_13 (fun H locs hP hD hS => ?_)
      have hP : va_P G vwCl [(a, .inl (cA.1 1, 60, .inr (.inl (vp_updL c_a (i : Int32).toNatClampNeg v))))] H := hP
      have hD : va_D A [(a, .inl (cA.1 1, 60, .inr (.inl (vp_updL c_a (i : Int32).toNatClampNeg v))))] := hD
      generalize hg_g_9 : (vp_updL c_a (i : Int32).toNatClampNeg v) = g_9 at hP hD
      have hX_10 : F_keepLongAt_60 c_a i v = (g_9 : (Nat → Int64)) := by
        refine (F_keepLongAt_60_s ..).trans ?_
        refine (if_neg c_1).trans ?_
        refine (if_neg c_5).trans ?_
        try (extract_lets -merge -useContext +onlyGivenNames y9; have e9 : g_9 = y9 := (by first | exact hg_g_9 | exact hg_g_9.symm); clear_value y9; subst e9)
        exact rfl
      exact hret _ _ _ _ _ g_9 [0] hP hD hS rfl (by decide) dX11_keepLongAt_14 ⟨(congrArg (fun z9 => z9) hX_10).symm, trivial⟩
set_option maxHeartbeats 40000000 in
set_option maxRecDepth 100000 in
theorem d_longAt_100 (l : Launch) (G : va_G) (cA : zCA) (a : Nat) (c_a : Nat → Int64) (i : Int32) : zCl l yX11_longAt cX11_longAt 2 (some .long) ({ frames := 0, cells := 0, slots := 0, locals := 0 }) G cA [.ref a, .int i] [(a, .inl (cA.1 1, 100, .inr (.inl c_a)))] (S := Unit) (fun (r : Int64) (u : Unit) => (r = (F_longAt_100 c_a i)) ∧ (True)) (fun (u : Unit) => [(a, .inl (cA.1 1, 100, .inr (.inl c_a)))]) 0 0 := by
  refine z_start2l (own := RX11) (by decide) (Nat.le_of_ble_eq_true rfl) rfl ?_
  intro p e s m args below meth c A ls Q hx hb hml hts hown hK hE hT hP hD hS hA hl hret
  have hl : lv_has ls 2 [(0, .ref a), (1, .int i)] := hl
  refine lv_iload_n hx hb dX11_longAt_0 rfl (lv_at hl 1 rfl) ?_
  refine lv_if_lt (tgt := 16) hx hb dX11_longAt_1 (by decide) (fun c_1 => ?_) (fun c_1 => ?_)
  · have b_2 := z_b3 c_1 (K := 0) (by decide +kernel)
    refine lv_lconst (v := 0) hx hb dX11_longAt_16 (by decide) ?_
    have hX_3 : F_longAt_100 c_a i = ((0 : Int64) : Int64) := by
      refine (F_longAt_100_s ..).trans ?_
      refine (if_pos c_1).trans ?_
      exact rfl
    exact hret _ _ _ _ _ _ () [0] hP hD hS rfl (by decide) dX11_longAt_17 ⟨(congrArg (fun z9 => z9) hX_3).symm, trivial⟩
  · have b_4 := z_b4 c_1 (K := 0) (by decide +kernel)
    refine lv_iload_n hx hb dX11_longAt_4 rfl (lv_at hl 1 rfl) ?_
    refine lv_aload_n hx hb dX11_longAt_5 rfl (lv_at hl 0 rfl) ?_
    refine va_alen (v := 100) hx hb hK hP 0 1 rfl rfl (show Int32.ofNat 100 = 100 by decide +kernel) dX11_longAt_6 ?_
    refine lv_icmp_ge (tgt := 16) hx hb dX11_longAt_7 (by decide) (fun c_5 => ?_) (fun c_5 => ?_)
    · have b_6 := z_b1 c_5 (K := 100) (by decide +kernel)
      refine lv_lconst (v := 0) hx hb dX11_longAt_16 (by decide) ?_
      have hX_7 : F_longAt_100 c_a i = ((0 : Int64) : Int64) := by
        refine (F_longAt_100_s ..).trans ?_
        refine (if_neg c_1).trans ?_
        refine (if_pos c_5).trans ?_
        exact rfl
      exact hret _ _ _ _ _ _ () [0] hP hD hS rfl (by decide) dX11_longAt_17 ⟨(congrArg (fun z9 => z9) hX_7).symm, trivial⟩
    · have b_8 := z_b2 c_5 (K := 100) (by decide +kernel)
      refine lv_aload_n hx hb dX11_longAt_10 rfl (lv_at hl 0 rfl) ?_
      refine lv_iload_n hx hb dX11_longAt_11 rfl (lv_at hl 1 rfl) ?_
      refine va_lald hx hb hK hP 0 1 rfl rfl (z_inN (by omega) (by omega)) dX11_longAt_12 ?_
      refine lv_topl (fun x_9 he_x_9 => ?_)
      refine lv_goto (tgt := 17) hx hb dX11_longAt_13 (by decide) ?_
      have hX_10 : F_longAt_100 c_a i = (x_9 : Int64) := by
        refine (F_longAt_100_s ..).trans ?_
        refine (if_neg c_1).trans ?_
        refine (if_neg c_5).trans ?_
        try (extract_lets -merge -useContext +onlyGivenNames y9; have e9 : x_9 = y9 := (by first | exact he_x_9 | exact he_x_9.symm); clear_value y9; subst e9)
        exact rfl
      exact hret _ _ _ _ _ _ () [0] hP hD hS rfl (by decide) dX11_longAt_17 ⟨(congrArg (fun z9 => z9) hX_10).symm, trivial⟩
set_option maxHeartbeats 40000000 in
set_option maxRecDepth 100000 in
theorem d_keepLongAt_100 (l : Launch) (G : va_G) (cA : zCA) (a : Nat) (c_a : Nat → Int64) (i : Int32) (v : Int64) : zCv l yX11_keepLongAt cX11_keepLongAt 4 none ({ frames := 0, cells := 0, slots := 0, locals := 0 }) G cA [.ref a, .int i, .long v] [(a, .inl (cA.1 1, 100, .inr (.inl c_a)))] (S := (Nat → Int64)) (fun (u : (Nat → Int64)) => (u = (F_keepLongAt_100 c_a i v)) ∧ (True)) (fun (u : (Nat → Int64)) => [(a, .inl (cA.1 1, 100, .inr (.inl u)))]) 0 0 := by
  refine z_start2v (own := RX11) (by decide) (Nat.le_of_ble_eq_true rfl) rfl ?_
  intro p e s m args below meth c A ls Q hx hb hml hts hown hK hE hT hP hD hS hA hl hret
  have hl : lv_has ls 4 [(0, .ref a), (1, .int i), (2, .long v)] := hl
  refine lv_iload_n hx hb dX11_keepLongAt_0 rfl (lv_at hl 1 rfl) ?_
  refine lv_if_lt (tgt := 14) hx hb dX11_keepLongAt_1 (by decide) (fun c_1 => ?_) (fun c_1 => ?_)
  · have b_2 := z_b3 c_1 (K := 0) (by decide +kernel)
    have hX_3 : F_keepLongAt_100 c_a i v = (c_a : (Nat → Int64)) := by
      refine (F_keepLongAt_100_s ..).trans ?_
      refine (if_pos c_1).trans ?_
      exact rfl
    exact hret _ _ _ _ _ c_a [0] hP hD hS rfl (by decide) dX11_keepLongAt_14 ⟨(congrArg (fun z9 => z9) hX_3).symm, trivial⟩
  · have b_4 := z_b4 c_1 (K := 0) (by decide +kernel)
    refine lv_iload_n hx hb dX11_keepLongAt_4 rfl (lv_at hl 1 rfl) ?_
    refine lv_aload_n hx hb dX11_keepLongAt_5 rfl (lv_at hl 0 rfl) ?_
    refine va_alen (v := 100) hx hb hK hP 0 1 rfl rfl (show Int32.ofNat 100 = 100 by decide +kernel) dX11_keepLongAt_6 ?_
    refine lv_icmp_ge (tgt := 14) hx hb dX11_keepLongAt_7 (by decide) (fun c_5 => ?_) (fun c_5 => ?_)
    · have b_6 := z_b1 c_5 (K := 100) (by decide +kernel)
      have hX_7 : F_keepLongAt_100 c_a i v = (c_a : (Nat → Int64)) := by
        refine (F_keepLongAt_100_s ..).trans ?_
        refine (if_neg c_1).trans ?_
        refine (if_pos c_5).trans ?_
        exact rfl
      exact hret _ _ _ _ _ c_a [0] hP hD hS rfl (by decide) dX11_keepLongAt_14 ⟨(congrArg (fun z9 => z9) hX_7).symm, trivial⟩
    · have b_8 := z_b2 c_5 (K := 100) (by decide +kernel)
      refine lv_aload_n hx hb dX11_keepLongAt_10 rfl (lv_at hl 0 rfl) ?_
      refine lv_iload_n hx hb dX11_keepLongAt_11 rfl (lv_at hl 1 rfl) ?_
      refine lv_lload_n hx hb dX11_keepLongAt_12 rfl (lv_at hl 2 rfl) ?_
      refine va_last hx hb hK hP hD hS 0 1 rfl rfl (z_inN (by omega) (by omega)) dX11_keepLongAt_13 (fun H locs hP hD hS => ?_)
      have hP : va_P G vwCl [(a, .inl (cA.1 1, 100, .inr (.inl (vp_updL c_a (i : Int32).toNatClampNeg v))))] H := hP
      have hD : va_D A [(a, .inl (cA.1 1, 100, .inr (.inl (vp_updL c_a (i : Int32).toNatClampNeg v))))] := hD
      generalize hg_g_9 : (vp_updL c_a (i : Int32).toNatClampNeg v) = g_9 at hP hD
      have hX_10 : F_keepLongAt_100 c_a i v = (g_9 : (Nat → Int64)) := by
        refine (F_keepLongAt_100_s ..).trans ?_
        refine (if_neg c_1).trans ?_
        refine (if_neg c_5).trans ?_
        try (extract_lets -merge -useContext +onlyGivenNames y9; have e9 : g_9 = y9 := (by first | exact hg_g_9 | exact hg_g_9.symm); clear_value y9; subst e9)
        exact rfl
      exact hret _ _ _ _ _ g_9 [0] hP hD hS rfl (by decide) dX11_keepLongAt_14 ⟨(congrArg (fun z9 => z9) hX_10).symm, trivial⟩
set_option maxHeartbeats 4000000 in
set_option maxRecDepth 100000 in
theorem d_H_hasFeature (l : Launch) (G : va_G) (cA : zCA) (h : Nat) (h_features : Int32) (h_featureNames : Nat) (h_steps : Nat) (h_turnedFeatures : Nat) (h_sixteenths : Nat) (h_keys : Int32) (h_keySteps : Nat) (h_lent : Int32) (h_rings : Int32) (h_on : Nat) (h_onMany : Nat) (h_doors : Int32) (h_wanted : Nat) (h_openers : Nat) (h_seconds : Nat) (h_turned : Int32) (h_roundMany : Int32) (h_roundDoors : Nat) (k : Int32) (hm_h_features : 0 ≤ h_features.toInt ∧ h_features.toInt ≤ 3) : zCi l yX2_hasFeature cX2_hasFeature 2 (some .boolean) ({ frames := 0, cells := 0, slots := 0, locals := 0 }) G cA [.ref h, .int k] [(h, .inr (2, [.int h_features, .ref h_featureNames, .ref h_steps, .ref h_turnedFeatures, .ref h_sixteenths, .int h_keys, .ref h_keySteps, .int h_lent, .int h_rings, .ref h_on, .ref h_onMany, .int h_doors, .ref h_wanted, .ref h_openers, .ref h_seconds, .int h_turned, .int h_roundMany, .ref h_roundDoors]))] (S := Unit) (fun (r : Int32) (u : Unit) => r = 0 ∨ r = 1) (fun (u : Unit) => [(h, .inr (2, [.int h_features, .ref h_featureNames, .ref h_steps, .ref h_turnedFeatures, .ref h_sixteenths, .int h_keys, .ref h_keySteps, .int h_lent, .int h_rings, .ref h_on, .ref h_onMany, .int h_doors, .ref h_wanted, .ref h_openers, .ref h_seconds, .int h_turned, .int h_roundMany, .ref h_roundDoors]))]) 0 0 := by
  refine z_start2z (own := RX2) (by decide) (Nat.le_of_ble_eq_true rfl) rfl ?_
  intro p e s m args below meth c A ls Q hx hb hml hts hown hK hE hT hP hD hS hA hl hret
  have hl : lv_has ls 2 [(0, .ref h), (1, .int k)] := hl
  refine lv_iload_n hx hb dX2_hasFeature_0 rfl (lv_at hl 1 rfl) ?_
  refine lv_if_lt (tgt := 16) hx hb dX2_hasFeature_1 (by decide) (fun c_1 => ?_) (fun c_1 => ?_)
  · have b_2 := z_b3 c_1 (K := 0) (by decide +kernel)
    refine lv_iconst (v := 0) hx hb dX2_hasFeature_16 (by decide) ?_
    exact hret _ _ _ _ _ _ () [0] hP hD hS rfl (by decide) dX2_hasFeature_17 (Or.inl rfl) (Or.inl rfl)
  · have b_3 := z_b4 c_1 (K := 0) (by decide +kernel)
    refine lv_iload_n hx hb dX2_hasFeature_4 rfl (lv_at hl 1 rfl) ?_
    refine lv_aload_n hx hb dX2_hasFeature_5 rfl (lv_at hl 0 rfl) ?_
    refine va_get (D := G) (ci := 2) (v := .int h_features) (C := RX2) (T := TX2) (N := 18) hx hb hts inT2 hown hK hP 0 rfl rfl 0 (by decide) (hts _ tw_265) (fun _ h9 => h9) rfl dX2_hasFeature_6 ?_
    refine lv_icmp_ge (tgt := 16) hx hb dX2_hasFeature_9 (by decide) (fun c_4 => ?_) (fun c_4 => ?_)
    · have b_5 := z_s1 c_4
      refine lv_iconst (v := 0) hx hb dX2_hasFeature_16 (by decide) ?_
      exact hret _ _ _ _ _ _ () [0] hP hD hS rfl (by decide) dX2_hasFeature_17 (Or.inl rfl) (Or.inl rfl)
    · have b_6 := z_t2 c_4
      refine lv_iconst (v := 1) hx hb dX2_hasFeature_12 (by decide) ?_
      refine lv_goto (tgt := 17) hx hb dX2_hasFeature_13 (by decide) ?_
      exact hret _ _ _ _ _ _ () [0] hP hD hS rfl (by decide) dX2_hasFeature_17 (Or.inr rfl) (Or.inr rfl)
set_option maxHeartbeats 4000000 in
set_option maxRecDepth 100000 in
theorem d_H_hasKey (l : Launch) (G : va_G) (cA : zCA) (h : Nat) (h_features : Int32) (h_featureNames : Nat) (h_steps : Nat) (h_turnedFeatures : Nat) (h_sixteenths : Nat) (h_keys : Int32) (h_keySteps : Nat) (h_lent : Int32) (h_rings : Int32) (h_on : Nat) (h_onMany : Nat) (h_doors : Int32) (h_wanted : Nat) (h_openers : Nat) (h_seconds : Nat) (h_turned : Int32) (h_roundMany : Int32) (h_roundDoors : Nat) (k : Int32) (hm_h_features : 0 ≤ h_features.toInt ∧ h_features.toInt ≤ 3) : zCi l yX2_hasKey cX2_hasKey 2 (some .boolean) ({ frames := 0, cells := 0, slots := 0, locals := 0 }) G cA [.ref h, .int k] [(h, .inr (2, [.int h_features, .ref h_featureNames, .ref h_steps, .ref h_turnedFeatures, .ref h_sixteenths, .int h_keys, .ref h_keySteps, .int h_lent, .int h_rings, .ref h_on, .ref h_onMany, .int h_doors, .ref h_wanted, .ref h_openers, .ref h_seconds, .int h_turned, .int h_roundMany, .ref h_roundDoors]))] (S := Unit) (fun (r : Int32) (u : Unit) => r = 0 ∨ r = 1) (fun (u : Unit) => [(h, .inr (2, [.int h_features, .ref h_featureNames, .ref h_steps, .ref h_turnedFeatures, .ref h_sixteenths, .int h_keys, .ref h_keySteps, .int h_lent, .int h_rings, .ref h_on, .ref h_onMany, .int h_doors, .ref h_wanted, .ref h_openers, .ref h_seconds, .int h_turned, .int h_roundMany, .ref h_roundDoors]))]) 0 0 := by
  refine z_start2z (own := RX2) (by decide) (Nat.le_of_ble_eq_true rfl) rfl ?_
  intro p e s m args below meth c A ls Q hx hb hml hts hown hK hE hT hP hD hS hA hl hret
  have hl : lv_has ls 2 [(0, .ref h), (1, .int k)] := hl
  refine lv_iload_n hx hb dX2_hasKey_0 rfl (lv_at hl 1 rfl) ?_
  refine lv_if_lt (tgt := 16) hx hb dX2_hasKey_1 (by decide) (fun c_1 => ?_) (fun c_1 => ?_)
  · have b_2 := z_b3 c_1 (K := 0) (by decide +kernel)
    refine lv_iconst (v := 0) hx hb dX2_hasKey_16 (by decide) ?_
    exact hret _ _ _ _ _ _ () [0] hP hD hS rfl (by decide) dX2_hasKey_17 (Or.inl rfl) (Or.inl rfl)
  · have b_3 := z_b4 c_1 (K := 0) (by decide +kernel)
    refine lv_iload_n hx hb dX2_hasKey_4 rfl (lv_at hl 1 rfl) ?_
    refine lv_aload_n hx hb dX2_hasKey_5 rfl (lv_at hl 0 rfl) ?_
    refine va_get (D := G) (ci := 2) (v := .int h_keys) (C := RX2) (T := TX2) (N := 18) hx hb hts inT2 hown hK hP 0 rfl rfl 5 (by decide) (hts _ tw_274) (fun _ h9 => h9) rfl dX2_hasKey_6 ?_
    refine lv_icmp_ge (tgt := 16) hx hb dX2_hasKey_9 (by decide) (fun c_4 => ?_) (fun c_4 => ?_)
    · have b_5 := z_s1 c_4
      refine lv_iconst (v := 0) hx hb dX2_hasKey_16 (by decide) ?_
      exact hret _ _ _ _ _ _ () [0] hP hD hS rfl (by decide) dX2_hasKey_17 (Or.inl rfl) (Or.inl rfl)
    · have b_6 := z_t2 c_4
      refine lv_iconst (v := 1) hx hb dX2_hasKey_12 (by decide) ?_
      refine lv_goto (tgt := 17) hx hb dX2_hasKey_13 (by decide) ?_
      exact hret _ _ _ _ _ _ () [0] hP hD hS rfl (by decide) dX2_hasKey_17 (Or.inr rfl) (Or.inr rfl)
set_option maxHeartbeats 4000000 in
set_option maxRecDepth 100000 in
theorem d_H_hasDoor (l : Launch) (G : va_G) (cA : zCA) (h : Nat) (h_features : Int32) (h_featureNames : Nat) (h_steps : Nat) (h_turnedFeatures : Nat) (h_sixteenths : Nat) (h_keys : Int32) (h_keySteps : Nat) (h_lent : Int32) (h_rings : Int32) (h_on : Nat) (h_onMany : Nat) (h_doors : Int32) (h_wanted : Nat) (h_openers : Nat) (h_seconds : Nat) (h_turned : Int32) (h_roundMany : Int32) (h_roundDoors : Nat) (k : Int32) (hm_h_features : 0 ≤ h_features.toInt ∧ h_features.toInt ≤ 3) : zCi l yX2_hasDoor cX2_hasDoor 2 (some .boolean) ({ frames := 0, cells := 0, slots := 0, locals := 0 }) G cA [.ref h, .int k] [(h, .inr (2, [.int h_features, .ref h_featureNames, .ref h_steps, .ref h_turnedFeatures, .ref h_sixteenths, .int h_keys, .ref h_keySteps, .int h_lent, .int h_rings, .ref h_on, .ref h_onMany, .int h_doors, .ref h_wanted, .ref h_openers, .ref h_seconds, .int h_turned, .int h_roundMany, .ref h_roundDoors]))] (S := Unit) (fun (r : Int32) (u : Unit) => r = 0 ∨ r = 1) (fun (u : Unit) => [(h, .inr (2, [.int h_features, .ref h_featureNames, .ref h_steps, .ref h_turnedFeatures, .ref h_sixteenths, .int h_keys, .ref h_keySteps, .int h_lent, .int h_rings, .ref h_on, .ref h_onMany, .int h_doors, .ref h_wanted, .ref h_openers, .ref h_seconds, .int h_turned, .int h_roundMany, .ref h_roundDoors]))]) 0 0 := by
  refine z_start2z (own := RX2) (by decide) (Nat.le_of_ble_eq_true rfl) rfl ?_
  intro p e s m args below meth c A ls Q hx hb hml hts hown hK hE hT hP hD hS hA hl hret
  have hl : lv_has ls 2 [(0, .ref h), (1, .int k)] := hl
  refine lv_iload_n hx hb dX2_hasDoor_0 rfl (lv_at hl 1 rfl) ?_
  refine lv_if_lt (tgt := 16) hx hb dX2_hasDoor_1 (by decide) (fun c_1 => ?_) (fun c_1 => ?_)
  · have b_2 := z_b3 c_1 (K := 0) (by decide +kernel)
    refine lv_iconst (v := 0) hx hb dX2_hasDoor_16 (by decide) ?_
    exact hret _ _ _ _ _ _ () [0] hP hD hS rfl (by decide) dX2_hasDoor_17 (Or.inl rfl) (Or.inl rfl)
  · have b_3 := z_b4 c_1 (K := 0) (by decide +kernel)
    refine lv_iload_n hx hb dX2_hasDoor_4 rfl (lv_at hl 1 rfl) ?_
    refine lv_aload_n hx hb dX2_hasDoor_5 rfl (lv_at hl 0 rfl) ?_
    refine va_get (D := G) (ci := 2) (v := .int h_doors) (C := RX2) (T := TX2) (N := 18) hx hb hts inT2 hown hK hP 0 rfl rfl 11 (by decide) (hts _ tw_285) (fun _ h9 => h9) rfl dX2_hasDoor_6 ?_
    refine lv_icmp_ge (tgt := 16) hx hb dX2_hasDoor_9 (by decide) (fun c_4 => ?_) (fun c_4 => ?_)
    · have b_5 := z_s1 c_4
      refine lv_iconst (v := 0) hx hb dX2_hasDoor_16 (by decide) ?_
      exact hret _ _ _ _ _ _ () [0] hP hD hS rfl (by decide) dX2_hasDoor_17 (Or.inl rfl) (Or.inl rfl)
    · have b_6 := z_t2 c_4
      refine lv_iconst (v := 1) hx hb dX2_hasDoor_12 (by decide) ?_
      refine lv_goto (tgt := 17) hx hb dX2_hasDoor_13 (by decide) ?_
      exact hret _ _ _ _ _ _ () [0] hP hD hS rfl (by decide) dX2_hasDoor_17 (Or.inr rfl) (Or.inr rfl)
set_option maxHeartbeats 4000000 in
set_option maxRecDepth 100000 in
theorem d_H_hasRing (l : Launch) (G : va_G) (cA : zCA) (h : Nat) (h_features : Int32) (h_featureNames : Nat) (h_steps : Nat) (h_turnedFeatures : Nat) (h_sixteenths : Nat) (h_keys : Int32) (h_keySteps : Nat) (h_lent : Int32) (h_rings : Int32) (h_on : Nat) (h_onMany : Nat) (h_doors : Int32) (h_wanted : Nat) (h_openers : Nat) (h_seconds : Nat) (h_turned : Int32) (h_roundMany : Int32) (h_roundDoors : Nat) (k : Int32) (hm_h_features : 0 ≤ h_features.toInt ∧ h_features.toInt ≤ 3) : zCi l yX2_hasRing cX2_hasRing 2 (some .boolean) ({ frames := 0, cells := 0, slots := 0, locals := 0 }) G cA [.ref h, .int k] [(h, .inr (2, [.int h_features, .ref h_featureNames, .ref h_steps, .ref h_turnedFeatures, .ref h_sixteenths, .int h_keys, .ref h_keySteps, .int h_lent, .int h_rings, .ref h_on, .ref h_onMany, .int h_doors, .ref h_wanted, .ref h_openers, .ref h_seconds, .int h_turned, .int h_roundMany, .ref h_roundDoors]))] (S := Unit) (fun (r : Int32) (u : Unit) => (r.toInt = zin h_rings.toInt k.toInt) ∧ (r = 0 ∨ r = 1)) (fun (u : Unit) => [(h, .inr (2, [.int h_features, .ref h_featureNames, .ref h_steps, .ref h_turnedFeatures, .ref h_sixteenths, .int h_keys, .ref h_keySteps, .int h_lent, .int h_rings, .ref h_on, .ref h_onMany, .int h_doors, .ref h_wanted, .ref h_openers, .ref h_seconds, .int h_turned, .int h_roundMany, .ref h_roundDoors]))]) 0 0 := by
  refine z_start2z (own := RX2) (by decide) (Nat.le_of_ble_eq_true rfl) rfl ?_
  intro p e s m args below meth c A ls Q hx hb hml hts hown hK hE hT hP hD hS hA hl hret
  have hl : lv_has ls 2 [(0, .ref h), (1, .int k)] := hl
  refine lv_iload_n hx hb dX2_hasRing_0 rfl (lv_at hl 1 rfl) ?_
  refine lv_if_lt (tgt := 16) hx hb dX2_hasRing_1 (by decide) (fun c_1 => ?_) (fun c_1 => ?_)
  · have b_2 := z_b3 c_1 (K := 0) (by decide +kernel)
    refine lv_iconst (v := 0) hx hb dX2_hasRing_16 (by decide) ?_
    exact hret _ _ _ _ _ _ () [0] hP hD hS rfl (by decide) dX2_hasRing_17 (Or.inl rfl) ⟨(z_zin0 (by omega)), (Or.inl rfl)⟩
  · have b_3 := z_b4 c_1 (K := 0) (by decide +kernel)
    refine lv_iload_n hx hb dX2_hasRing_4 rfl (lv_at hl 1 rfl) ?_
    refine lv_aload_n hx hb dX2_hasRing_5 rfl (lv_at hl 0 rfl) ?_
    refine va_get (D := G) (ci := 2) (v := .int h_rings) (C := RX2) (T := TX2) (N := 18) hx hb hts inT2 hown hK hP 0 rfl rfl 8 (by decide) (hts _ tw_279) (fun _ h9 => h9) rfl dX2_hasRing_6 ?_
    refine lv_icmp_ge (tgt := 16) hx hb dX2_hasRing_9 (by decide) (fun c_4 => ?_) (fun c_4 => ?_)
    · have b_5 := z_s1 c_4
      refine lv_iconst (v := 0) hx hb dX2_hasRing_16 (by decide) ?_
      exact hret _ _ _ _ _ _ () [0] hP hD hS rfl (by decide) dX2_hasRing_17 (Or.inl rfl) ⟨(z_zin0 (by omega)), (Or.inl rfl)⟩
    · have b_6 := z_t2 c_4
      refine lv_iconst (v := 1) hx hb dX2_hasRing_12 (by decide) ?_
      refine lv_goto (tgt := 17) hx hb dX2_hasRing_13 (by decide) ?_
      exact hret _ _ _ _ _ _ () [0] hP hD hS rfl (by decide) dX2_hasRing_17 (Or.inr rfl) ⟨(z_zin1 (by omega) (by omega)), (Or.inr rfl)⟩
set_option maxHeartbeats 4000000 in
set_option maxRecDepth 100000 in
theorem d_H_stepsOf (l : Launch) (G : va_G) (cA : zCA) (h : Nat) (h_features : Int32) (h_featureNames : Nat) (h_steps : Nat) (h_turnedFeatures : Nat) (h_sixteenths : Nat) (h_keys : Int32) (h_keySteps : Nat) (h_lent : Int32) (h_rings : Int32) (h_on : Nat) (h_onMany : Nat) (h_doors : Int32) (h_wanted : Nat) (h_openers : Nat) (h_seconds : Nat) (h_turned : Int32) (h_roundMany : Int32) (h_roundDoors : Nat) (c_h_steps : Nat → Int32) (k : Int32) (hm_h_features : 0 ≤ h_features.toInt ∧ h_features.toInt ≤ 3) : zCi l yX2_stepsOf cX2_stepsOf 2 (some .int) ({ frames := 1, cells := 0, slots := 0, locals := 21 }) G cA [.ref h, .int k] [(h, .inr (2, [.int h_features, .ref h_featureNames, .ref h_steps, .ref h_turnedFeatures, .ref h_sixteenths, .int h_keys, .ref h_keySteps, .int h_lent, .int h_rings, .ref h_on, .ref h_onMany, .int h_doors, .ref h_wanted, .ref h_openers, .ref h_seconds, .int h_turned, .int h_roundMany, .ref h_roundDoors])), (h_steps, .inl (cA.1 0, 3, .inl c_h_steps))] (S := Unit) (fun (r : Int32) (u : Unit) => True) (fun (u : Unit) => [(h, .inr (2, [.int h_features, .ref h_featureNames, .ref h_steps, .ref h_turnedFeatures, .ref h_sixteenths, .int h_keys, .ref h_keySteps, .int h_lent, .int h_rings, .ref h_on, .ref h_onMany, .int h_doors, .ref h_wanted, .ref h_openers, .ref h_seconds, .int h_turned, .int h_roundMany, .ref h_roundDoors])), (h_steps, .inl (cA.1 0, 3, .inl c_h_steps))]) 0 0 := by
  refine z_start2i (own := RX2) (by decide) (Nat.le_of_ble_eq_true rfl) rfl ?_
  intro p e s m args below meth c A ls Q hx hb hml hts hown hK hE hT hP hD hS hA hl hret
  have hl : lv_has ls 2 [(0, .ref h), (1, .int k)] := hl
  refine lv_aload_n hx hb dX2_stepsOf_0 rfl (lv_at hl 0 rfl) ?_
  refine lv_iload_n hx hb dX2_stepsOf_1 rfl (lv_at hl 1 rfl) ?_
  refine z_callVi (As := [.int k]) (rest := []) (wr := [(h_steps, .inl (cA.1 0, 3, .inl c_h_steps))]) ⟨hx, hb, hml, hown, hts⟩ hK hE hT hP hD hS hA (d_H_hasFeature l G cA h h_features h_featureNames h_steps h_turnedFeatures h_sixteenths h_keys h_keySteps h_lent h_rings h_on h_onMany h_doors h_wanted h_openers h_seconds h_turned h_roundMany h_roundDoors k (by omega)) lk_RX2_85 ⟨rfl, rfl⟩ ⟨Nat.le_of_ble_eq_true rfl, Nat.le_of_ble_eq_true rfl⟩ 2 rfl rfl rfl [0] [1] rfl rfl (by decide) rfl hl.1 rfl (lv_room (Nat.le_of_ble_eq_true rfl)) dX2_stepsOf_2 ⟨Nat.le_of_ble_eq_true rfl, Nat.le_of_ble_eq_true rfl⟩ (fun r_1 u_2 H locs hw hP hD hS => ?_)
  have hP : va_P G vwCl [(h_steps, .inl (cA.1 0, 3, .inl c_h_steps)), (h, .inr (2, [.int h_features, .ref h_featureNames, .ref h_steps, .ref h_turnedFeatures, .ref h_sixteenths, .int h_keys, .ref h_keySteps, .int h_lent, .int h_rings, .ref h_on, .ref h_onMany, .int h_doors, .ref h_wanted, .ref h_openers, .ref h_seconds, .int h_turned, .int h_roundMany, .ref h_roundDoors]))] H := hP
  have hD : va_D A [(h_steps, .inl (cA.1 0, 3, .inl c_h_steps)), (h, .inr (2, [.int h_features, .ref h_featureNames, .ref h_steps, .ref h_turnedFeatures, .ref h_sixteenths, .int h_keys, .ref h_keySteps, .int h_lent, .int h_rings, .ref h_on, .ref h_onMany, .int h_doors, .ref h_wanted, .ref h_openers, .ref h_seconds, .int h_turned, .int h_roundMany, .ref h_roundDoors]))] := hD
  have hz_r_1 := hw
  refine lv_if_eq (tgt := 19) hx hb dX2_stepsOf_5 (by decide) (fun c_3 => ?_) (fun c_3 => ?_)
  · skip
    refine lv_iconst (v := 0) hx hb dX2_stepsOf_19 (by decide) ?_
    exact hret _ _ _ _ _ _ () [1, 0] hP hD hS rfl (by decide) dX2_stepsOf_20 trivial
  · skip
    refine lv_aload_n hx hb dX2_stepsOf_8 rfl (lv_at hl 0 rfl) ?_
    refine va_get (D := G) (ci := 2) (v := .ref h_steps) (C := RX2) (T := TX2) (N := 18) hx hb hts inT2 hown hK hP 1 rfl rfl 2 (by decide) (hts _ tw_271) (fun _ h9 => h9) rfl dX2_stepsOf_9 ?_
    refine lv_iload_n hx hb dX2_stepsOf_12 rfl (lv_at hl 1 rfl) ?_
    refine z_callSNi (As := [.ref h_steps, .int k]) (rest := []) (wr := [(h, .inr (2, [.int h_features, .ref h_featureNames, .ref h_steps, .ref h_turnedFeatures, .ref h_sixteenths, .int h_keys, .ref h_keySteps, .int h_lent, .int h_rings, .ref h_on, .ref h_onMany, .int h_doors, .ref h_wanted, .ref h_openers, .ref h_seconds, .int h_turned, .int h_roundMany, .ref h_roundDoors]))]) ⟨hx, hb, hml, hown, hts⟩ hK hE hT hP hD hS hA (d_at_3 l G cA h_steps c_h_steps k) lk_RX2_89 ⟨rfl, rfl⟩ ⟨Nat.le_of_ble_eq_true rfl, Nat.le_of_ble_eq_true rfl⟩ [0] [1] rfl rfl (by decide) rfl hl.1 rfl (lv_room (Nat.le_of_ble_eq_true rfl)) dX2_stepsOf_13 ⟨Nat.le_of_ble_eq_true rfl, Nat.le_of_ble_eq_true rfl⟩ (fun r_6 u_7 H locs hw hP hD hS => ?_)
    have hP : va_P G vwCl [(h, .inr (2, [.int h_features, .ref h_featureNames, .ref h_steps, .ref h_turnedFeatures, .ref h_sixteenths, .int h_keys, .ref h_keySteps, .int h_lent, .int h_rings, .ref h_on, .ref h_onMany, .int h_doors, .ref h_wanted, .ref h_openers, .ref h_seconds, .int h_turned, .int h_roundMany, .ref h_roundDoors])), (h_steps, .inl (cA.1 0, 3, .inl c_h_steps))] H := hP
    have hD : va_D A [(h, .inr (2, [.int h_features, .ref h_featureNames, .ref h_steps, .ref h_turnedFeatures, .ref h_sixteenths, .int h_keys, .ref h_keySteps, .int h_lent, .int h_rings, .ref h_on, .ref h_onMany, .int h_doors, .ref h_wanted, .ref h_openers, .ref h_seconds, .int h_turned, .int h_roundMany, .ref h_roundDoors])), (h_steps, .inl (cA.1 0, 3, .inl c_h_steps))] := hD
    have hx_r_6 := hw
    refine lv_goto (tgt := 20) hx hb dX2_stepsOf_16 (by decide) ?_
    exact hret _ _ _ _ _ _ () [0, 1] hP hD hS rfl (by decide) dX2_stepsOf_20 trivial
set_option maxHeartbeats 4000000 in
set_option maxRecDepth 100000 in
theorem d_H_hasStep (l : Launch) (G : va_G) (cA : zCA) (h : Nat) (h_features : Int32) (h_featureNames : Nat) (h_steps : Nat) (h_turnedFeatures : Nat) (h_sixteenths : Nat) (h_keys : Int32) (h_keySteps : Nat) (h_lent : Int32) (h_rings : Int32) (h_on : Nat) (h_onMany : Nat) (h_doors : Int32) (h_wanted : Nat) (h_openers : Nat) (h_seconds : Nat) (h_turned : Int32) (h_roundMany : Int32) (h_roundDoors : Nat) (c_h_steps : Nat → Int32) (k : Int32) (j : Int32) (hm_h_features : 0 ≤ h_features.toInt ∧ h_features.toInt ≤ 3) : zCi l yX2_hasStep cX2_hasStep 3 (some .boolean) ({ frames := 2, cells := 0, slots := 0, locals := 42 }) G cA [.ref h, .int k, .int j] [(h, .inr (2, [.int h_features, .ref h_featureNames, .ref h_steps, .ref h_turnedFeatures, .ref h_sixteenths, .int h_keys, .ref h_keySteps, .int h_lent, .int h_rings, .ref h_on, .ref h_onMany, .int h_doors, .ref h_wanted, .ref h_openers, .ref h_seconds, .int h_turned, .int h_roundMany, .ref h_roundDoors])), (h_steps, .inl (cA.1 0, 3, .inl c_h_steps))] (S := Unit) (fun (r : Int32) (u : Unit) => r = 0 ∨ r = 1) (fun (u : Unit) => [(h, .inr (2, [.int h_features, .ref h_featureNames, .ref h_steps, .ref h_turnedFeatures, .ref h_sixteenths, .int h_keys, .ref h_keySteps, .int h_lent, .int h_rings, .ref h_on, .ref h_onMany, .int h_doors, .ref h_wanted, .ref h_openers, .ref h_seconds, .int h_turned, .int h_roundMany, .ref h_roundDoors])), (h_steps, .inl (cA.1 0, 3, .inl c_h_steps))]) 0 0 := by
  refine z_start2z (own := RX2) (by decide) (Nat.le_of_ble_eq_true rfl) rfl ?_
  intro p e s m args below meth c A ls Q hx hb hml hts hown hK hE hT hP hD hS hA hl hret
  have hl : lv_has ls 3 [(0, .ref h), (1, .int k), (2, .int j)] := hl
  refine lv_iload_n hx hb dX2_hasStep_0 rfl (lv_at hl 2 rfl) ?_
  refine lv_if_lt (tgt := 17) hx hb dX2_hasStep_1 (by decide) (fun c_1 => ?_) (fun c_1 => ?_)
  · have b_2 := z_b3 c_1 (K := 0) (by decide +kernel)
    refine lv_iconst (v := 0) hx hb dX2_hasStep_17 (by decide) ?_
    exact hret _ _ _ _ _ _ () [0, 1] hP hD hS rfl (by decide) dX2_hasStep_18 (Or.inl rfl) (Or.inl rfl)
  · have b_3 := z_b4 c_1 (K := 0) (by decide +kernel)
    refine lv_iload_n hx hb dX2_hasStep_4 rfl (lv_at hl 2 rfl) ?_
    refine lv_aload_n hx hb dX2_hasStep_5 rfl (lv_at hl 0 rfl) ?_
    refine lv_iload_n hx hb dX2_hasStep_6 rfl (lv_at hl 1 rfl) ?_
    refine z_callVi (As := [.int k]) (rest := [.int j]) (wr := []) ⟨hx, hb, hml, hown, hts⟩ hK hE hT hP hD hS hA (d_H_stepsOf l G cA h h_features h_featureNames h_steps h_turnedFeatures h_sixteenths h_keys h_keySteps h_lent h_rings h_on h_onMany h_doors h_wanted h_openers h_seconds h_turned h_roundMany h_roundDoors c_h_steps k (by omega)) lk_RX2_81 ⟨rfl, rfl⟩ ⟨Nat.le_of_ble_eq_true rfl, Nat.le_of_ble_eq_true rfl⟩ 2 rfl rfl rfl [0, 1] [] rfl rfl (by decide) rfl hl.1 rfl (lv_room (Nat.le_of_ble_eq_true rfl)) dX2_hasStep_7 ⟨Nat.le_of_ble_eq_true rfl, Nat.le_of_ble_eq_true rfl⟩ (fun r_4 u_5 H locs hw hP hD hS => ?_)
    have hP : va_P G vwCl [(h, .inr (2, [.int h_features, .ref h_featureNames, .ref h_steps, .ref h_turnedFeatures, .ref h_sixteenths, .int h_keys, .ref h_keySteps, .int h_lent, .int h_rings, .ref h_on, .ref h_onMany, .int h_doors, .ref h_wanted, .ref h_openers, .ref h_seconds, .int h_turned, .int h_roundMany, .ref h_roundDoors])), (h_steps, .inl (cA.1 0, 3, .inl c_h_steps))] H := hP
    have hD : va_D A [(h, .inr (2, [.int h_features, .ref h_featureNames, .ref h_steps, .ref h_turnedFeatures, .ref h_sixteenths, .int h_keys, .ref h_keySteps, .int h_lent, .int h_rings, .ref h_on, .ref h_onMany, .int h_doors, .ref h_wanted, .ref h_openers, .ref h_seconds, .int h_turned, .int h_roundMany, .ref h_roundDoors])), (h_steps, .inl (cA.1 0, 3, .inl c_h_steps))] := hD
    refine lv_icmp_ge (tgt := 17) hx hb dX2_hasStep_10 (by decide) (fun c_6 => ?_) (fun c_6 => ?_)
    · have b_7 := z_s1 c_6
      refine lv_iconst (v := 0) hx hb dX2_hasStep_17 (by decide) ?_
      exact hret _ _ _ _ _ _ () [0, 1] hP hD hS rfl (by decide) dX2_hasStep_18 (Or.inl rfl) (Or.inl rfl)
    · have b_8 := z_t2 c_6
      refine lv_iconst (v := 1) hx hb dX2_hasStep_13 (by decide) ?_
      refine lv_goto (tgt := 18) hx hb dX2_hasStep_14 (by decide) ?_
      exact hret _ _ _ _ _ _ () [0, 1] hP hD hS rfl (by decide) dX2_hasStep_18 (Or.inr rfl) (Or.inr rfl)
set_option maxHeartbeats 4000000 in
set_option maxRecDepth 100000 in
theorem d_H_isTurned (l : Launch) (G : va_G) (cA : zCA) (h : Nat) (h_features : Int32) (h_featureNames : Nat) (h_steps : Nat) (h_turnedFeatures : Nat) (h_sixteenths : Nat) (h_keys : Int32) (h_keySteps : Nat) (h_lent : Int32) (h_rings : Int32) (h_on : Nat) (h_onMany : Nat) (h_doors : Int32) (h_wanted : Nat) (h_openers : Nat) (h_seconds : Nat) (h_turned : Int32) (h_roundMany : Int32) (h_roundDoors : Nat) (c_h_turnedFeatures : Nat → Int32) (k : Int32) (hm_h_features : 0 ≤ h_features.toInt ∧ h_features.toInt ≤ 3) : zCi l yX2_isTurned cX2_isTurned 2 (some .boolean) ({ frames := 1, cells := 0, slots := 0, locals := 21 }) G cA [.ref h, .int k] [(h, .inr (2, [.int h_features, .ref h_featureNames, .ref h_steps, .ref h_turnedFeatures, .ref h_sixteenths, .int h_keys, .ref h_keySteps, .int h_lent, .int h_rings, .ref h_on, .ref h_onMany, .int h_doors, .ref h_wanted, .ref h_openers, .ref h_seconds, .int h_turned, .int h_roundMany, .ref h_roundDoors])), (h_turnedFeatures, .inl (cA.1 0, 3, .inl c_h_turnedFeatures))] (S := Unit) (fun (r : Int32) (u : Unit) => r = 0 ∨ r = 1) (fun (u : Unit) => [(h, .inr (2, [.int h_features, .ref h_featureNames, .ref h_steps, .ref h_turnedFeatures, .ref h_sixteenths, .int h_keys, .ref h_keySteps, .int h_lent, .int h_rings, .ref h_on, .ref h_onMany, .int h_doors, .ref h_wanted, .ref h_openers, .ref h_seconds, .int h_turned, .int h_roundMany, .ref h_roundDoors])), (h_turnedFeatures, .inl (cA.1 0, 3, .inl c_h_turnedFeatures))]) 0 0 := by
  refine z_start2z (own := RX2) (by decide) (Nat.le_of_ble_eq_true rfl) rfl ?_
  intro p e s m args below meth c A ls Q hx hb hml hts hown hK hE hT hP hD hS hA hl hret
  have hl : lv_has ls 2 [(0, .ref h), (1, .int k)] := hl
  refine lv_aload_n hx hb dX2_isTurned_0 rfl (lv_at hl 0 rfl) ?_
  refine lv_iload_n hx hb dX2_isTurned_1 rfl (lv_at hl 1 rfl) ?_
  refine z_callVi (As := [.int k]) (rest := []) (wr := [(h_turnedFeatures, .inl (cA.1 0, 3, .inl c_h_turnedFeatures))]) ⟨hx, hb, hml, hown, hts⟩ hK hE hT hP hD hS hA (d_H_hasFeature l G cA h h_features h_featureNames h_steps h_turnedFeatures h_sixteenths h_keys h_keySteps h_lent h_rings h_on h_onMany h_doors h_wanted h_openers h_seconds h_turned h_roundMany h_roundDoors k (by omega)) lk_RX2_85 ⟨rfl, rfl⟩ ⟨Nat.le_of_ble_eq_true rfl, Nat.le_of_ble_eq_true rfl⟩ 2 rfl rfl rfl [0] [1] rfl rfl (by decide) rfl hl.1 rfl (lv_room (Nat.le_of_ble_eq_true rfl)) dX2_isTurned_2 ⟨Nat.le_of_ble_eq_true rfl, Nat.le_of_ble_eq_true rfl⟩ (fun r_1 u_2 H locs hw hP hD hS => ?_)
  have hP : va_P G vwCl [(h_turnedFeatures, .inl (cA.1 0, 3, .inl c_h_turnedFeatures)), (h, .inr (2, [.int h_features, .ref h_featureNames, .ref h_steps, .ref h_turnedFeatures, .ref h_sixteenths, .int h_keys, .ref h_keySteps, .int h_lent, .int h_rings, .ref h_on, .ref h_onMany, .int h_doors, .ref h_wanted, .ref h_openers, .ref h_seconds, .int h_turned, .int h_roundMany, .ref h_roundDoors]))] H := hP
  have hD : va_D A [(h_turnedFeatures, .inl (cA.1 0, 3, .inl c_h_turnedFeatures)), (h, .inr (2, [.int h_features, .ref h_featureNames, .ref h_steps, .ref h_turnedFeatures, .ref h_sixteenths, .int h_keys, .ref h_keySteps, .int h_lent, .int h_rings, .ref h_on, .ref h_onMany, .int h_doors, .ref h_wanted, .ref h_openers, .ref h_seconds, .int h_turned, .int h_roundMany, .ref h_roundDoors]))] := hD
  have hz_r_1 := hw
  refine lv_if_eq (tgt := 24) hx hb dX2_isTurned_5 (by decide) (fun c_3 => ?_) (fun c_3 => ?_)
  · skip
    refine lv_iconst (v := 0) hx hb dX2_isTurned_24 (by decide) ?_
    exact hret _ _ _ _ _ _ () [1, 0] hP hD hS rfl (by decide) dX2_isTurned_25 (Or.inl rfl) (Or.inl rfl)
  · skip
    refine lv_aload_n hx hb dX2_isTurned_8 rfl (lv_at hl 0 rfl) ?_
    refine va_get (D := G) (ci := 2) (v := .ref h_turnedFeatures) (C := RX2) (T := TX2) (N := 18) hx hb hts inT2 hown hK hP 1 rfl rfl 3 (by decide) (hts _ tw_272) (fun _ h9 => h9) rfl dX2_isTurned_9 ?_
    refine lv_iload_n hx hb dX2_isTurned_12 rfl (lv_at hl 1 rfl) ?_
    refine z_callSNi (As := [.ref h_turnedFeatures, .int k]) (rest := []) (wr := [(h, .inr (2, [.int h_features, .ref h_featureNames, .ref h_steps, .ref h_turnedFeatures, .ref h_sixteenths, .int h_keys, .ref h_keySteps, .int h_lent, .int h_rings, .ref h_on, .ref h_onMany, .int h_doors, .ref h_wanted, .ref h_openers, .ref h_seconds, .int h_turned, .int h_roundMany, .ref h_roundDoors]))]) ⟨hx, hb, hml, hown, hts⟩ hK hE hT hP hD hS hA (d_at_3 l G cA h_turnedFeatures c_h_turnedFeatures k) lk_RX2_89 ⟨rfl, rfl⟩ ⟨Nat.le_of_ble_eq_true rfl, Nat.le_of_ble_eq_true rfl⟩ [0] [1] rfl rfl (by decide) rfl hl.1 rfl (lv_room (Nat.le_of_ble_eq_true rfl)) dX2_isTurned_13 ⟨Nat.le_of_ble_eq_true rfl, Nat.le_of_ble_eq_true rfl⟩ (fun r_6 u_7 H locs hw hP hD hS => ?_)
    have hP : va_P G vwCl [(h, .inr (2, [.int h_features, .ref h_featureNames, .ref h_steps, .ref h_turnedFeatures, .ref h_sixteenths, .int h_keys, .ref h_keySteps, .int h_lent, .int h_rings, .ref h_on, .ref h_onMany, .int h_doors, .ref h_wanted, .ref h_openers, .ref h_seconds, .int h_turned, .int h_roundMany, .ref h_roundDoors])), (h_turnedFeatures, .inl (cA.1 0, 3, .inl c_h_turnedFeatures))] H := hP
    have hD : va_D A [(h, .inr (2, [.int h_features, .ref h_featureNames, .ref h_steps, .ref h_turnedFeatures, .ref h_sixteenths, .int h_keys, .ref h_keySteps, .int h_lent, .int h_rings, .ref h_on, .ref h_onMany, .int h_doors, .ref h_wanted, .ref h_openers, .ref h_seconds, .int h_turned, .int h_roundMany, .ref h_roundDoors])), (h_turnedFeatures, .inl (cA.1 0, 3, .inl c_h_turnedFeatures))] := hD
    have hx_r_6 := hw
    refine lv_iconst (v := 1) hx hb dX2_isTurned_16 (by decide) ?_
    refine lv_icmp_ne (tgt := 24) hx hb dX2_isTurned_17 (by decide) (fun c_8 => ?_) (fun c_8 => ?_)
    · skip
      refine lv_iconst (v := 0) hx hb dX2_isTurned_24 (by decide) ?_
      exact hret _ _ _ _ _ _ () [0, 1] hP hD hS rfl (by decide) dX2_isTurned_25 (Or.inl rfl) (Or.inl rfl)
    · skip
      refine lv_iconst (v := 1) hx hb dX2_isTurned_20 (by decide) ?_
      refine lv_goto (tgt := 25) hx hb dX2_isTurned_21 (by decide) ?_
      exact hret _ _ _ _ _ _ () [0, 1] hP hD hS rfl (by decide) dX2_isTurned_25 (Or.inr rfl) (Or.inr rfl)
set_option maxHeartbeats 4000000 in
set_option maxRecDepth 100000 in
theorem d_H_featureNamed (l : Launch) (G : va_G) (cA : zCA) (h : Nat) (h_features : Int32) (h_featureNames : Nat) (h_steps : Nat) (h_turnedFeatures : Nat) (h_sixteenths : Nat) (h_keys : Int32) (h_keySteps : Nat) (h_lent : Int32) (h_rings : Int32) (h_on : Nat) (h_onMany : Nat) (h_doors : Int32) (h_wanted : Nat) (h_openers : Nat) (h_seconds : Nat) (h_turned : Int32) (h_roundMany : Int32) (h_roundDoors : Nat) (c_h_featureNames : Nat → Int64) (x : Int64) (hm_h_features : 0 ≤ h_features.toInt ∧ h_features.toInt ≤ 3) : zCi l yX2_featureNamed cX2_featureNamed 4 (some .int) ({ frames := 1, cells := 0, slots := 0, locals := 21 }) G cA [.ref h, .long x] [(h, .inr (2, [.int h_features, .ref h_featureNames, .ref h_steps, .ref h_turnedFeatures, .ref h_sixteenths, .int h_keys, .ref h_keySteps, .int h_lent, .int h_rings, .ref h_on, .ref h_onMany, .int h_doors, .ref h_wanted, .ref h_openers, .ref h_seconds, .int h_turned, .int h_roundMany, .ref h_roundDoors])), (h_featureNames, .inl (cA.1 1, 3, .inr (.inl c_h_featureNames)))] (S := Unit) (fun (r : Int32) (u : Unit) => True) (fun (u : Unit) => [(h, .inr (2, [.int h_features, .ref h_featureNames, .ref h_steps, .ref h_turnedFeatures, .ref h_sixteenths, .int h_keys, .ref h_keySteps, .int h_lent, .int h_rings, .ref h_on, .ref h_onMany, .int h_doors, .ref h_wanted, .ref h_openers, .ref h_seconds, .int h_turned, .int h_roundMany, .ref h_roundDoors])), (h_featureNames, .inl (cA.1 1, 3, .inr (.inl c_h_featureNames)))]) 0 0 := by
  refine z_start2i (own := RX2) (by decide) (Nat.le_of_ble_eq_true rfl) rfl ?_
  intro p e s m args below meth c A ls Q hx hb hml hts hown hK hE hT hP hD hS hA hl hret
  have hl : lv_has ls 4 [(0, .ref h), (1, .long x)] := hl
  refine lv_iconst (v := 0) hx hb dX2_featureNamed_0 (by decide) ?_
  refine lv_istore_n (lv' := [(3, .int 0), (0, .ref h), (1, .long x)]) hx hb dX2_featureNamed_1 rfl hl (by decide) rfl (fun ls hl => ?_)
  have hlp_17 : ∀ (n : Nat) (v_16 : Int32) (H : Heap) (locs : List Loc) (ls : Array Slot), (2147483647 - v_16.toInt).toNat < n → (0 ≤ v_16.toInt) → va_P G vwCl [(h, .inr (2, [.int h_features, .ref h_featureNames, .ref h_steps, .ref h_turnedFeatures, .ref h_sixteenths, .int h_keys, .ref h_keySteps, .int h_lent, .int h_rings, .ref h_on, .ref h_onMany, .int h_doors, .ref h_wanted, .ref h_openers, .ref h_seconds, .int h_turned, .int h_roundMany, .ref h_roundDoors])), (h_featureNames, .inl (cA.1 1, 3, .inr (.inl c_h_featureNames)))] H → va_D A [(h, .inr (2, [.int h_features, .ref h_featureNames, .ref h_steps, .ref h_turnedFeatures, .ref h_sixteenths, .int h_keys, .ref h_keySteps, .int h_lent, .int h_rings, .ref h_on, .ref h_onMany, .int h_doors, .ref h_wanted, .ref h_openers, .ref h_seconds, .int h_turned, .int h_roundMany, .ref h_roundDoors])), (h_featureNames, .inl (cA.1 1, 3, .inr (.inl c_h_featureNames)))] → va_S A s.heap H locs → lv_has ls 4 [(0, .ref h), (1, .long x), (3, .int v_16)] → W p l e ({ frames := 1, cells := 0, slots := 0, locals := 21 }) s m args below meth c H locs 0 0 Q (F0 m 2 ls []) := by
    intro n
    induction n with
    | zero =>
      intro v_16 H locs ls hmu_hlp_17 hi_18 hP hD hS hl
      exact absurd hmu_hlp_17 (Nat.not_lt_zero _)
    | succ n ih_19 =>
      intro v_16 H locs ls hmu_hlp_17 hi_18 hP hD hS hl
      refine lv_iload_n hx hb dX2_featureNamed_2 rfl (lv_at hl 2 rfl) ?_
      refine lv_aload_n hx hb dX2_featureNamed_3 rfl (lv_at hl 0 rfl) ?_
      refine va_get (D := G) (ci := 2) (v := .int h_features) (C := RX2) (T := TX2) (N := 18) hx hb hts inT2 hown hK hP 0 rfl rfl 0 (by decide) (hts _ tw_265) (fun _ h9 => h9) rfl dX2_featureNamed_4 ?_
      refine lv_icmp_ge (tgt := 31) hx hb dX2_featureNamed_7 (by decide) (fun c_20 => ?_) (fun c_20 => ?_)
      · have b_21 := z_s1 c_20
        refine lv_iconst (v := (-1)) hx hb dX2_featureNamed_31 (by decide) ?_
        exact hret _ _ _ _ _ _ () [0, 1] hP hD hS rfl (by decide) dX2_featureNamed_32 trivial
      · have b_22 := z_t2 c_20
        refine lv_aload_n hx hb dX2_featureNamed_10 rfl (lv_at hl 0 rfl) ?_
        refine va_get (D := G) (ci := 2) (v := .ref h_featureNames) (C := RX2) (T := TX2) (N := 18) hx hb hts inT2 hown hK hP 0 rfl rfl 1 (by decide) (hts _ tw_270) (fun _ h9 => h9) rfl dX2_featureNamed_11 ?_
        refine lv_iload_n hx hb dX2_featureNamed_14 rfl (lv_at hl 2 rfl) ?_
        refine z_callSNl (As := [.ref h_featureNames, .int v_16]) (rest := []) (wr := [(h, .inr (2, [.int h_features, .ref h_featureNames, .ref h_steps, .ref h_turnedFeatures, .ref h_sixteenths, .int h_keys, .ref h_keySteps, .int h_lent, .int h_rings, .ref h_on, .ref h_onMany, .int h_doors, .ref h_wanted, .ref h_openers, .ref h_seconds, .int h_turned, .int h_roundMany, .ref h_roundDoors]))]) ⟨hx, hb, hml, hown, hts⟩ hK hE hT hP hD hS hA (d_longAt_3 l G cA h_featureNames c_h_featureNames v_16) lk_RX2_93 ⟨rfl, rfl⟩ ⟨Nat.le_of_ble_eq_true rfl, Nat.le_of_ble_eq_true rfl⟩ [1] [0] rfl rfl (by decide) rfl hl.1 rfl (lv_room (Nat.le_of_ble_eq_true rfl)) dX2_featureNamed_15 ⟨Nat.le_of_ble_eq_true rfl, Nat.le_of_ble_eq_true rfl⟩ (fun r_23 u_24 H locs hw hP hD hS => ?_)
        have hP : va_P G vwCl [(h, .inr (2, [.int h_features, .ref h_featureNames, .ref h_steps, .ref h_turnedFeatures, .ref h_sixteenths, .int h_keys, .ref h_keySteps, .int h_lent, .int h_rings, .ref h_on, .ref h_onMany, .int h_doors, .ref h_wanted, .ref h_openers, .ref h_seconds, .int h_turned, .int h_roundMany, .ref h_roundDoors])), (h_featureNames, .inl (cA.1 1, 3, .inr (.inl c_h_featureNames)))] H := hP
        have hD : va_D A [(h, .inr (2, [.int h_features, .ref h_featureNames, .ref h_steps, .ref h_turnedFeatures, .ref h_sixteenths, .int h_keys, .ref h_keySteps, .int h_lent, .int h_rings, .ref h_on, .ref h_onMany, .int h_doors, .ref h_wanted, .ref h_openers, .ref h_seconds, .int h_turned, .int h_roundMany, .ref h_roundDoors])), (h_featureNames, .inl (cA.1 1, 3, .inr (.inl c_h_featureNames)))] := hD
        obtain ⟨he_r_23, hw⟩ := hw
        refine lv_lload_n hx hb dX2_featureNamed_18 rfl (lv_at hl 1 rfl) ?_
        refine W.lcmp hx hb dX2_featureNamed_19 ?_
        refine lv_if_ne (tgt := 25) hx hb dX2_featureNamed_20 (by decide) (fun c_25 => ?_) (fun c_25 => ?_)
        · skip
          refine lv_iinc (v := (v_16 + 1)) (lv' := [(3, .int (v_16 + 1)), (0, .ref h), (1, .long x)]) hx hb dX2_featureNamed_25 hl (k := 2) rfl (z_ofi (by decide +kernel)) (by decide) rfl (fun ls hl => ?_)
          refine lv_goto (tgt := 2) hx hb dX2_featureNamed_28 (by decide) ?_
          exact ih_19 (v_16 + 1) H locs ls (z_up hmu_hlp_17 (by omega) trivial) (z_upc hi_18 (by omega) trivial) hP hD hS (lv_sub hl [1, 2, 0] rfl)
        · skip
          refine lv_iload_n hx hb dX2_featureNamed_23 rfl (lv_at hl 2 rfl) ?_
          exact hret _ _ _ _ _ _ () [0, 1] hP hD hS rfl (by decide) dX2_featureNamed_24 trivial
  exact hlp_17 _ 0 _ _ _ (Nat.lt_succ_self _) (by first | decide +kernel | omega) hP hD hS (lv_sub hl [1, 2, 0] rfl)
set_option maxHeartbeats 4000000 in
set_option maxRecDepth 100000 in
theorem d_H_feltAs (l : Launch) (G : va_G) (cA : zCA) (h : Nat) (h_features : Int32) (h_featureNames : Nat) (h_steps : Nat) (h_turnedFeatures : Nat) (h_sixteenths : Nat) (h_keys : Int32) (h_keySteps : Nat) (h_lent : Int32) (h_rings : Int32) (h_on : Nat) (h_onMany : Nat) (h_doors : Int32) (h_wanted : Nat) (h_openers : Nat) (h_seconds : Nat) (h_turned : Int32) (h_roundMany : Int32) (h_roundDoors : Nat) (c_h_sixteenths : Nat → Int32) (x : Int32) (y : Int32) (k : Int32) (hm_h_features : 0 ≤ h_features.toInt ∧ h_features.toInt ≤ 3) : zCi l yX2_feltAs cX2_feltAs 4 (some .int) ({ frames := 1, cells := 0, slots := 0, locals := 21 }) G cA [.ref h, .int x, .int y, .int k] [(h, .inr (2, [.int h_features, .ref h_featureNames, .ref h_steps, .ref h_turnedFeatures, .ref h_sixteenths, .int h_keys, .ref h_keySteps, .int h_lent, .int h_rings, .ref h_on, .ref h_onMany, .int h_doors, .ref h_wanted, .ref h_openers, .ref h_seconds, .int h_turned, .int h_roundMany, .ref h_roundDoors])), (h_sixteenths, .inl (cA.1 0, 48, .inl c_h_sixteenths))] (S := Unit) (fun (r : Int32) (u : Unit) => True) (fun (u : Unit) => [(h, .inr (2, [.int h_features, .ref h_featureNames, .ref h_steps, .ref h_turnedFeatures, .ref h_sixteenths, .int h_keys, .ref h_keySteps, .int h_lent, .int h_rings, .ref h_on, .ref h_onMany, .int h_doors, .ref h_wanted, .ref h_openers, .ref h_seconds, .int h_turned, .int h_roundMany, .ref h_roundDoors])), (h_sixteenths, .inl (cA.1 0, 48, .inl c_h_sixteenths))]) 0 0 := by
  refine z_start2i (own := RX2) (by decide) (Nat.le_of_ble_eq_true rfl) rfl ?_
  intro p e s m args below meth c A ls Q hx hb hml hts hown hK hE hT hP hD hS hA hl hret
  have hl : lv_has ls 4 [(0, .ref h), (1, .int x), (2, .int y), (3, .int k)] := hl
  refine lv_iload_n hx hb dX2_feltAs_0 rfl (lv_at hl 2 rfl) ?_
  refine lv_if_lt (tgt := 18) hx hb dX2_feltAs_1 (by decide) (fun c_1 => ?_) (fun c_1 => ?_)
  · have b_2 := z_b3 c_1 (K := 0) (by decide +kernel)
    refine lv_iconst (v := 0) hx hb dX2_feltAs_18 (by decide) ?_
    exact hret _ _ _ _ _ _ () [0, 1] hP hD hS rfl (by decide) dX2_feltAs_19 trivial
  · have b_3 := z_b4 c_1 (K := 0) (by decide +kernel)
    refine lv_iload_n hx hb dX2_feltAs_4 rfl (lv_at hl 2 rfl) ?_
    refine lv_iconst (v := 4) hx hb dX2_feltAs_5 (by decide) ?_
    refine lv_icmp_ge (tgt := 18) hx hb dX2_feltAs_6 (by decide) (fun c_4 => ?_) (fun c_4 => ?_)
    · have b_5 := z_b1 c_4 (K := 4) (by decide +kernel)
      refine lv_iconst (v := 0) hx hb dX2_feltAs_18 (by decide) ?_
      exact hret _ _ _ _ _ _ () [0, 1] hP hD hS rfl (by decide) dX2_feltAs_19 trivial
    · have b_6 := z_b2 c_4 (K := 4) (by decide +kernel)
      refine lv_iload_n hx hb dX2_feltAs_9 rfl (lv_at hl 3 rfl) ?_
      refine lv_if_lt (tgt := 18) hx hb dX2_feltAs_10 (by decide) (fun c_7 => ?_) (fun c_7 => ?_)
      · have b_8 := z_b3 c_7 (K := 0) (by decide +kernel)
        refine lv_iconst (v := 0) hx hb dX2_feltAs_18 (by decide) ?_
        exact hret _ _ _ _ _ _ () [0, 1] hP hD hS rfl (by decide) dX2_feltAs_19 trivial
      · have b_9 := z_b4 c_7 (K := 0) (by decide +kernel)
        refine lv_iload_n hx hb dX2_feltAs_13 rfl (lv_at hl 3 rfl) ?_
        refine lv_iconst (v := 4) hx hb dX2_feltAs_14 (by decide) ?_
        refine lv_icmp_lt (tgt := 20) hx hb dX2_feltAs_15 (by decide) (fun c_10 => ?_) (fun c_10 => ?_)
        · have b_11 := z_b3 c_10 (K := 4) (by decide +kernel)
          refine lv_aload_n hx hb dX2_feltAs_20 rfl (lv_at hl 0 rfl) ?_
          refine va_get (D := G) (ci := 2) (v := .ref h_sixteenths) (C := RX2) (T := TX2) (N := 18) hx hb hts inT2 hown hK hP 0 rfl rfl 4 (by decide) (hts _ tw_273) (fun _ h9 => h9) rfl dX2_feltAs_21 ?_
          refine lv_iload_n hx hb dX2_feltAs_24 rfl (lv_at hl 1 rfl) ?_
          refine lv_iconst (v := 4) hx hb dX2_feltAs_25 (by decide) ?_
          refine lv_imul hx hb dX2_feltAs_26 ?_
          refine lv_topi (fun x_12 _ => ?_)
          refine lv_iload_n hx hb dX2_feltAs_27 rfl (lv_at hl 2 rfl) ?_
          refine lv_iadd hx hb dX2_feltAs_28 ?_
          refine lv_topi (fun x_13 _ => ?_)
          refine lv_iconst (v := 4) hx hb dX2_feltAs_29 (by decide) ?_
          refine lv_imul hx hb dX2_feltAs_30 ?_
          refine lv_topi (fun x_14 _ => ?_)
          refine lv_iload_n hx hb dX2_feltAs_31 rfl (lv_at hl 3 rfl) ?_
          refine lv_iadd hx hb dX2_feltAs_32 ?_
          refine lv_topi (fun x_15 _ => ?_)
          refine z_callSNi (As := [.ref h_sixteenths, .int x_15]) (rest := []) (wr := [(h, .inr (2, [.int h_features, .ref h_featureNames, .ref h_steps, .ref h_turnedFeatures, .ref h_sixteenths, .int h_keys, .ref h_keySteps, .int h_lent, .int h_rings, .ref h_on, .ref h_onMany, .int h_doors, .ref h_wanted, .ref h_openers, .ref h_seconds, .int h_turned, .int h_roundMany, .ref h_roundDoors]))]) ⟨hx, hb, hml, hown, hts⟩ hK hE hT hP hD hS hA (d_at_48 l G cA h_sixteenths c_h_sixteenths x_15) lk_RX2_89 ⟨rfl, rfl⟩ ⟨Nat.le_of_ble_eq_true rfl, Nat.le_of_ble_eq_true rfl⟩ [1] [0] rfl rfl (by decide) rfl hl.1 rfl (lv_room (Nat.le_of_ble_eq_true rfl)) dX2_feltAs_33 ⟨Nat.le_of_ble_eq_true rfl, Nat.le_of_ble_eq_true rfl⟩ (fun r_16 u_17 H locs hw hP hD hS => ?_)
          have hP : va_P G vwCl [(h, .inr (2, [.int h_features, .ref h_featureNames, .ref h_steps, .ref h_turnedFeatures, .ref h_sixteenths, .int h_keys, .ref h_keySteps, .int h_lent, .int h_rings, .ref h_on, .ref h_onMany, .int h_doors, .ref h_wanted, .ref h_openers, .ref h_seconds, .int h_turned, .int h_roundMany, .ref h_roundDoors])), (h_sixteenths, .inl (cA.1 0, 48, .inl c_h_sixteenths))] H := hP
          have hD : va_D A [(h, .inr (2, [.int h_features, .ref h_featureNames, .ref h_steps, .ref h_turnedFeatures, .ref h_sixteenths, .int h_keys, .ref h_keySteps, .int h_lent, .int h_rings, .ref h_on, .ref h_onMany, .int h_doors, .ref h_wanted, .ref h_openers, .ref h_seconds, .int h_turned, .int h_roundMany, .ref h_roundDoors])), (h_sixteenths, .inl (cA.1 0, 48, .inl c_h_sixteenths))] := hD
          exact hret _ _ _ _ _ _ () [0, 1] hP hD hS rfl (by decide) dX2_feltAs_36 trivial
        · have b_18 := z_b4 c_10 (K := 4) (by decide +kernel)
          refine lv_iconst (v := 0) hx hb dX2_feltAs_18 (by decide) ?_
          exact hret _ _ _ _ _ _ () [0, 1] hP hD hS rfl (by decide) dX2_feltAs_19 trivial
set_option maxHeartbeats 4000000 in
set_option maxRecDepth 100000 in
theorem d_H_stepAt (l : Launch) (G : va_G) (cA : zCA) (h : Nat) (h_features : Int32) (h_featureNames : Nat) (h_steps : Nat) (h_turnedFeatures : Nat) (h_sixteenths : Nat) (h_keys : Int32) (h_keySteps : Nat) (h_lent : Int32) (h_rings : Int32) (h_on : Nat) (h_onMany : Nat) (h_doors : Int32) (h_wanted : Nat) (h_openers : Nat) (h_seconds : Nat) (h_turned : Int32) (h_roundMany : Int32) (h_roundDoors : Nat) (c_h_steps : Nat → Int32) (c_h_turnedFeatures : Nat → Int32) (c_h_keySteps : Nat → Int32) (x : Int32) (y : Int32) (k : Int32) (hm_h_features : 0 ≤ h_features.toInt ∧ h_features.toInt ≤ 3) : zCi l yX2_stepAt cX2_stepAt 6 (some .int) ({ frames := 1, cells := 0, slots := 0, locals := 21 }) G cA [.ref h, .int x, .int y, .int k] [(h, .inr (2, [.int h_features, .ref h_featureNames, .ref h_steps, .ref h_turnedFeatures, .ref h_sixteenths, .int h_keys, .ref h_keySteps, .int h_lent, .int h_rings, .ref h_on, .ref h_onMany, .int h_doors, .ref h_wanted, .ref h_openers, .ref h_seconds, .int h_turned, .int h_roundMany, .ref h_roundDoors])), (h_steps, .inl (cA.1 0, 3, .inl c_h_steps)), (h_turnedFeatures, .inl (cA.1 0, 3, .inl c_h_turnedFeatures)), (h_keySteps, .inl (cA.1 0, 30, .inl c_h_keySteps))] (S := Unit) (fun (r : Int32) (u : Unit) => True) (fun (u : Unit) => [(h, .inr (2, [.int h_features, .ref h_featureNames, .ref h_steps, .ref h_turnedFeatures, .ref h_sixteenths, .int h_keys, .ref h_keySteps, .int h_lent, .int h_rings, .ref h_on, .ref h_onMany, .int h_doors, .ref h_wanted, .ref h_openers, .ref h_seconds, .int h_turned, .int h_roundMany, .ref h_roundDoors])), (h_steps, .inl (cA.1 0, 3, .inl c_h_steps)), (h_turnedFeatures, .inl (cA.1 0, 3, .inl c_h_turnedFeatures)), (h_keySteps, .inl (cA.1 0, 30, .inl c_h_keySteps))]) 0 0 := by
  refine z_start2i (own := RX2) (by decide) (Nat.le_of_ble_eq_true rfl) rfl ?_
  intro p e s m args below meth c A ls Q hx hb hml hts hown hK hE hT hP hD hS hA hl hret
  have hl : lv_has ls 6 [(0, .ref h), (1, .int x), (2, .int y), (3, .int k)] := hl
  refine lv_aload_n hx hb dX2_stepAt_0 rfl (lv_at hl 0 rfl) ?_
  refine lv_iload_n hx hb dX2_stepAt_1 rfl (lv_at hl 1 rfl) ?_
  refine z_callVi (As := [.int x]) (rest := []) (wr := [(h_steps, .inl (cA.1 0, 3, .inl c_h_steps)), (h_turnedFeatures, .inl (cA.1 0, 3, .inl c_h_turnedFeatures)), (h_keySteps, .inl (cA.1 0, 30, .inl c_h_keySteps))]) ⟨hx, hb, hml, hown, hts⟩ hK hE hT hP hD hS hA (d_H_hasKey l G cA h h_features h_featureNames h_steps h_turnedFeatures h_sixteenths h_keys h_keySteps h_lent h_rings h_on h_onMany h_doors h_wanted h_openers h_seconds h_turned h_roundMany h_roundDoors x (by omega)) lk_RX2_97 ⟨rfl, rfl⟩ ⟨Nat.le_of_ble_eq_true rfl, Nat.le_of_ble_eq_true rfl⟩ 2 rfl rfl rfl [0] [1, 2, 3] rfl rfl (by decide) rfl hl.1 rfl (lv_room (Nat.le_of_ble_eq_true rfl)) dX2_stepAt_2 ⟨Nat.le_of_ble_eq_true rfl, Nat.le_of_ble_eq_true rfl⟩ (fun r_1 u_2 H locs hw hP hD hS => ?_)
  have hP : va_P G vwCl [(h_steps, .inl (cA.1 0, 3, .inl c_h_steps)), (h_turnedFeatures, .inl (cA.1 0, 3, .inl c_h_turnedFeatures)), (h_keySteps, .inl (cA.1 0, 30, .inl c_h_keySteps)), (h, .inr (2, [.int h_features, .ref h_featureNames, .ref h_steps, .ref h_turnedFeatures, .ref h_sixteenths, .int h_keys, .ref h_keySteps, .int h_lent, .int h_rings, .ref h_on, .ref h_onMany, .int h_doors, .ref h_wanted, .ref h_openers, .ref h_seconds, .int h_turned, .int h_roundMany, .ref h_roundDoors]))] H := hP
  have hD : va_D A [(h_steps, .inl (cA.1 0, 3, .inl c_h_steps)), (h_turnedFeatures, .inl (cA.1 0, 3, .inl c_h_turnedFeatures)), (h_keySteps, .inl (cA.1 0, 30, .inl c_h_keySteps)), (h, .inr (2, [.int h_features, .ref h_featureNames, .ref h_steps, .ref h_turnedFeatures, .ref h_sixteenths, .int h_keys, .ref h_keySteps, .int h_lent, .int h_rings, .ref h_on, .ref h_onMany, .int h_doors, .ref h_wanted, .ref h_openers, .ref h_seconds, .int h_turned, .int h_roundMany, .ref h_roundDoors]))] := hD
  have hz_r_1 := hw
  refine lv_if_eq (tgt := 16) hx hb dX2_stepAt_5 (by decide) (fun c_3 => ?_) (fun c_3 => ?_)
  · skip
    refine lv_iconst (v := (-1)) hx hb dX2_stepAt_16 (by decide) ?_
    exact hret _ _ _ _ _ _ () [3, 0, 1, 2] hP hD hS rfl (by decide) dX2_stepAt_17 trivial
  · skip
    refine lv_aload_n hx hb dX2_stepAt_8 rfl (lv_at hl 0 rfl) ?_
    refine lv_iload_n hx hb dX2_stepAt_9 rfl (lv_at hl 2 rfl) ?_
    refine z_callVi (As := [.int y]) (rest := []) (wr := [(h_steps, .inl (cA.1 0, 3, .inl c_h_steps)), (h_turnedFeatures, .inl (cA.1 0, 3, .inl c_h_turnedFeatures)), (h_keySteps, .inl (cA.1 0, 30, .inl c_h_keySteps))]) ⟨hx, hb, hml, hown, hts⟩ hK hE hT hP hD hS hA (d_H_hasFeature l G cA h h_features h_featureNames h_steps h_turnedFeatures h_sixteenths h_keys h_keySteps h_lent h_rings h_on h_onMany h_doors h_wanted h_openers h_seconds h_turned h_roundMany h_roundDoors y (by omega)) lk_RX2_85 ⟨rfl, rfl⟩ ⟨Nat.le_of_ble_eq_true rfl, Nat.le_of_ble_eq_true rfl⟩ 2 rfl rfl rfl [3] [0, 1, 2] rfl rfl (by decide) rfl hl.1 rfl (lv_room (Nat.le_of_ble_eq_true rfl)) dX2_stepAt_10 ⟨Nat.le_of_ble_eq_true rfl, Nat.le_of_ble_eq_true rfl⟩ (fun r_6 u_7 H locs hw hP hD hS => ?_)
    have hP : va_P G vwCl [(h_steps, .inl (cA.1 0, 3, .inl c_h_steps)), (h_turnedFeatures, .inl (cA.1 0, 3, .inl c_h_turnedFeatures)), (h_keySteps, .inl (cA.1 0, 30, .inl c_h_keySteps)), (h, .inr (2, [.int h_features, .ref h_featureNames, .ref h_steps, .ref h_turnedFeatures, .ref h_sixteenths, .int h_keys, .ref h_keySteps, .int h_lent, .int h_rings, .ref h_on, .ref h_onMany, .int h_doors, .ref h_wanted, .ref h_openers, .ref h_seconds, .int h_turned, .int h_roundMany, .ref h_roundDoors]))] H := hP
    have hD : va_D A [(h_steps, .inl (cA.1 0, 3, .inl c_h_steps)), (h_turnedFeatures, .inl (cA.1 0, 3, .inl c_h_turnedFeatures)), (h_keySteps, .inl (cA.1 0, 30, .inl c_h_keySteps)), (h, .inr (2, [.int h_features, .ref h_featureNames, .ref h_steps, .ref h_turnedFeatures, .ref h_sixteenths, .int h_keys, .ref h_keySteps, .int h_lent, .int h_rings, .ref h_on, .ref h_onMany, .int h_doors, .ref h_wanted, .ref h_openers, .ref h_seconds, .int h_turned, .int h_roundMany, .ref h_roundDoors]))] := hD
    have hz_r_6 := hw
    refine lv_if_ne (tgt := 18) hx hb dX2_stepAt_13 (by decide) (fun c_8 => ?_) (fun c_8 => ?_)
    · skip
      refine lv_aload_n hx hb dX2_stepAt_18 rfl (lv_at hl 0 rfl) ?_
      refine va_get (D := G) (ci := 2) (v := .ref h_keySteps) (C := RX2) (T := TX2) (N := 18) hx hb hts inT2 hown hK hP 3 rfl rfl 6 (by decide) (hts _ tw_277) (fun _ h9 => h9) rfl dX2_stepAt_19 ?_
      refine lv_iload_n hx hb dX2_stepAt_22 rfl (lv_at hl 1 rfl) ?_
      refine lv_iconst (v := 3) hx hb dX2_stepAt_23 (by decide) ?_
      refine lv_imul hx hb dX2_stepAt_24 ?_
      refine lv_topi (fun x_10 _ => ?_)
      refine lv_iload_n hx hb dX2_stepAt_25 rfl (lv_at hl 2 rfl) ?_
      refine lv_iadd hx hb dX2_stepAt_26 ?_
      refine lv_topi (fun x_11 _ => ?_)
      refine z_callSNi (As := [.ref h_keySteps, .int x_11]) (rest := []) (wr := [(h_steps, .inl (cA.1 0, 3, .inl c_h_steps)), (h_turnedFeatures, .inl (cA.1 0, 3, .inl c_h_turnedFeatures)), (h, .inr (2, [.int h_features, .ref h_featureNames, .ref h_steps, .ref h_turnedFeatures, .ref h_sixteenths, .int h_keys, .ref h_keySteps, .int h_lent, .int h_rings, .ref h_on, .ref h_onMany, .int h_doors, .ref h_wanted, .ref h_openers, .ref h_seconds, .int h_turned, .int h_roundMany, .ref h_roundDoors]))]) ⟨hx, hb, hml, hown, hts⟩ hK hE hT hP hD hS hA (d_at_30 l G cA h_keySteps c_h_keySteps x_11) lk_RX2_89 ⟨rfl, rfl⟩ ⟨Nat.le_of_ble_eq_true rfl, Nat.le_of_ble_eq_true rfl⟩ [2] [0, 1, 3] rfl rfl (by decide) rfl hl.1 rfl (lv_room (Nat.le_of_ble_eq_true rfl)) dX2_stepAt_27 ⟨Nat.le_of_ble_eq_true rfl, Nat.le_of_ble_eq_true rfl⟩ (fun r_12 u_13 H locs hw hP hD hS => ?_)
      have hP : va_P G vwCl [(h_steps, .inl (cA.1 0, 3, .inl c_h_steps)), (h_turnedFeatures, .inl (cA.1 0, 3, .inl c_h_turnedFeatures)), (h, .inr (2, [.int h_features, .ref h_featureNames, .ref h_steps, .ref h_turnedFeatures, .ref h_sixteenths, .int h_keys, .ref h_keySteps, .int h_lent, .int h_rings, .ref h_on, .ref h_onMany, .int h_doors, .ref h_wanted, .ref h_openers, .ref h_seconds, .int h_turned, .int h_roundMany, .ref h_roundDoors])), (h_keySteps, .inl (cA.1 0, 30, .inl c_h_keySteps))] H := hP
      have hD : va_D A [(h_steps, .inl (cA.1 0, 3, .inl c_h_steps)), (h_turnedFeatures, .inl (cA.1 0, 3, .inl c_h_turnedFeatures)), (h, .inr (2, [.int h_features, .ref h_featureNames, .ref h_steps, .ref h_turnedFeatures, .ref h_sixteenths, .int h_keys, .ref h_keySteps, .int h_lent, .int h_rings, .ref h_on, .ref h_onMany, .int h_doors, .ref h_wanted, .ref h_openers, .ref h_seconds, .int h_turned, .int h_roundMany, .ref h_roundDoors])), (h_keySteps, .inl (cA.1 0, 30, .inl c_h_keySteps))] := hD
      refine lv_istore (lv' := [(4, .int r_12), (0, .ref h), (1, .int x), (2, .int y), (3, .int k)]) hx hb dX2_stepAt_30 hl (by decide) rfl (fun ls hl => ?_)
      refine lv_iload_n hx hb dX2_stepAt_32 rfl (lv_at hl 4 rfl) ?_
      refine lv_iconst (v := 1) hx hb dX2_stepAt_33 (by decide) ?_
      refine lv_icmp_ne (tgt := 53) hx hb dX2_stepAt_34 (by decide) (fun c_14 => ?_) (fun c_14 => ?_)
      · skip
        refine lv_iconst (v := 0) hx hb dX2_stepAt_53 (by decide) ?_
        refine lv_istore (lv' := [(5, .int 0), (4, .int r_12), (0, .ref h), (1, .int x), (2, .int y), (3, .int k)]) hx hb dX2_stepAt_54 hl (by decide) rfl (fun ls hl => ?_)
        refine lv_iload hx hb dX2_stepAt_56 (lv_at hl 0 rfl) ?_
        refine lv_if_eq (tgt := 77) hx hb dX2_stepAt_58 (by decide) (fun _ => ?_) (fun h9 => absurd (by decide +kernel) h9)
        refine lv_iload hx hb dX2_stepAt_77 (lv_at hl 1 rfl) ?_
        exact hret _ _ _ _ _ _ () [2, 0, 1, 3] hP hD hS rfl (by decide) dX2_stepAt_79 trivial
      · skip
        refine lv_aload_n hx hb dX2_stepAt_37 rfl (lv_at hl 1 rfl) ?_
        refine va_get (D := G) (ci := 2) (v := .ref h_turnedFeatures) (C := RX2) (T := TX2) (N := 18) hx hb hts inT2 hown hK hP 2 rfl rfl 3 (by decide) (hts _ tw_272) (fun _ h9 => h9) rfl dX2_stepAt_38 ?_
        refine lv_iload_n hx hb dX2_stepAt_41 rfl (lv_at hl 3 rfl) ?_
        refine z_callSNi (As := [.ref h_turnedFeatures, .int y]) (rest := []) (wr := [(h_steps, .inl (cA.1 0, 3, .inl c_h_steps)), (h, .inr (2, [.int h_features, .ref h_featureNames, .ref h_steps, .ref h_turnedFeatures, .ref h_sixteenths, .int h_keys, .ref h_keySteps, .int h_lent, .int h_rings, .ref h_on, .ref h_onMany, .int h_doors, .ref h_wanted, .ref h_openers, .ref h_seconds, .int h_turned, .int h_roundMany, .ref h_roundDoors])), (h_keySteps, .inl (cA.1 0, 30, .inl c_h_keySteps))]) ⟨hx, hb, hml, hown, hts⟩ hK hE hT hP hD hS hA (d_at_3 l G cA h_turnedFeatures c_h_turnedFeatures y) lk_RX2_89 ⟨rfl, rfl⟩ ⟨Nat.le_of_ble_eq_true rfl, Nat.le_of_ble_eq_true rfl⟩ [1] [0, 2, 3] rfl rfl (by decide) rfl hl.1 rfl (lv_room (Nat.le_of_ble_eq_true rfl)) dX2_stepAt_42 ⟨Nat.le_of_ble_eq_true rfl, Nat.le_of_ble_eq_true rfl⟩ (fun r_17 u_18 H locs hw hP hD hS => ?_)
        have hP : va_P G vwCl [(h_steps, .inl (cA.1 0, 3, .inl c_h_steps)), (h, .inr (2, [.int h_features, .ref h_featureNames, .ref h_steps, .ref h_turnedFeatures, .ref h_sixteenths, .int h_keys, .ref h_keySteps, .int h_lent, .int h_rings, .ref h_on, .ref h_onMany, .int h_doors, .ref h_wanted, .ref h_openers, .ref h_seconds, .int h_turned, .int h_roundMany, .ref h_roundDoors])), (h_keySteps, .inl (cA.1 0, 30, .inl c_h_keySteps)), (h_turnedFeatures, .inl (cA.1 0, 3, .inl c_h_turnedFeatures))] H := hP
        have hD : va_D A [(h_steps, .inl (cA.1 0, 3, .inl c_h_steps)), (h, .inr (2, [.int h_features, .ref h_featureNames, .ref h_steps, .ref h_turnedFeatures, .ref h_sixteenths, .int h_keys, .ref h_keySteps, .int h_lent, .int h_rings, .ref h_on, .ref h_onMany, .int h_doors, .ref h_wanted, .ref h_openers, .ref h_seconds, .int h_turned, .int h_roundMany, .ref h_roundDoors])), (h_keySteps, .inl (cA.1 0, 30, .inl c_h_keySteps)), (h_turnedFeatures, .inl (cA.1 0, 3, .inl c_h_turnedFeatures))] := hD
        have hx_r_17 := hw
        refine lv_iconst (v := 1) hx hb dX2_stepAt_45 (by decide) ?_
        refine lv_icmp_ne (tgt := 53) hx hb dX2_stepAt_46 (by decide) (fun c_19 => ?_) (fun c_19 => ?_)
        · skip
          refine lv_iconst (v := 0) hx hb dX2_stepAt_53 (by decide) ?_
          refine lv_istore (lv' := [(5, .int 0), (4, .int r_12), (0, .ref h), (1, .int x), (2, .int y), (3, .int k)]) hx hb dX2_stepAt_54 hl (by decide) rfl (fun ls hl => ?_)
          refine lv_iload hx hb dX2_stepAt_56 (lv_at hl 0 rfl) ?_
          refine lv_if_eq (tgt := 77) hx hb dX2_stepAt_58 (by decide) (fun _ => ?_) (fun h9 => absurd (by decide +kernel) h9)
          refine lv_iload hx hb dX2_stepAt_77 (lv_at hl 1 rfl) ?_
          exact hret _ _ _ _ _ _ () [1, 0, 3, 2] hP hD hS rfl (by decide) dX2_stepAt_79 trivial
        · skip
          refine lv_iconst (v := 1) hx hb dX2_stepAt_49 (by decide) ?_
          refine lv_goto (tgt := 54) hx hb dX2_stepAt_50 (by decide) ?_
          refine lv_istore (lv' := [(5, .int 1), (4, .int r_12), (0, .ref h), (1, .int x), (2, .int y), (3, .int k)]) hx hb dX2_stepAt_54 hl (by decide) rfl (fun ls hl => ?_)
          refine lv_iload hx hb dX2_stepAt_56 (lv_at hl 0 rfl) ?_
          refine lv_if_eq (tgt := 77) hx hb dX2_stepAt_58 (by decide) (fun h9 => absurd h9 (by decide +kernel)) (fun _ => ?_)
          refine lv_aload_n hx hb dX2_stepAt_61 rfl (lv_at hl 2 rfl) ?_
          refine va_get (D := G) (ci := 2) (v := .ref h_steps) (C := RX2) (T := TX2) (N := 18) hx hb hts inT2 hown hK hP 1 rfl rfl 2 (by decide) (hts _ tw_271) (fun _ h9 => h9) rfl dX2_stepAt_62 ?_
          refine lv_iload_n hx hb dX2_stepAt_65 rfl (lv_at hl 4 rfl) ?_
          refine z_callSNi (As := [.ref h_steps, .int y]) (rest := []) (wr := [(h, .inr (2, [.int h_features, .ref h_featureNames, .ref h_steps, .ref h_turnedFeatures, .ref h_sixteenths, .int h_keys, .ref h_keySteps, .int h_lent, .int h_rings, .ref h_on, .ref h_onMany, .int h_doors, .ref h_wanted, .ref h_openers, .ref h_seconds, .int h_turned, .int h_roundMany, .ref h_roundDoors])), (h_keySteps, .inl (cA.1 0, 30, .inl c_h_keySteps)), (h_turnedFeatures, .inl (cA.1 0, 3, .inl c_h_turnedFeatures))]) ⟨hx, hb, hml, hown, hts⟩ hK hE hT hP hD hS hA (d_at_3 l G cA h_steps c_h_steps y) lk_RX2_89 ⟨rfl, rfl⟩ ⟨Nat.le_of_ble_eq_true rfl, Nat.le_of_ble_eq_true rfl⟩ [0] [1, 2, 3] rfl rfl (by decide) rfl hl.1 rfl (lv_room (Nat.le_of_ble_eq_true rfl)) dX2_stepAt_66 ⟨Nat.le_of_ble_eq_true rfl, Nat.le_of_ble_eq_true rfl⟩ (fun r_22 u_23 H locs hw hP hD hS => ?_)
          have hP : va_P G vwCl [(h, .inr (2, [.int h_features, .ref h_featureNames, .ref h_steps, .ref h_turnedFeatures, .ref h_sixteenths, .int h_keys, .ref h_keySteps, .int h_lent, .int h_rings, .ref h_on, .ref h_onMany, .int h_doors, .ref h_wanted, .ref h_openers, .ref h_seconds, .int h_turned, .int h_roundMany, .ref h_roundDoors])), (h_keySteps, .inl (cA.1 0, 30, .inl c_h_keySteps)), (h_turnedFeatures, .inl (cA.1 0, 3, .inl c_h_turnedFeatures)), (h_steps, .inl (cA.1 0, 3, .inl c_h_steps))] H := hP
          have hD : va_D A [(h, .inr (2, [.int h_features, .ref h_featureNames, .ref h_steps, .ref h_turnedFeatures, .ref h_sixteenths, .int h_keys, .ref h_keySteps, .int h_lent, .int h_rings, .ref h_on, .ref h_onMany, .int h_doors, .ref h_wanted, .ref h_openers, .ref h_seconds, .int h_turned, .int h_roundMany, .ref h_roundDoors])), (h_keySteps, .inl (cA.1 0, 30, .inl c_h_keySteps)), (h_turnedFeatures, .inl (cA.1 0, 3, .inl c_h_turnedFeatures)), (h_steps, .inl (cA.1 0, 3, .inl c_h_steps))] := hD
          have hx_r_22 := hw
          refine lv_iconst (v := 1) hx hb dX2_stepAt_69 (by decide) ?_
          refine lv_isub hx hb dX2_stepAt_70 ?_
          refine lv_iload hx hb dX2_stepAt_71 (lv_at hl 1 rfl) ?_
          refine lv_isub hx hb dX2_stepAt_73 ?_
          refine lv_topi (fun x_24 _ => ?_)
          refine lv_goto (tgt := 79) hx hb dX2_stepAt_74 (by decide) ?_
          exact hret _ _ _ _ _ _ () [0, 3, 2, 1] hP hD hS rfl (by decide) dX2_stepAt_79 trivial
    · skip
      refine lv_iconst (v := (-1)) hx hb dX2_stepAt_16 (by decide) ?_
      exact hret _ _ _ _ _ _ () [3, 0, 1, 2] hP hD hS rfl (by decide) dX2_stepAt_17 trivial
set_option maxHeartbeats 4000000 in
set_option maxRecDepth 100000 in
theorem d_H_feltAsAt (l : Launch) (G : va_G) (cA : zCA) (h : Nat) (h_features : Int32) (h_featureNames : Nat) (h_steps : Nat) (h_turnedFeatures : Nat) (h_sixteenths : Nat) (h_keys : Int32) (h_keySteps : Nat) (h_lent : Int32) (h_rings : Int32) (h_on : Nat) (h_onMany : Nat) (h_doors : Int32) (h_wanted : Nat) (h_openers : Nat) (h_seconds : Nat) (h_turned : Int32) (h_roundMany : Int32) (h_roundDoors : Nat) (c_h_steps : Nat → Int32) (c_h_turnedFeatures : Nat → Int32) (c_h_sixteenths : Nat → Int32) (c_h_keySteps : Nat → Int32) (x : Int32) (y : Int32) (k : Int32) (j : Int32) (hm_h_features : 0 ≤ h_features.toInt ∧ h_features.toInt ≤ 3) : zCi l yX2_feltAsAt cX2_feltAsAt 5 (some .int) ({ frames := 2, cells := 0, slots := 0, locals := 46 }) G cA [.ref h, .int x, .int y, .int k, .int j] [(h, .inr (2, [.int h_features, .ref h_featureNames, .ref h_steps, .ref h_turnedFeatures, .ref h_sixteenths, .int h_keys, .ref h_keySteps, .int h_lent, .int h_rings, .ref h_on, .ref h_onMany, .int h_doors, .ref h_wanted, .ref h_openers, .ref h_seconds, .int h_turned, .int h_roundMany, .ref h_roundDoors])), (h_steps, .inl (cA.1 0, 3, .inl c_h_steps)), (h_turnedFeatures, .inl (cA.1 0, 3, .inl c_h_turnedFeatures)), (h_sixteenths, .inl (cA.1 0, 48, .inl c_h_sixteenths)), (h_keySteps, .inl (cA.1 0, 30, .inl c_h_keySteps))] (S := Unit) (fun (r : Int32) (u : Unit) => True) (fun (u : Unit) => [(h, .inr (2, [.int h_features, .ref h_featureNames, .ref h_steps, .ref h_turnedFeatures, .ref h_sixteenths, .int h_keys, .ref h_keySteps, .int h_lent, .int h_rings, .ref h_on, .ref h_onMany, .int h_doors, .ref h_wanted, .ref h_openers, .ref h_seconds, .int h_turned, .int h_roundMany, .ref h_roundDoors])), (h_steps, .inl (cA.1 0, 3, .inl c_h_steps)), (h_turnedFeatures, .inl (cA.1 0, 3, .inl c_h_turnedFeatures)), (h_sixteenths, .inl (cA.1 0, 48, .inl c_h_sixteenths)), (h_keySteps, .inl (cA.1 0, 30, .inl c_h_keySteps))]) 0 0 := by
  refine z_start2i (own := RX2) (by decide) (Nat.le_of_ble_eq_true rfl) rfl ?_
  intro p e s m args below meth c A ls Q hx hb hml hts hown hK hE hT hP hD hS hA hl hret
  have hl : lv_has ls 5 [(0, .ref h), (1, .int x), (2, .int y), (3, .int k), (4, .int j)] := hl
  refine lv_aload_n hx hb dX2_feltAsAt_0 rfl (lv_at hl 0 rfl) ?_
  refine lv_iload_n hx hb dX2_feltAsAt_1 rfl (lv_at hl 2 rfl) ?_
  refine lv_aload_n hx hb dX2_feltAsAt_2 rfl (lv_at hl 0 rfl) ?_
  refine lv_iload_n hx hb dX2_feltAsAt_3 rfl (lv_at hl 1 rfl) ?_
  refine lv_iload_n hx hb dX2_feltAsAt_4 rfl (lv_at hl 2 rfl) ?_
  refine lv_iload_n hx hb dX2_feltAsAt_5 rfl (lv_at hl 3 rfl) ?_
  refine z_callVi (As := [.int x, .int y, .int k]) (rest := [.int y, .ref h]) (wr := [(h_sixteenths, .inl (cA.1 0, 48, .inl c_h_sixteenths))]) ⟨hx, hb, hml, hown, hts⟩ hK hE hT hP hD hS hA (d_H_stepAt l G cA h h_features h_featureNames h_steps h_turnedFeatures h_sixteenths h_keys h_keySteps h_lent h_rings h_on h_onMany h_doors h_wanted h_openers h_seconds h_turned h_roundMany h_roundDoors c_h_steps c_h_turnedFeatures c_h_keySteps x y k (by omega)) lk_RX2_100 ⟨rfl, rfl⟩ ⟨Nat.le_of_ble_eq_true rfl, Nat.le_of_ble_eq_true rfl⟩ 2 rfl rfl rfl [0, 1, 2, 4] [3] rfl rfl (by decide) rfl hl.1 rfl (lv_room (Nat.le_of_ble_eq_true rfl)) dX2_feltAsAt_6 ⟨Nat.le_of_ble_eq_true rfl, Nat.le_of_ble_eq_true rfl⟩ (fun r_1 u_2 H locs hw hP hD hS => ?_)
  have hP : va_P G vwCl [(h_sixteenths, .inl (cA.1 0, 48, .inl c_h_sixteenths)), (h, .inr (2, [.int h_features, .ref h_featureNames, .ref h_steps, .ref h_turnedFeatures, .ref h_sixteenths, .int h_keys, .ref h_keySteps, .int h_lent, .int h_rings, .ref h_on, .ref h_onMany, .int h_doors, .ref h_wanted, .ref h_openers, .ref h_seconds, .int h_turned, .int h_roundMany, .ref h_roundDoors])), (h_steps, .inl (cA.1 0, 3, .inl c_h_steps)), (h_turnedFeatures, .inl (cA.1 0, 3, .inl c_h_turnedFeatures)), (h_keySteps, .inl (cA.1 0, 30, .inl c_h_keySteps))] H := hP
  have hD : va_D A [(h_sixteenths, .inl (cA.1 0, 48, .inl c_h_sixteenths)), (h, .inr (2, [.int h_features, .ref h_featureNames, .ref h_steps, .ref h_turnedFeatures, .ref h_sixteenths, .int h_keys, .ref h_keySteps, .int h_lent, .int h_rings, .ref h_on, .ref h_onMany, .int h_doors, .ref h_wanted, .ref h_openers, .ref h_seconds, .int h_turned, .int h_roundMany, .ref h_roundDoors])), (h_steps, .inl (cA.1 0, 3, .inl c_h_steps)), (h_turnedFeatures, .inl (cA.1 0, 3, .inl c_h_turnedFeatures)), (h_keySteps, .inl (cA.1 0, 30, .inl c_h_keySteps))] := hD
  refine lv_iload hx hb dX2_feltAsAt_9 (lv_at hl 4 rfl) ?_
  refine z_callVi (As := [.int y, .int r_1, .int j]) (rest := []) (wr := [(h_steps, .inl (cA.1 0, 3, .inl c_h_steps)), (h_turnedFeatures, .inl (cA.1 0, 3, .inl c_h_turnedFeatures)), (h_keySteps, .inl (cA.1 0, 30, .inl c_h_keySteps))]) ⟨hx, hb, hml, hown, hts⟩ hK hE hT hP hD hS hA (d_H_feltAs l G cA h h_features h_featureNames h_steps h_turnedFeatures h_sixteenths h_keys h_keySteps h_lent h_rings h_on h_onMany h_doors h_wanted h_openers h_seconds h_turned h_roundMany h_roundDoors c_h_sixteenths y r_1 j (by omega)) lk_RX2_104 ⟨rfl, rfl⟩ ⟨Nat.le_of_ble_eq_true rfl, Nat.le_of_ble_eq_true rfl⟩ 2 rfl rfl rfl [1, 0] [2, 3, 4] rfl rfl (by decide) rfl hl.1 rfl (lv_room (Nat.le_of_ble_eq_true rfl)) dX2_feltAsAt_11 ⟨Nat.le_of_ble_eq_true rfl, Nat.le_of_ble_eq_true rfl⟩ (fun r_3 u_4 H locs hw hP hD hS => ?_)
  have hP : va_P G vwCl [(h_steps, .inl (cA.1 0, 3, .inl c_h_steps)), (h_turnedFeatures, .inl (cA.1 0, 3, .inl c_h_turnedFeatures)), (h_keySteps, .inl (cA.1 0, 30, .inl c_h_keySteps)), (h, .inr (2, [.int h_features, .ref h_featureNames, .ref h_steps, .ref h_turnedFeatures, .ref h_sixteenths, .int h_keys, .ref h_keySteps, .int h_lent, .int h_rings, .ref h_on, .ref h_onMany, .int h_doors, .ref h_wanted, .ref h_openers, .ref h_seconds, .int h_turned, .int h_roundMany, .ref h_roundDoors])), (h_sixteenths, .inl (cA.1 0, 48, .inl c_h_sixteenths))] H := hP
  have hD : va_D A [(h_steps, .inl (cA.1 0, 3, .inl c_h_steps)), (h_turnedFeatures, .inl (cA.1 0, 3, .inl c_h_turnedFeatures)), (h_keySteps, .inl (cA.1 0, 30, .inl c_h_keySteps)), (h, .inr (2, [.int h_features, .ref h_featureNames, .ref h_steps, .ref h_turnedFeatures, .ref h_sixteenths, .int h_keys, .ref h_keySteps, .int h_lent, .int h_rings, .ref h_on, .ref h_onMany, .int h_doors, .ref h_wanted, .ref h_openers, .ref h_seconds, .int h_turned, .int h_roundMany, .ref h_roundDoors])), (h_sixteenths, .inl (cA.1 0, 48, .inl c_h_sixteenths))] := hD
  exact hret _ _ _ _ _ _ () [3, 0, 1, 4, 2] hP hD hS rfl (by decide) dX2_feltAsAt_14 trivial
set_option maxHeartbeats 4000000 in
set_option maxRecDepth 100000 in
theorem d_H_unlocks (l : Launch) (G : va_G) (cA : zCA) (h : Nat) (h_features : Int32) (h_featureNames : Nat) (h_steps : Nat) (h_turnedFeatures : Nat) (h_sixteenths : Nat) (h_keys : Int32) (h_keySteps : Nat) (h_lent : Int32) (h_rings : Int32) (h_on : Nat) (h_onMany : Nat) (h_doors : Int32) (h_wanted : Nat) (h_openers : Nat) (h_seconds : Nat) (h_turned : Int32) (h_roundMany : Int32) (h_roundDoors : Nat) (c_h_openers : Nat → Int32) (x : Int32) (y : Int32) (hm_h_features : 0 ≤ h_features.toInt ∧ h_features.toInt ≤ 3) : zCi l yX2_unlocks cX2_unlocks 3 (some .boolean) ({ frames := 1, cells := 0, slots := 0, locals := 21 }) G cA [.ref h, .int x, .int y] [(h, .inr (2, [.int h_features, .ref h_featureNames, .ref h_steps, .ref h_turnedFeatures, .ref h_sixteenths, .int h_keys, .ref h_keySteps, .int h_lent, .int h_rings, .ref h_on, .ref h_onMany, .int h_doors, .ref h_wanted, .ref h_openers, .ref h_seconds, .int h_turned, .int h_roundMany, .ref h_roundDoors])), (h_openers, .inl (cA.1 0, 5, .inl c_h_openers))] (S := Unit) (fun (r : Int32) (u : Unit) => r = 0 ∨ r = 1) (fun (u : Unit) => [(h, .inr (2, [.int h_features, .ref h_featureNames, .ref h_steps, .ref h_turnedFeatures, .ref h_sixteenths, .int h_keys, .ref h_keySteps, .int h_lent, .int h_rings, .ref h_on, .ref h_onMany, .int h_doors, .ref h_wanted, .ref h_openers, .ref h_seconds, .int h_turned, .int h_roundMany, .ref h_roundDoors])), (h_openers, .inl (cA.1 0, 5, .inl c_h_openers))]) 0 0 := by
  refine z_start2z (own := RX2) (by decide) (Nat.le_of_ble_eq_true rfl) rfl ?_
  intro p e s m args below meth c A ls Q hx hb hml hts hown hK hE hT hP hD hS hA hl hret
  have hl : lv_has ls 3 [(0, .ref h), (1, .int x), (2, .int y)] := hl
  refine lv_aload_n hx hb dX2_unlocks_0 rfl (lv_at hl 0 rfl) ?_
  refine lv_iload_n hx hb dX2_unlocks_1 rfl (lv_at hl 2 rfl) ?_
  refine z_callVi (As := [.int y]) (rest := []) (wr := [(h_openers, .inl (cA.1 0, 5, .inl c_h_openers))]) ⟨hx, hb, hml, hown, hts⟩ hK hE hT hP hD hS hA (d_H_hasDoor l G cA h h_features h_featureNames h_steps h_turnedFeatures h_sixteenths h_keys h_keySteps h_lent h_rings h_on h_onMany h_doors h_wanted h_openers h_seconds h_turned h_roundMany h_roundDoors y (by omega)) lk_RX2_107 ⟨rfl, rfl⟩ ⟨Nat.le_of_ble_eq_true rfl, Nat.le_of_ble_eq_true rfl⟩ 2 rfl rfl rfl [0] [1] rfl rfl (by decide) rfl hl.1 rfl (lv_room (Nat.le_of_ble_eq_true rfl)) dX2_unlocks_2 ⟨Nat.le_of_ble_eq_true rfl, Nat.le_of_ble_eq_true rfl⟩ (fun r_1 u_2 H locs hw hP hD hS => ?_)
  have hP : va_P G vwCl [(h_openers, .inl (cA.1 0, 5, .inl c_h_openers)), (h, .inr (2, [.int h_features, .ref h_featureNames, .ref h_steps, .ref h_turnedFeatures, .ref h_sixteenths, .int h_keys, .ref h_keySteps, .int h_lent, .int h_rings, .ref h_on, .ref h_onMany, .int h_doors, .ref h_wanted, .ref h_openers, .ref h_seconds, .int h_turned, .int h_roundMany, .ref h_roundDoors]))] H := hP
  have hD : va_D A [(h_openers, .inl (cA.1 0, 5, .inl c_h_openers)), (h, .inr (2, [.int h_features, .ref h_featureNames, .ref h_steps, .ref h_turnedFeatures, .ref h_sixteenths, .int h_keys, .ref h_keySteps, .int h_lent, .int h_rings, .ref h_on, .ref h_onMany, .int h_doors, .ref h_wanted, .ref h_openers, .ref h_seconds, .int h_turned, .int h_roundMany, .ref h_roundDoors]))] := hD
  have hz_r_1 := hw
  refine lv_if_eq (tgt := 36) hx hb dX2_unlocks_5 (by decide) (fun c_3 => ?_) (fun c_3 => ?_)
  · skip
    refine lv_iconst (v := 0) hx hb dX2_unlocks_36 (by decide) ?_
    exact hret _ _ _ _ _ _ () [1, 0] hP hD hS rfl (by decide) dX2_unlocks_37 (Or.inl rfl) (Or.inl rfl)
  · skip
    refine lv_aload_n hx hb dX2_unlocks_8 rfl (lv_at hl 0 rfl) ?_
    refine lv_iload_n hx hb dX2_unlocks_9 rfl (lv_at hl 1 rfl) ?_
    refine z_callVi (As := [.int x]) (rest := []) (wr := [(h_openers, .inl (cA.1 0, 5, .inl c_h_openers))]) ⟨hx, hb, hml, hown, hts⟩ hK hE hT hP hD hS hA (d_H_hasKey l G cA h h_features h_featureNames h_steps h_turnedFeatures h_sixteenths h_keys h_keySteps h_lent h_rings h_on h_onMany h_doors h_wanted h_openers h_seconds h_turned h_roundMany h_roundDoors x (by omega)) lk_RX2_97 ⟨rfl, rfl⟩ ⟨Nat.le_of_ble_eq_true rfl, Nat.le_of_ble_eq_true rfl⟩ 2 rfl rfl rfl [1] [0] rfl rfl (by decide) rfl hl.1 rfl (lv_room (Nat.le_of_ble_eq_true rfl)) dX2_unlocks_10 ⟨Nat.le_of_ble_eq_true rfl, Nat.le_of_ble_eq_true rfl⟩ (fun r_6 u_7 H locs hw hP hD hS => ?_)
    have hP : va_P G vwCl [(h_openers, .inl (cA.1 0, 5, .inl c_h_openers)), (h, .inr (2, [.int h_features, .ref h_featureNames, .ref h_steps, .ref h_turnedFeatures, .ref h_sixteenths, .int h_keys, .ref h_keySteps, .int h_lent, .int h_rings, .ref h_on, .ref h_onMany, .int h_doors, .ref h_wanted, .ref h_openers, .ref h_seconds, .int h_turned, .int h_roundMany, .ref h_roundDoors]))] H := hP
    have hD : va_D A [(h_openers, .inl (cA.1 0, 5, .inl c_h_openers)), (h, .inr (2, [.int h_features, .ref h_featureNames, .ref h_steps, .ref h_turnedFeatures, .ref h_sixteenths, .int h_keys, .ref h_keySteps, .int h_lent, .int h_rings, .ref h_on, .ref h_onMany, .int h_doors, .ref h_wanted, .ref h_openers, .ref h_seconds, .int h_turned, .int h_roundMany, .ref h_roundDoors]))] := hD
    have hz_r_6 := hw
    refine lv_if_eq (tgt := 36) hx hb dX2_unlocks_13 (by decide) (fun c_8 => ?_) (fun c_8 => ?_)
    · skip
      refine lv_iconst (v := 0) hx hb dX2_unlocks_36 (by decide) ?_
      exact hret _ _ _ _ _ _ () [1, 0] hP hD hS rfl (by decide) dX2_unlocks_37 (Or.inl rfl) (Or.inl rfl)
    · skip
      refine lv_aload_n hx hb dX2_unlocks_16 rfl (lv_at hl 0 rfl) ?_
      refine va_get (D := G) (ci := 2) (v := .ref h_openers) (C := RX2) (T := TX2) (N := 18) hx hb hts inT2 hown hK hP 1 rfl rfl 13 (by decide) (hts _ tw_290) (fun _ h9 => h9) rfl dX2_unlocks_17 ?_
      refine lv_iload_n hx hb dX2_unlocks_20 rfl (lv_at hl 2 rfl) ?_
      refine z_callSNi (As := [.ref h_openers, .int y]) (rest := []) (wr := [(h, .inr (2, [.int h_features, .ref h_featureNames, .ref h_steps, .ref h_turnedFeatures, .ref h_sixteenths, .int h_keys, .ref h_keySteps, .int h_lent, .int h_rings, .ref h_on, .ref h_onMany, .int h_doors, .ref h_wanted, .ref h_openers, .ref h_seconds, .int h_turned, .int h_roundMany, .ref h_roundDoors]))]) ⟨hx, hb, hml, hown, hts⟩ hK hE hT hP hD hS hA (d_at_5 l G cA h_openers c_h_openers y) lk_RX2_89 ⟨rfl, rfl⟩ ⟨Nat.le_of_ble_eq_true rfl, Nat.le_of_ble_eq_true rfl⟩ [0] [1] rfl rfl (by decide) rfl hl.1 rfl (lv_room (Nat.le_of_ble_eq_true rfl)) dX2_unlocks_21 ⟨Nat.le_of_ble_eq_true rfl, Nat.le_of_ble_eq_true rfl⟩ (fun r_11 u_12 H locs hw hP hD hS => ?_)
      have hP : va_P G vwCl [(h, .inr (2, [.int h_features, .ref h_featureNames, .ref h_steps, .ref h_turnedFeatures, .ref h_sixteenths, .int h_keys, .ref h_keySteps, .int h_lent, .int h_rings, .ref h_on, .ref h_onMany, .int h_doors, .ref h_wanted, .ref h_openers, .ref h_seconds, .int h_turned, .int h_roundMany, .ref h_roundDoors])), (h_openers, .inl (cA.1 0, 5, .inl c_h_openers))] H := hP
      have hD : va_D A [(h, .inr (2, [.int h_features, .ref h_featureNames, .ref h_steps, .ref h_turnedFeatures, .ref h_sixteenths, .int h_keys, .ref h_keySteps, .int h_lent, .int h_rings, .ref h_on, .ref h_onMany, .int h_doors, .ref h_wanted, .ref h_openers, .ref h_seconds, .int h_turned, .int h_roundMany, .ref h_roundDoors])), (h_openers, .inl (cA.1 0, 5, .inl c_h_openers))] := hD
      refine lv_iload_n hx hb dX2_unlocks_24 rfl (lv_at hl 1 rfl) ?_
      refine lv_ishr hx hb dX2_unlocks_25 ?_
      refine lv_topi (fun x_13 _ => ?_)
      refine lv_iconst (v := 1) hx hb dX2_unlocks_26 (by decide) ?_
      refine lv_iand hx hb dX2_unlocks_27 ?_
      refine lv_topi (fun x_14 _ => ?_)
      refine lv_iconst (v := 1) hx hb dX2_unlocks_28 (by decide) ?_
      refine lv_icmp_ne (tgt := 36) hx hb dX2_unlocks_29 (by decide) (fun c_15 => ?_) (fun c_15 => ?_)
      · skip
        refine lv_iconst (v := 0) hx hb dX2_unlocks_36 (by decide) ?_
        exact hret _ _ _ _ _ _ () [0, 1] hP hD hS rfl (by decide) dX2_unlocks_37 (Or.inl rfl) (Or.inl rfl)
      · skip
        refine lv_iconst (v := 1) hx hb dX2_unlocks_32 (by decide) ?_
        refine lv_goto (tgt := 37) hx hb dX2_unlocks_33 (by decide) ?_
        exact hret _ _ _ _ _ _ () [0, 1] hP hD hS rfl (by decide) dX2_unlocks_37 (Or.inr rfl) (Or.inr rfl)
set_option maxHeartbeats 4000000 in
set_option maxRecDepth 100000 in
theorem d_H_openersOf (l : Launch) (G : va_G) (cA : zCA) (h : Nat) (h_features : Int32) (h_featureNames : Nat) (h_steps : Nat) (h_turnedFeatures : Nat) (h_sixteenths : Nat) (h_keys : Int32) (h_keySteps : Nat) (h_lent : Int32) (h_rings : Int32) (h_on : Nat) (h_onMany : Nat) (h_doors : Int32) (h_wanted : Nat) (h_openers : Nat) (h_seconds : Nat) (h_turned : Int32) (h_roundMany : Int32) (h_roundDoors : Nat) (c_h_openers : Nat → Int32) (k : Int32) (hm_h_features : 0 ≤ h_features.toInt ∧ h_features.toInt ≤ 3) : zCi l yX2_openersOf cX2_openersOf 2 (some .int) ({ frames := 1, cells := 0, slots := 0, locals := 21 }) G cA [.ref h, .int k] [(h, .inr (2, [.int h_features, .ref h_featureNames, .ref h_steps, .ref h_turnedFeatures, .ref h_sixteenths, .int h_keys, .ref h_keySteps, .int h_lent, .int h_rings, .ref h_on, .ref h_onMany, .int h_doors, .ref h_wanted, .ref h_openers, .ref h_seconds, .int h_turned, .int h_roundMany, .ref h_roundDoors])), (h_openers, .inl (cA.1 0, 5, .inl c_h_openers))] (S := Unit) (fun (r : Int32) (u : Unit) => True) (fun (u : Unit) => [(h, .inr (2, [.int h_features, .ref h_featureNames, .ref h_steps, .ref h_turnedFeatures, .ref h_sixteenths, .int h_keys, .ref h_keySteps, .int h_lent, .int h_rings, .ref h_on, .ref h_onMany, .int h_doors, .ref h_wanted, .ref h_openers, .ref h_seconds, .int h_turned, .int h_roundMany, .ref h_roundDoors])), (h_openers, .inl (cA.1 0, 5, .inl c_h_openers))]) 0 0 := by
  refine z_start2i (own := RX2) (by decide) (Nat.le_of_ble_eq_true rfl) rfl ?_
  intro p e s m args below meth c A ls Q hx hb hml hts hown hK hE hT hP hD hS hA hl hret
  have hl : lv_has ls 2 [(0, .ref h), (1, .int k)] := hl
  refine lv_aload_n hx hb dX2_openersOf_0 rfl (lv_at hl 0 rfl) ?_
  refine lv_iload_n hx hb dX2_openersOf_1 rfl (lv_at hl 1 rfl) ?_
  refine z_callVi (As := [.int k]) (rest := []) (wr := [(h_openers, .inl (cA.1 0, 5, .inl c_h_openers))]) ⟨hx, hb, hml, hown, hts⟩ hK hE hT hP hD hS hA (d_H_hasDoor l G cA h h_features h_featureNames h_steps h_turnedFeatures h_sixteenths h_keys h_keySteps h_lent h_rings h_on h_onMany h_doors h_wanted h_openers h_seconds h_turned h_roundMany h_roundDoors k (by omega)) lk_RX2_107 ⟨rfl, rfl⟩ ⟨Nat.le_of_ble_eq_true rfl, Nat.le_of_ble_eq_true rfl⟩ 2 rfl rfl rfl [0] [1] rfl rfl (by decide) rfl hl.1 rfl (lv_room (Nat.le_of_ble_eq_true rfl)) dX2_openersOf_2 ⟨Nat.le_of_ble_eq_true rfl, Nat.le_of_ble_eq_true rfl⟩ (fun r_1 u_2 H locs hw hP hD hS => ?_)
  have hP : va_P G vwCl [(h_openers, .inl (cA.1 0, 5, .inl c_h_openers)), (h, .inr (2, [.int h_features, .ref h_featureNames, .ref h_steps, .ref h_turnedFeatures, .ref h_sixteenths, .int h_keys, .ref h_keySteps, .int h_lent, .int h_rings, .ref h_on, .ref h_onMany, .int h_doors, .ref h_wanted, .ref h_openers, .ref h_seconds, .int h_turned, .int h_roundMany, .ref h_roundDoors]))] H := hP
  have hD : va_D A [(h_openers, .inl (cA.1 0, 5, .inl c_h_openers)), (h, .inr (2, [.int h_features, .ref h_featureNames, .ref h_steps, .ref h_turnedFeatures, .ref h_sixteenths, .int h_keys, .ref h_keySteps, .int h_lent, .int h_rings, .ref h_on, .ref h_onMany, .int h_doors, .ref h_wanted, .ref h_openers, .ref h_seconds, .int h_turned, .int h_roundMany, .ref h_roundDoors]))] := hD
  have hz_r_1 := hw
  refine lv_if_eq (tgt := 19) hx hb dX2_openersOf_5 (by decide) (fun c_3 => ?_) (fun c_3 => ?_)
  · skip
    refine lv_iconst (v := 0) hx hb dX2_openersOf_19 (by decide) ?_
    exact hret _ _ _ _ _ _ () [1, 0] hP hD hS rfl (by decide) dX2_openersOf_20 trivial
  · skip
    refine lv_aload_n hx hb dX2_openersOf_8 rfl (lv_at hl 0 rfl) ?_
    refine va_get (D := G) (ci := 2) (v := .ref h_openers) (C := RX2) (T := TX2) (N := 18) hx hb hts inT2 hown hK hP 1 rfl rfl 13 (by decide) (hts _ tw_290) (fun _ h9 => h9) rfl dX2_openersOf_9 ?_
    refine lv_iload_n hx hb dX2_openersOf_12 rfl (lv_at hl 1 rfl) ?_
    refine z_callSNi (As := [.ref h_openers, .int k]) (rest := []) (wr := [(h, .inr (2, [.int h_features, .ref h_featureNames, .ref h_steps, .ref h_turnedFeatures, .ref h_sixteenths, .int h_keys, .ref h_keySteps, .int h_lent, .int h_rings, .ref h_on, .ref h_onMany, .int h_doors, .ref h_wanted, .ref h_openers, .ref h_seconds, .int h_turned, .int h_roundMany, .ref h_roundDoors]))]) ⟨hx, hb, hml, hown, hts⟩ hK hE hT hP hD hS hA (d_at_5 l G cA h_openers c_h_openers k) lk_RX2_89 ⟨rfl, rfl⟩ ⟨Nat.le_of_ble_eq_true rfl, Nat.le_of_ble_eq_true rfl⟩ [0] [1] rfl rfl (by decide) rfl hl.1 rfl (lv_room (Nat.le_of_ble_eq_true rfl)) dX2_openersOf_13 ⟨Nat.le_of_ble_eq_true rfl, Nat.le_of_ble_eq_true rfl⟩ (fun r_6 u_7 H locs hw hP hD hS => ?_)
    have hP : va_P G vwCl [(h, .inr (2, [.int h_features, .ref h_featureNames, .ref h_steps, .ref h_turnedFeatures, .ref h_sixteenths, .int h_keys, .ref h_keySteps, .int h_lent, .int h_rings, .ref h_on, .ref h_onMany, .int h_doors, .ref h_wanted, .ref h_openers, .ref h_seconds, .int h_turned, .int h_roundMany, .ref h_roundDoors])), (h_openers, .inl (cA.1 0, 5, .inl c_h_openers))] H := hP
    have hD : va_D A [(h, .inr (2, [.int h_features, .ref h_featureNames, .ref h_steps, .ref h_turnedFeatures, .ref h_sixteenths, .int h_keys, .ref h_keySteps, .int h_lent, .int h_rings, .ref h_on, .ref h_onMany, .int h_doors, .ref h_wanted, .ref h_openers, .ref h_seconds, .int h_turned, .int h_roundMany, .ref h_roundDoors])), (h_openers, .inl (cA.1 0, 5, .inl c_h_openers))] := hD
    refine lv_goto (tgt := 20) hx hb dX2_openersOf_16 (by decide) ?_
    exact hret _ _ _ _ _ _ () [0, 1] hP hD hS rfl (by decide) dX2_openersOf_20 trivial
set_option maxHeartbeats 4000000 in
set_option maxRecDepth 100000 in
theorem d_H_wantedOf (l : Launch) (G : va_G) (cA : zCA) (h : Nat) (h_features : Int32) (h_featureNames : Nat) (h_steps : Nat) (h_turnedFeatures : Nat) (h_sixteenths : Nat) (h_keys : Int32) (h_keySteps : Nat) (h_lent : Int32) (h_rings : Int32) (h_on : Nat) (h_onMany : Nat) (h_doors : Int32) (h_wanted : Nat) (h_openers : Nat) (h_seconds : Nat) (h_turned : Int32) (h_roundMany : Int32) (h_roundDoors : Nat) (c_h_wanted : Nat → Int32) (k : Int32) (hm_h_features : 0 ≤ h_features.toInt ∧ h_features.toInt ≤ 3) : zCi l yX2_wantedOf cX2_wantedOf 2 (some .int) ({ frames := 1, cells := 0, slots := 0, locals := 21 }) G cA [.ref h, .int k] [(h, .inr (2, [.int h_features, .ref h_featureNames, .ref h_steps, .ref h_turnedFeatures, .ref h_sixteenths, .int h_keys, .ref h_keySteps, .int h_lent, .int h_rings, .ref h_on, .ref h_onMany, .int h_doors, .ref h_wanted, .ref h_openers, .ref h_seconds, .int h_turned, .int h_roundMany, .ref h_roundDoors])), (h_wanted, .inl (cA.1 0, 5, .inl c_h_wanted))] (S := Unit) (fun (r : Int32) (u : Unit) => True) (fun (u : Unit) => [(h, .inr (2, [.int h_features, .ref h_featureNames, .ref h_steps, .ref h_turnedFeatures, .ref h_sixteenths, .int h_keys, .ref h_keySteps, .int h_lent, .int h_rings, .ref h_on, .ref h_onMany, .int h_doors, .ref h_wanted, .ref h_openers, .ref h_seconds, .int h_turned, .int h_roundMany, .ref h_roundDoors])), (h_wanted, .inl (cA.1 0, 5, .inl c_h_wanted))]) 0 0 := by
  refine z_start2i (own := RX2) (by decide) (Nat.le_of_ble_eq_true rfl) rfl ?_
  intro p e s m args below meth c A ls Q hx hb hml hts hown hK hE hT hP hD hS hA hl hret
  have hl : lv_has ls 2 [(0, .ref h), (1, .int k)] := hl
  refine lv_aload_n hx hb dX2_wantedOf_0 rfl (lv_at hl 0 rfl) ?_
  refine lv_iload_n hx hb dX2_wantedOf_1 rfl (lv_at hl 1 rfl) ?_
  refine z_callVi (As := [.int k]) (rest := []) (wr := [(h_wanted, .inl (cA.1 0, 5, .inl c_h_wanted))]) ⟨hx, hb, hml, hown, hts⟩ hK hE hT hP hD hS hA (d_H_hasDoor l G cA h h_features h_featureNames h_steps h_turnedFeatures h_sixteenths h_keys h_keySteps h_lent h_rings h_on h_onMany h_doors h_wanted h_openers h_seconds h_turned h_roundMany h_roundDoors k (by omega)) lk_RX2_107 ⟨rfl, rfl⟩ ⟨Nat.le_of_ble_eq_true rfl, Nat.le_of_ble_eq_true rfl⟩ 2 rfl rfl rfl [0] [1] rfl rfl (by decide) rfl hl.1 rfl (lv_room (Nat.le_of_ble_eq_true rfl)) dX2_wantedOf_2 ⟨Nat.le_of_ble_eq_true rfl, Nat.le_of_ble_eq_true rfl⟩ (fun r_1 u_2 H locs hw hP hD hS => ?_)
  have hP : va_P G vwCl [(h_wanted, .inl (cA.1 0, 5, .inl c_h_wanted)), (h, .inr (2, [.int h_features, .ref h_featureNames, .ref h_steps, .ref h_turnedFeatures, .ref h_sixteenths, .int h_keys, .ref h_keySteps, .int h_lent, .int h_rings, .ref h_on, .ref h_onMany, .int h_doors, .ref h_wanted, .ref h_openers, .ref h_seconds, .int h_turned, .int h_roundMany, .ref h_roundDoors]))] H := hP
  have hD : va_D A [(h_wanted, .inl (cA.1 0, 5, .inl c_h_wanted)), (h, .inr (2, [.int h_features, .ref h_featureNames, .ref h_steps, .ref h_turnedFeatures, .ref h_sixteenths, .int h_keys, .ref h_keySteps, .int h_lent, .int h_rings, .ref h_on, .ref h_onMany, .int h_doors, .ref h_wanted, .ref h_openers, .ref h_seconds, .int h_turned, .int h_roundMany, .ref h_roundDoors]))] := hD
  have hz_r_1 := hw
  refine lv_if_eq (tgt := 19) hx hb dX2_wantedOf_5 (by decide) (fun c_3 => ?_) (fun c_3 => ?_)
  · skip
    refine lv_iconst (v := 0) hx hb dX2_wantedOf_19 (by decide) ?_
    exact hret _ _ _ _ _ _ () [1, 0] hP hD hS rfl (by decide) dX2_wantedOf_20 trivial
  · skip
    refine lv_aload_n hx hb dX2_wantedOf_8 rfl (lv_at hl 0 rfl) ?_
    refine va_get (D := G) (ci := 2) (v := .ref h_wanted) (C := RX2) (T := TX2) (N := 18) hx hb hts inT2 hown hK hP 1 rfl rfl 12 (by decide) (hts _ tw_289) (fun _ h9 => h9) rfl dX2_wantedOf_9 ?_
    refine lv_iload_n hx hb dX2_wantedOf_12 rfl (lv_at hl 1 rfl) ?_
    refine z_callSNi (As := [.ref h_wanted, .int k]) (rest := []) (wr := [(h, .inr (2, [.int h_features, .ref h_featureNames, .ref h_steps, .ref h_turnedFeatures, .ref h_sixteenths, .int h_keys, .ref h_keySteps, .int h_lent, .int h_rings, .ref h_on, .ref h_onMany, .int h_doors, .ref h_wanted, .ref h_openers, .ref h_seconds, .int h_turned, .int h_roundMany, .ref h_roundDoors]))]) ⟨hx, hb, hml, hown, hts⟩ hK hE hT hP hD hS hA (d_at_5 l G cA h_wanted c_h_wanted k) lk_RX2_89 ⟨rfl, rfl⟩ ⟨Nat.le_of_ble_eq_true rfl, Nat.le_of_ble_eq_true rfl⟩ [0] [1] rfl rfl (by decide) rfl hl.1 rfl (lv_room (Nat.le_of_ble_eq_true rfl)) dX2_wantedOf_13 ⟨Nat.le_of_ble_eq_true rfl, Nat.le_of_ble_eq_true rfl⟩ (fun r_6 u_7 H locs hw hP hD hS => ?_)
    have hP : va_P G vwCl [(h, .inr (2, [.int h_features, .ref h_featureNames, .ref h_steps, .ref h_turnedFeatures, .ref h_sixteenths, .int h_keys, .ref h_keySteps, .int h_lent, .int h_rings, .ref h_on, .ref h_onMany, .int h_doors, .ref h_wanted, .ref h_openers, .ref h_seconds, .int h_turned, .int h_roundMany, .ref h_roundDoors])), (h_wanted, .inl (cA.1 0, 5, .inl c_h_wanted))] H := hP
    have hD : va_D A [(h, .inr (2, [.int h_features, .ref h_featureNames, .ref h_steps, .ref h_turnedFeatures, .ref h_sixteenths, .int h_keys, .ref h_keySteps, .int h_lent, .int h_rings, .ref h_on, .ref h_onMany, .int h_doors, .ref h_wanted, .ref h_openers, .ref h_seconds, .int h_turned, .int h_roundMany, .ref h_roundDoors])), (h_wanted, .inl (cA.1 0, 5, .inl c_h_wanted))] := hD
    refine lv_goto (tgt := 20) hx hb dX2_wantedOf_16 (by decide) ?_
    exact hret _ _ _ _ _ _ () [0, 1] hP hD hS rfl (by decide) dX2_wantedOf_20 trivial
set_option maxHeartbeats 4000000 in
set_option maxRecDepth 100000 in
theorem d_H_secondsOf (l : Launch) (G : va_G) (cA : zCA) (h : Nat) (h_features : Int32) (h_featureNames : Nat) (h_steps : Nat) (h_turnedFeatures : Nat) (h_sixteenths : Nat) (h_keys : Int32) (h_keySteps : Nat) (h_lent : Int32) (h_rings : Int32) (h_on : Nat) (h_onMany : Nat) (h_doors : Int32) (h_wanted : Nat) (h_openers : Nat) (h_seconds : Nat) (h_turned : Int32) (h_roundMany : Int32) (h_roundDoors : Nat) (c_h_seconds : Nat → Int32) (k : Int32) (hm_h_features : 0 ≤ h_features.toInt ∧ h_features.toInt ≤ 3) : zCi l yX2_secondsOf cX2_secondsOf 2 (some .int) ({ frames := 1, cells := 0, slots := 0, locals := 21 }) G cA [.ref h, .int k] [(h, .inr (2, [.int h_features, .ref h_featureNames, .ref h_steps, .ref h_turnedFeatures, .ref h_sixteenths, .int h_keys, .ref h_keySteps, .int h_lent, .int h_rings, .ref h_on, .ref h_onMany, .int h_doors, .ref h_wanted, .ref h_openers, .ref h_seconds, .int h_turned, .int h_roundMany, .ref h_roundDoors])), (h_seconds, .inl (cA.1 0, 4, .inl c_h_seconds))] (S := Unit) (fun (r : Int32) (u : Unit) => True) (fun (u : Unit) => [(h, .inr (2, [.int h_features, .ref h_featureNames, .ref h_steps, .ref h_turnedFeatures, .ref h_sixteenths, .int h_keys, .ref h_keySteps, .int h_lent, .int h_rings, .ref h_on, .ref h_onMany, .int h_doors, .ref h_wanted, .ref h_openers, .ref h_seconds, .int h_turned, .int h_roundMany, .ref h_roundDoors])), (h_seconds, .inl (cA.1 0, 4, .inl c_h_seconds))]) 0 0 := by
  refine z_start2i (own := RX2) (by decide) (Nat.le_of_ble_eq_true rfl) rfl ?_
  intro p e s m args below meth c A ls Q hx hb hml hts hown hK hE hT hP hD hS hA hl hret
  have hl : lv_has ls 2 [(0, .ref h), (1, .int k)] := hl
  refine lv_aload_n hx hb dX2_secondsOf_0 rfl (lv_at hl 0 rfl) ?_
  refine va_get (D := G) (ci := 2) (v := .ref h_seconds) (C := RX2) (T := TX2) (N := 18) hx hb hts inT2 hown hK hP 0 rfl rfl 14 (by decide) (hts _ tw_291) (fun _ h9 => h9) rfl dX2_secondsOf_1 ?_
  refine lv_iload_n hx hb dX2_secondsOf_4 rfl (lv_at hl 1 rfl) ?_
  refine z_callSNi (As := [.ref h_seconds, .int k]) (rest := []) (wr := [(h, .inr (2, [.int h_features, .ref h_featureNames, .ref h_steps, .ref h_turnedFeatures, .ref h_sixteenths, .int h_keys, .ref h_keySteps, .int h_lent, .int h_rings, .ref h_on, .ref h_onMany, .int h_doors, .ref h_wanted, .ref h_openers, .ref h_seconds, .int h_turned, .int h_roundMany, .ref h_roundDoors]))]) ⟨hx, hb, hml, hown, hts⟩ hK hE hT hP hD hS hA (d_at_4 l G cA h_seconds c_h_seconds k) lk_RX2_89 ⟨rfl, rfl⟩ ⟨Nat.le_of_ble_eq_true rfl, Nat.le_of_ble_eq_true rfl⟩ [1] [0] rfl rfl (by decide) rfl hl.1 rfl (lv_room (Nat.le_of_ble_eq_true rfl)) dX2_secondsOf_5 ⟨Nat.le_of_ble_eq_true rfl, Nat.le_of_ble_eq_true rfl⟩ (fun r_1 u_2 H locs hw hP hD hS => ?_)
  have hP : va_P G vwCl [(h, .inr (2, [.int h_features, .ref h_featureNames, .ref h_steps, .ref h_turnedFeatures, .ref h_sixteenths, .int h_keys, .ref h_keySteps, .int h_lent, .int h_rings, .ref h_on, .ref h_onMany, .int h_doors, .ref h_wanted, .ref h_openers, .ref h_seconds, .int h_turned, .int h_roundMany, .ref h_roundDoors])), (h_seconds, .inl (cA.1 0, 4, .inl c_h_seconds))] H := hP
  have hD : va_D A [(h, .inr (2, [.int h_features, .ref h_featureNames, .ref h_steps, .ref h_turnedFeatures, .ref h_sixteenths, .int h_keys, .ref h_keySteps, .int h_lent, .int h_rings, .ref h_on, .ref h_onMany, .int h_doors, .ref h_wanted, .ref h_openers, .ref h_seconds, .int h_turned, .int h_roundMany, .ref h_roundDoors])), (h_seconds, .inl (cA.1 0, 4, .inl c_h_seconds))] := hD
  exact hret _ _ _ _ _ _ () [0, 1] hP hD hS rfl (by decide) dX2_secondsOf_8 trivial
set_option maxHeartbeats 4000000 in
set_option maxRecDepth 100000 in
theorem d_H_isLent (l : Launch) (G : va_G) (cA : zCA) (h : Nat) (h_features : Int32) (h_featureNames : Nat) (h_steps : Nat) (h_turnedFeatures : Nat) (h_sixteenths : Nat) (h_keys : Int32) (h_keySteps : Nat) (h_lent : Int32) (h_rings : Int32) (h_on : Nat) (h_onMany : Nat) (h_doors : Int32) (h_wanted : Nat) (h_openers : Nat) (h_seconds : Nat) (h_turned : Int32) (h_roundMany : Int32) (h_roundDoors : Nat) (k : Int32) (hm_h_features : 0 ≤ h_features.toInt ∧ h_features.toInt ≤ 3) : zCi l yX2_isLent cX2_isLent 2 (some .boolean) ({ frames := 1, cells := 0, slots := 0, locals := 21 }) G cA [.ref h, .int k] [(h, .inr (2, [.int h_features, .ref h_featureNames, .ref h_steps, .ref h_turnedFeatures, .ref h_sixteenths, .int h_keys, .ref h_keySteps, .int h_lent, .int h_rings, .ref h_on, .ref h_onMany, .int h_doors, .ref h_wanted, .ref h_openers, .ref h_seconds, .int h_turned, .int h_roundMany, .ref h_roundDoors]))] (S := Unit) (fun (r : Int32) (u : Unit) => r = 0 ∨ r = 1) (fun (u : Unit) => [(h, .inr (2, [.int h_features, .ref h_featureNames, .ref h_steps, .ref h_turnedFeatures, .ref h_sixteenths, .int h_keys, .ref h_keySteps, .int h_lent, .int h_rings, .ref h_on, .ref h_onMany, .int h_doors, .ref h_wanted, .ref h_openers, .ref h_seconds, .int h_turned, .int h_roundMany, .ref h_roundDoors]))]) 0 0 := by
  refine z_start2z (own := RX2) (by decide) (Nat.le_of_ble_eq_true rfl) rfl ?_
  intro p e s m args below meth c A ls Q hx hb hml hts hown hK hE hT hP hD hS hA hl hret
  have hl : lv_has ls 2 [(0, .ref h), (1, .int k)] := hl
  refine lv_aload_n hx hb dX2_isLent_0 rfl (lv_at hl 0 rfl) ?_
  refine lv_iload_n hx hb dX2_isLent_1 rfl (lv_at hl 1 rfl) ?_
  refine z_callVi (As := [.int k]) (rest := []) (wr := []) ⟨hx, hb, hml, hown, hts⟩ hK hE hT hP hD hS hA (d_H_hasKey l G cA h h_features h_featureNames h_steps h_turnedFeatures h_sixteenths h_keys h_keySteps h_lent h_rings h_on h_onMany h_doors h_wanted h_openers h_seconds h_turned h_roundMany h_roundDoors k (by omega)) lk_RX2_97 ⟨rfl, rfl⟩ ⟨Nat.le_of_ble_eq_true rfl, Nat.le_of_ble_eq_true rfl⟩ 2 rfl rfl rfl [0] [] rfl rfl (by decide) rfl hl.1 rfl (lv_room (Nat.le_of_ble_eq_true rfl)) dX2_isLent_2 ⟨Nat.le_of_ble_eq_true rfl, Nat.le_of_ble_eq_true rfl⟩ (fun r_1 u_2 H locs hw hP hD hS => ?_)
  have hP : va_P G vwCl [(h, .inr (2, [.int h_features, .ref h_featureNames, .ref h_steps, .ref h_turnedFeatures, .ref h_sixteenths, .int h_keys, .ref h_keySteps, .int h_lent, .int h_rings, .ref h_on, .ref h_onMany, .int h_doors, .ref h_wanted, .ref h_openers, .ref h_seconds, .int h_turned, .int h_roundMany, .ref h_roundDoors]))] H := hP
  have hD : va_D A [(h, .inr (2, [.int h_features, .ref h_featureNames, .ref h_steps, .ref h_turnedFeatures, .ref h_sixteenths, .int h_keys, .ref h_keySteps, .int h_lent, .int h_rings, .ref h_on, .ref h_onMany, .int h_doors, .ref h_wanted, .ref h_openers, .ref h_seconds, .int h_turned, .int h_roundMany, .ref h_roundDoors]))] := hD
  have hz_r_1 := hw
  refine lv_if_eq (tgt := 24) hx hb dX2_isLent_5 (by decide) (fun c_3 => ?_) (fun c_3 => ?_)
  · skip
    refine lv_iconst (v := 0) hx hb dX2_isLent_24 (by decide) ?_
    exact hret _ _ _ _ _ _ () [0] hP hD hS rfl (by decide) dX2_isLent_25 (Or.inl rfl) (Or.inl rfl)
  · skip
    refine lv_aload_n hx hb dX2_isLent_8 rfl (lv_at hl 0 rfl) ?_
    refine va_get (D := G) (ci := 2) (v := .int h_lent) (C := RX2) (T := TX2) (N := 18) hx hb hts inT2 hown hK hP 0 rfl rfl 7 (by decide) (hts _ tw_278) (fun _ h9 => h9) rfl dX2_isLent_9 ?_
    refine lv_iload_n hx hb dX2_isLent_12 rfl (lv_at hl 1 rfl) ?_
    refine lv_ishr hx hb dX2_isLent_13 ?_
    refine lv_topi (fun x_6 _ => ?_)
    refine lv_iconst (v := 1) hx hb dX2_isLent_14 (by decide) ?_
    refine lv_iand hx hb dX2_isLent_15 ?_
    refine lv_topi (fun x_7 _ => ?_)
    refine lv_iconst (v := 1) hx hb dX2_isLent_16 (by decide) ?_
    refine lv_icmp_ne (tgt := 24) hx hb dX2_isLent_17 (by decide) (fun c_8 => ?_) (fun c_8 => ?_)
    · skip
      refine lv_iconst (v := 0) hx hb dX2_isLent_24 (by decide) ?_
      exact hret _ _ _ _ _ _ () [0] hP hD hS rfl (by decide) dX2_isLent_25 (Or.inl rfl) (Or.inl rfl)
    · skip
      refine lv_iconst (v := 1) hx hb dX2_isLent_20 (by decide) ?_
      refine lv_goto (tgt := 25) hx hb dX2_isLent_21 (by decide) ?_
      exact hret _ _ _ _ _ _ () [0] hP hD hS rfl (by decide) dX2_isLent_25 (Or.inr rfl) (Or.inr rfl)
set_option maxHeartbeats 4000000 in
set_option maxRecDepth 100000 in
theorem d_H_manyOn (l : Launch) (G : va_G) (cA : zCA) (h : Nat) (h_features : Int32) (h_featureNames : Nat) (h_steps : Nat) (h_turnedFeatures : Nat) (h_sixteenths : Nat) (h_keys : Int32) (h_keySteps : Nat) (h_lent : Int32) (h_rings : Int32) (h_on : Nat) (h_onMany : Nat) (h_doors : Int32) (h_wanted : Nat) (h_openers : Nat) (h_seconds : Nat) (h_turned : Int32) (h_roundMany : Int32) (h_roundDoors : Nat) (c_h_onMany : Nat → Int32) (k : Int32) (hm_h_features : 0 ≤ h_features.toInt ∧ h_features.toInt ≤ 3) (hO_c_h_onMany : zOM c_h_onMany) : zCi l yX2_manyOn cX2_manyOn 2 (some .int) ({ frames := 1, cells := 0, slots := 0, locals := 21 }) G cA [.ref h, .int k] [(h, .inr (2, [.int h_features, .ref h_featureNames, .ref h_steps, .ref h_turnedFeatures, .ref h_sixteenths, .int h_keys, .ref h_keySteps, .int h_lent, .int h_rings, .ref h_on, .ref h_onMany, .int h_doors, .ref h_wanted, .ref h_openers, .ref h_seconds, .int h_turned, .int h_roundMany, .ref h_roundDoors])), (h_onMany, .inl (cA.1 0, 3, .inl c_h_onMany))] (S := Unit) (fun (r : Int32) (u : Unit) => r.toInt = zmo c_h_onMany h_rings.toInt k.toInt ∧ (-1 ≤ r.toInt ∧ r.toInt ≤ 10)) (fun (u : Unit) => [(h, .inr (2, [.int h_features, .ref h_featureNames, .ref h_steps, .ref h_turnedFeatures, .ref h_sixteenths, .int h_keys, .ref h_keySteps, .int h_lent, .int h_rings, .ref h_on, .ref h_onMany, .int h_doors, .ref h_wanted, .ref h_openers, .ref h_seconds, .int h_turned, .int h_roundMany, .ref h_roundDoors])), (h_onMany, .inl (cA.1 0, 3, .inl c_h_onMany))]) 0 0 := by
  refine z_start2i (own := RX2) (by decide) (Nat.le_of_ble_eq_true rfl) rfl ?_
  intro p e s m args below meth c A ls Q hx hb hml hts hown hK hE hT hP hD hS hA hl hret
  have hl : lv_has ls 2 [(0, .ref h), (1, .int k)] := hl
  refine lv_aload_n hx hb dX2_manyOn_0 rfl (lv_at hl 0 rfl) ?_
  refine lv_iload_n hx hb dX2_manyOn_1 rfl (lv_at hl 1 rfl) ?_
  refine z_callVi (As := [.int k]) (rest := []) (wr := [(h_onMany, .inl (cA.1 0, 3, .inl c_h_onMany))]) ⟨hx, hb, hml, hown, hts⟩ hK hE hT hP hD hS hA (d_H_hasRing l G cA h h_features h_featureNames h_steps h_turnedFeatures h_sixteenths h_keys h_keySteps h_lent h_rings h_on h_onMany h_doors h_wanted h_openers h_seconds h_turned h_roundMany h_roundDoors k (by omega)) lk_RX2_110 ⟨rfl, rfl⟩ ⟨Nat.le_of_ble_eq_true rfl, Nat.le_of_ble_eq_true rfl⟩ 2 rfl rfl rfl [0] [1] rfl rfl (by decide) rfl hl.1 rfl (lv_room (Nat.le_of_ble_eq_true rfl)) dX2_manyOn_2 ⟨Nat.le_of_ble_eq_true rfl, Nat.le_of_ble_eq_true rfl⟩ (fun r_1 u_2 H locs hw hP hD hS => ?_)
  have hP : va_P G vwCl [(h_onMany, .inl (cA.1 0, 3, .inl c_h_onMany)), (h, .inr (2, [.int h_features, .ref h_featureNames, .ref h_steps, .ref h_turnedFeatures, .ref h_sixteenths, .int h_keys, .ref h_keySteps, .int h_lent, .int h_rings, .ref h_on, .ref h_onMany, .int h_doors, .ref h_wanted, .ref h_openers, .ref h_seconds, .int h_turned, .int h_roundMany, .ref h_roundDoors]))] H := hP
  have hD : va_D A [(h_onMany, .inl (cA.1 0, 3, .inl c_h_onMany)), (h, .inr (2, [.int h_features, .ref h_featureNames, .ref h_steps, .ref h_turnedFeatures, .ref h_sixteenths, .int h_keys, .ref h_keySteps, .int h_lent, .int h_rings, .ref h_on, .ref h_onMany, .int h_doors, .ref h_wanted, .ref h_openers, .ref h_seconds, .int h_turned, .int h_roundMany, .ref h_roundDoors]))] := hD
  obtain ⟨hx_r_1, hz_r_1⟩ := hw
  refine lv_if_eq (tgt := 19) hx hb dX2_manyOn_5 (by decide) (fun c_3 => ?_) (fun c_3 => ?_)
  · skip
    refine lv_iconst (v := 0) hx hb dX2_manyOn_19 (by decide) ?_
    exact hret _ _ _ _ _ _ () [1, 0] hP hD hS rfl (by decide) dX2_manyOn_20 ⟨zmo_0 hx_r_1 (z_eq0 c_3), by decide +kernel⟩
  · skip
    refine lv_aload_n hx hb dX2_manyOn_8 rfl (lv_at hl 0 rfl) ?_
    refine va_get (D := G) (ci := 2) (v := .ref h_onMany) (C := RX2) (T := TX2) (N := 18) hx hb hts inT2 hown hK hP 1 rfl rfl 10 (by decide) (hts _ tw_284) (fun _ h9 => h9) rfl dX2_manyOn_9 ?_
    refine lv_iload_n hx hb dX2_manyOn_12 rfl (lv_at hl 1 rfl) ?_
    refine z_callSNi (As := [.ref h_onMany, .int k]) (rest := []) (wr := [(h, .inr (2, [.int h_features, .ref h_featureNames, .ref h_steps, .ref h_turnedFeatures, .ref h_sixteenths, .int h_keys, .ref h_keySteps, .int h_lent, .int h_rings, .ref h_on, .ref h_onMany, .int h_doors, .ref h_wanted, .ref h_openers, .ref h_seconds, .int h_turned, .int h_roundMany, .ref h_roundDoors]))]) ⟨hx, hb, hml, hown, hts⟩ hK hE hT hP hD hS hA (d_at_3 l G cA h_onMany c_h_onMany k) lk_RX2_89 ⟨rfl, rfl⟩ ⟨Nat.le_of_ble_eq_true rfl, Nat.le_of_ble_eq_true rfl⟩ [0] [1] rfl rfl (by decide) rfl hl.1 rfl (lv_room (Nat.le_of_ble_eq_true rfl)) dX2_manyOn_13 ⟨Nat.le_of_ble_eq_true rfl, Nat.le_of_ble_eq_true rfl⟩ (fun r_6 u_7 H locs hw hP hD hS => ?_)
    have hP : va_P G vwCl [(h, .inr (2, [.int h_features, .ref h_featureNames, .ref h_steps, .ref h_turnedFeatures, .ref h_sixteenths, .int h_keys, .ref h_keySteps, .int h_lent, .int h_rings, .ref h_on, .ref h_onMany, .int h_doors, .ref h_wanted, .ref h_openers, .ref h_seconds, .int h_turned, .int h_roundMany, .ref h_roundDoors])), (h_onMany, .inl (cA.1 0, 3, .inl c_h_onMany))] H := hP
    have hD : va_D A [(h, .inr (2, [.int h_features, .ref h_featureNames, .ref h_steps, .ref h_turnedFeatures, .ref h_sixteenths, .int h_keys, .ref h_keySteps, .int h_lent, .int h_rings, .ref h_on, .ref h_onMany, .int h_doors, .ref h_wanted, .ref h_openers, .ref h_seconds, .int h_turned, .int h_roundMany, .ref h_roundDoors])), (h_onMany, .inl (cA.1 0, 3, .inl c_h_onMany))] := hD
    have hx_r_6 := hw
    have hr_r_6 := zOM_at hO_c_h_onMany hx_r_6
    refine lv_goto (tgt := 20) hx hb dX2_manyOn_16 (by decide) ?_
    exact hret _ _ _ _ _ _ () [0, 1] hP hD hS rfl (by decide) dX2_manyOn_20 ⟨zmo_1 hx_r_1 (z_ne0 c_3) hz_r_1 hx_r_6, by omega⟩
set_option maxHeartbeats 4000000 in
set_option maxRecDepth 100000 in
theorem d_H_keyOn (l : Launch) (G : va_G) (cA : zCA) (h : Nat) (h_features : Int32) (h_featureNames : Nat) (h_steps : Nat) (h_turnedFeatures : Nat) (h_sixteenths : Nat) (h_keys : Int32) (h_keySteps : Nat) (h_lent : Int32) (h_rings : Int32) (h_on : Nat) (h_onMany : Nat) (h_doors : Int32) (h_wanted : Nat) (h_openers : Nat) (h_seconds : Nat) (h_turned : Int32) (h_roundMany : Int32) (h_roundDoors : Nat) (c_h_on : Nat → Int32) (c_h_onMany : Nat → Int32) (x : Int32) (y : Int32) (hm_h_features : 0 ≤ h_features.toInt ∧ h_features.toInt ≤ 3) (hO_c_h_onMany : zOM c_h_onMany) : zCi l yX2_keyOn cX2_keyOn 3 (some .int) ({ frames := 2, cells := 0, slots := 0, locals := 42 }) G cA [.ref h, .int x, .int y] [(h, .inr (2, [.int h_features, .ref h_featureNames, .ref h_steps, .ref h_turnedFeatures, .ref h_sixteenths, .int h_keys, .ref h_keySteps, .int h_lent, .int h_rings, .ref h_on, .ref h_onMany, .int h_doors, .ref h_wanted, .ref h_openers, .ref h_seconds, .int h_turned, .int h_roundMany, .ref h_roundDoors])), (h_on, .inl (cA.1 0, 30, .inl c_h_on)), (h_onMany, .inl (cA.1 0, 3, .inl c_h_onMany))] (S := Unit) (fun (r : Int32) (u : Unit) => True) (fun (u : Unit) => [(h, .inr (2, [.int h_features, .ref h_featureNames, .ref h_steps, .ref h_turnedFeatures, .ref h_sixteenths, .int h_keys, .ref h_keySteps, .int h_lent, .int h_rings, .ref h_on, .ref h_onMany, .int h_doors, .ref h_wanted, .ref h_openers, .ref h_seconds, .int h_turned, .int h_roundMany, .ref h_roundDoors])), (h_on, .inl (cA.1 0, 30, .inl c_h_on)), (h_onMany, .inl (cA.1 0, 3, .inl c_h_onMany))]) 0 0 := by
  refine z_start2i (own := RX2) (by decide) (Nat.le_of_ble_eq_true rfl) rfl ?_
  intro p e s m args below meth c A ls Q hx hb hml hts hown hK hE hT hP hD hS hA hl hret
  have hl : lv_has ls 3 [(0, .ref h), (1, .int x), (2, .int y)] := hl
  refine lv_iload_n hx hb dX2_keyOn_0 rfl (lv_at hl 2 rfl) ?_
  refine lv_if_lt (tgt := 29) hx hb dX2_keyOn_1 (by decide) (fun c_1 => ?_) (fun c_1 => ?_)
  · have b_2 := z_b3 c_1 (K := 0) (by decide +kernel)
    refine lv_iconst (v := (-1)) hx hb dX2_keyOn_29 (by decide) ?_
    exact hret _ _ _ _ _ _ () [0, 1, 2] hP hD hS rfl (by decide) dX2_keyOn_30 trivial
  · have b_3 := z_b4 c_1 (K := 0) (by decide +kernel)
    refine lv_iload_n hx hb dX2_keyOn_4 rfl (lv_at hl 2 rfl) ?_
    refine lv_aload_n hx hb dX2_keyOn_5 rfl (lv_at hl 0 rfl) ?_
    refine lv_iload_n hx hb dX2_keyOn_6 rfl (lv_at hl 1 rfl) ?_
    refine z_callVi (As := [.int x]) (rest := [.int y]) (wr := [(h_on, .inl (cA.1 0, 30, .inl c_h_on))]) ⟨hx, hb, hml, hown, hts⟩ hK hE hT hP hD hS hA (d_H_manyOn l G cA h h_features h_featureNames h_steps h_turnedFeatures h_sixteenths h_keys h_keySteps h_lent h_rings h_on h_onMany h_doors h_wanted h_openers h_seconds h_turned h_roundMany h_roundDoors c_h_onMany x (by omega) hO_c_h_onMany) lk_RX2_113 ⟨rfl, rfl⟩ ⟨Nat.le_of_ble_eq_true rfl, Nat.le_of_ble_eq_true rfl⟩ 2 rfl rfl rfl [0, 2] [1] rfl rfl (by decide) rfl hl.1 rfl (lv_room (Nat.le_of_ble_eq_true rfl)) dX2_keyOn_7 ⟨Nat.le_of_ble_eq_true rfl, Nat.le_of_ble_eq_true rfl⟩ (fun r_4 u_5 H locs hw hP hD hS => ?_)
    have hP : va_P G vwCl [(h_on, .inl (cA.1 0, 30, .inl c_h_on)), (h, .inr (2, [.int h_features, .ref h_featureNames, .ref h_steps, .ref h_turnedFeatures, .ref h_sixteenths, .int h_keys, .ref h_keySteps, .int h_lent, .int h_rings, .ref h_on, .ref h_onMany, .int h_doors, .ref h_wanted, .ref h_openers, .ref h_seconds, .int h_turned, .int h_roundMany, .ref h_roundDoors])), (h_onMany, .inl (cA.1 0, 3, .inl c_h_onMany))] H := hP
    have hD : va_D A [(h_on, .inl (cA.1 0, 30, .inl c_h_on)), (h, .inr (2, [.int h_features, .ref h_featureNames, .ref h_steps, .ref h_turnedFeatures, .ref h_sixteenths, .int h_keys, .ref h_keySteps, .int h_lent, .int h_rings, .ref h_on, .ref h_onMany, .int h_doors, .ref h_wanted, .ref h_openers, .ref h_seconds, .int h_turned, .int h_roundMany, .ref h_roundDoors])), (h_onMany, .inl (cA.1 0, 3, .inl c_h_onMany))] := hD
    have hx_r_4 := hw
    refine lv_icmp_ge (tgt := 29) hx hb dX2_keyOn_10 (by decide) (fun c_6 => ?_) (fun c_6 => ?_)
    · have b_7 := z_s1 c_6
      refine lv_iconst (v := (-1)) hx hb dX2_keyOn_29 (by decide) ?_
      exact hret _ _ _ _ _ _ () [1, 0, 2] hP hD hS rfl (by decide) dX2_keyOn_30 trivial
    · have b_8 := z_t2 c_6
      refine lv_aload_n hx hb dX2_keyOn_13 rfl (lv_at hl 0 rfl) ?_
      refine va_get (D := G) (ci := 2) (v := .ref h_on) (C := RX2) (T := TX2) (N := 18) hx hb hts inT2 hown hK hP 1 rfl rfl 9 (by decide) (hts _ tw_283) (fun _ h9 => h9) rfl dX2_keyOn_14 ?_
      refine lv_iload_n hx hb dX2_keyOn_17 rfl (lv_at hl 1 rfl) ?_
      refine lv_bipush (v := 10) hx hb dX2_keyOn_18 (by decide) ?_
      refine lv_imul hx hb dX2_keyOn_20 ?_
      refine lv_topi (fun x_9 _ => ?_)
      refine lv_iload_n hx hb dX2_keyOn_21 rfl (lv_at hl 2 rfl) ?_
      refine lv_iadd hx hb dX2_keyOn_22 ?_
      refine lv_topi (fun x_10 _ => ?_)
      refine z_callSNi (As := [.ref h_on, .int x_10]) (rest := []) (wr := [(h, .inr (2, [.int h_features, .ref h_featureNames, .ref h_steps, .ref h_turnedFeatures, .ref h_sixteenths, .int h_keys, .ref h_keySteps, .int h_lent, .int h_rings, .ref h_on, .ref h_onMany, .int h_doors, .ref h_wanted, .ref h_openers, .ref h_seconds, .int h_turned, .int h_roundMany, .ref h_roundDoors])), (h_onMany, .inl (cA.1 0, 3, .inl c_h_onMany))]) ⟨hx, hb, hml, hown, hts⟩ hK hE hT hP hD hS hA (d_at_30 l G cA h_on c_h_on x_10) lk_RX2_89 ⟨rfl, rfl⟩ ⟨Nat.le_of_ble_eq_true rfl, Nat.le_of_ble_eq_true rfl⟩ [0] [1, 2] rfl rfl (by decide) rfl hl.1 rfl (lv_room (Nat.le_of_ble_eq_true rfl)) dX2_keyOn_23 ⟨Nat.le_of_ble_eq_true rfl, Nat.le_of_ble_eq_true rfl⟩ (fun r_11 u_12 H locs hw hP hD hS => ?_)
      have hP : va_P G vwCl [(h, .inr (2, [.int h_features, .ref h_featureNames, .ref h_steps, .ref h_turnedFeatures, .ref h_sixteenths, .int h_keys, .ref h_keySteps, .int h_lent, .int h_rings, .ref h_on, .ref h_onMany, .int h_doors, .ref h_wanted, .ref h_openers, .ref h_seconds, .int h_turned, .int h_roundMany, .ref h_roundDoors])), (h_onMany, .inl (cA.1 0, 3, .inl c_h_onMany)), (h_on, .inl (cA.1 0, 30, .inl c_h_on))] H := hP
      have hD : va_D A [(h, .inr (2, [.int h_features, .ref h_featureNames, .ref h_steps, .ref h_turnedFeatures, .ref h_sixteenths, .int h_keys, .ref h_keySteps, .int h_lent, .int h_rings, .ref h_on, .ref h_onMany, .int h_doors, .ref h_wanted, .ref h_openers, .ref h_seconds, .int h_turned, .int h_roundMany, .ref h_roundDoors])), (h_onMany, .inl (cA.1 0, 3, .inl c_h_onMany)), (h_on, .inl (cA.1 0, 30, .inl c_h_on))] := hD
      refine lv_goto (tgt := 30) hx hb dX2_keyOn_26 (by decide) ?_
      exact hret _ _ _ _ _ _ () [0, 2, 1] hP hD hS rfl (by decide) dX2_keyOn_30 trivial
set_option maxHeartbeats 4000000 in
set_option maxRecDepth 100000 in
theorem d_H_setOn (l : Launch) (G : va_G) (cA : zCA) (h : Nat) (h_features : Int32) (h_featureNames : Nat) (h_steps : Nat) (h_turnedFeatures : Nat) (h_sixteenths : Nat) (h_keys : Int32) (h_keySteps : Nat) (h_lent : Int32) (h_rings : Int32) (h_on : Nat) (h_onMany : Nat) (h_doors : Int32) (h_wanted : Nat) (h_openers : Nat) (h_seconds : Nat) (h_turned : Int32) (h_roundMany : Int32) (h_roundDoors : Nat) (c_h_on : Nat → Int32) (c_h_onMany : Nat → Int32) (k : Int32) (hm_h_features : 0 ≤ h_features.toInt ∧ h_features.toInt ≤ 3) (hO_c_h_onMany : zOM c_h_onMany) : zCi l yX2_setOn cX2_setOn 4 (some .int) ({ frames := 3, cells := 0, slots := 0, locals := 64 }) G cA [.ref h, .int k] [(h, .inr (2, [.int h_features, .ref h_featureNames, .ref h_steps, .ref h_turnedFeatures, .ref h_sixteenths, .int h_keys, .ref h_keySteps, .int h_lent, .int h_rings, .ref h_on, .ref h_onMany, .int h_doors, .ref h_wanted, .ref h_openers, .ref h_seconds, .int h_turned, .int h_roundMany, .ref h_roundDoors])), (h_on, .inl (cA.1 0, 30, .inl c_h_on)), (h_onMany, .inl (cA.1 0, 3, .inl c_h_onMany))] (S := Unit) (fun (r : Int32) (u : Unit) => True) (fun (u : Unit) => [(h, .inr (2, [.int h_features, .ref h_featureNames, .ref h_steps, .ref h_turnedFeatures, .ref h_sixteenths, .int h_keys, .ref h_keySteps, .int h_lent, .int h_rings, .ref h_on, .ref h_onMany, .int h_doors, .ref h_wanted, .ref h_openers, .ref h_seconds, .int h_turned, .int h_roundMany, .ref h_roundDoors])), (h_on, .inl (cA.1 0, 30, .inl c_h_on)), (h_onMany, .inl (cA.1 0, 3, .inl c_h_onMany))]) 0 0 := by
  refine z_start2i (own := RX2) (by decide) (Nat.le_of_ble_eq_true rfl) rfl ?_
  intro p e s m args below meth c A ls Q hx hb hml hts hown hK hE hT hP hD hS hA hl hret
  have hl : lv_has ls 4 [(0, .ref h), (1, .int k)] := hl
  refine lv_iconst (v := 0) hx hb dX2_setOn_0 (by decide) ?_
  refine lv_istore_n (lv' := [(2, .int 0), (0, .ref h), (1, .int k)]) hx hb dX2_setOn_1 rfl hl (by decide) rfl (fun ls hl => ?_)
  refine lv_iconst (v := 0) hx hb dX2_setOn_2 (by decide) ?_
  refine lv_istore_n (lv' := [(3, .int 0), (2, .int 0), (0, .ref h), (1, .int k)]) hx hb dX2_setOn_3 rfl hl (by decide) rfl (fun ls hl => ?_)
  have hlp_21 : ∀ (n : Nat) (v_19 : Int32) (v_20 : Int32) (H : Heap) (locs : List Loc) (ls : Array Slot), (2147483647 - v_20.toInt).toNat < n → (0 ≤ v_20.toInt) → va_P G vwCl [(h, .inr (2, [.int h_features, .ref h_featureNames, .ref h_steps, .ref h_turnedFeatures, .ref h_sixteenths, .int h_keys, .ref h_keySteps, .int h_lent, .int h_rings, .ref h_on, .ref h_onMany, .int h_doors, .ref h_wanted, .ref h_openers, .ref h_seconds, .int h_turned, .int h_roundMany, .ref h_roundDoors])), (h_on, .inl (cA.1 0, 30, .inl c_h_on)), (h_onMany, .inl (cA.1 0, 3, .inl c_h_onMany))] H → va_D A [(h, .inr (2, [.int h_features, .ref h_featureNames, .ref h_steps, .ref h_turnedFeatures, .ref h_sixteenths, .int h_keys, .ref h_keySteps, .int h_lent, .int h_rings, .ref h_on, .ref h_onMany, .int h_doors, .ref h_wanted, .ref h_openers, .ref h_seconds, .int h_turned, .int h_roundMany, .ref h_roundDoors])), (h_on, .inl (cA.1 0, 30, .inl c_h_on)), (h_onMany, .inl (cA.1 0, 3, .inl c_h_onMany))] → va_S A s.heap H locs → lv_has ls 4 [(0, .ref h), (1, .int k), (2, .int v_19), (3, .int v_20)] → W p l e ({ frames := 3, cells := 0, slots := 0, locals := 64 }) s m args below meth c H locs 0 0 Q (F0 m 4 ls []) := by
    intro n
    induction n with
    | zero =>
      intro v_19 v_20 H locs ls hmu_hlp_21 hi_22 hP hD hS hl
      exact absurd hmu_hlp_21 (Nat.not_lt_zero _)
    | succ n ih_23 =>
      intro v_19 v_20 H locs ls hmu_hlp_21 hi_22 hP hD hS hl
      refine lv_iload_n hx hb dX2_setOn_4 rfl (lv_at hl 3 rfl) ?_
      refine lv_aload_n hx hb dX2_setOn_5 rfl (lv_at hl 0 rfl) ?_
      refine lv_iload_n hx hb dX2_setOn_6 rfl (lv_at hl 1 rfl) ?_
      refine z_callVi (As := [.int k]) (rest := [.int v_20]) (wr := [(h_on, .inl (cA.1 0, 30, .inl c_h_on))]) ⟨hx, hb, hml, hown, hts⟩ hK hE hT hP hD hS hA (d_H_manyOn l G cA h h_features h_featureNames h_steps h_turnedFeatures h_sixteenths h_keys h_keySteps h_lent h_rings h_on h_onMany h_doors h_wanted h_openers h_seconds h_turned h_roundMany h_roundDoors c_h_onMany k (by omega) hO_c_h_onMany) lk_RX2_113 ⟨rfl, rfl⟩ ⟨Nat.le_of_ble_eq_true rfl, Nat.le_of_ble_eq_true rfl⟩ 2 rfl rfl rfl [0, 2] [1] rfl rfl (by decide) rfl hl.1 rfl (lv_room (Nat.le_of_ble_eq_true rfl)) dX2_setOn_7 ⟨Nat.le_of_ble_eq_true rfl, Nat.le_of_ble_eq_true rfl⟩ (fun r_24 u_25 H locs hw hP hD hS => ?_)
      have hP : va_P G vwCl [(h_on, .inl (cA.1 0, 30, .inl c_h_on)), (h, .inr (2, [.int h_features, .ref h_featureNames, .ref h_steps, .ref h_turnedFeatures, .ref h_sixteenths, .int h_keys, .ref h_keySteps, .int h_lent, .int h_rings, .ref h_on, .ref h_onMany, .int h_doors, .ref h_wanted, .ref h_openers, .ref h_seconds, .int h_turned, .int h_roundMany, .ref h_roundDoors])), (h_onMany, .inl (cA.1 0, 3, .inl c_h_onMany))] H := hP
      have hD : va_D A [(h_on, .inl (cA.1 0, 30, .inl c_h_on)), (h, .inr (2, [.int h_features, .ref h_featureNames, .ref h_steps, .ref h_turnedFeatures, .ref h_sixteenths, .int h_keys, .ref h_keySteps, .int h_lent, .int h_rings, .ref h_on, .ref h_onMany, .int h_doors, .ref h_wanted, .ref h_openers, .ref h_seconds, .int h_turned, .int h_roundMany, .ref h_roundDoors])), (h_onMany, .inl (cA.1 0, 3, .inl c_h_onMany))] := hD
      have hx_r_24 := hw
      refine lv_icmp_ge (tgt := 30) hx hb dX2_setOn_10 (by decide) (fun c_26 => ?_) (fun c_26 => ?_)
      · have b_27 := z_s1 c_26
        refine lv_iload_n hx hb dX2_setOn_30 rfl (lv_at hl 2 rfl) ?_
        exact hret _ _ _ _ _ _ () [1, 0, 2] hP hD hS rfl (by decide) dX2_setOn_31 trivial
      · have b_28 := z_t2 c_26
        refine lv_iload_n hx hb dX2_setOn_13 rfl (lv_at hl 2 rfl) ?_
        refine lv_iconst (v := 1) hx hb dX2_setOn_14 (by decide) ?_
        refine lv_aload_n hx hb dX2_setOn_15 rfl (lv_at hl 0 rfl) ?_
        refine lv_iload_n hx hb dX2_setOn_16 rfl (lv_at hl 1 rfl) ?_
        refine lv_iload_n hx hb dX2_setOn_17 rfl (lv_at hl 3 rfl) ?_
        refine z_callVi (As := [.int k, .int v_20]) (rest := [.int 1, .int v_19]) (wr := []) ⟨hx, hb, hml, hown, hts⟩ hK hE hT hP hD hS hA (d_H_keyOn l G cA h h_features h_featureNames h_steps h_turnedFeatures h_sixteenths h_keys h_keySteps h_lent h_rings h_on h_onMany h_doors h_wanted h_openers h_seconds h_turned h_roundMany h_roundDoors c_h_on c_h_onMany k v_20 (by omega) hO_c_h_onMany) lk_RX2_116 ⟨rfl, rfl⟩ ⟨Nat.le_of_ble_eq_true rfl, Nat.le_of_ble_eq_true rfl⟩ 2 rfl rfl rfl [1, 0, 2] [] rfl rfl (by decide) rfl hl.1 rfl (lv_room (Nat.le_of_ble_eq_true rfl)) dX2_setOn_18 ⟨Nat.le_of_ble_eq_true rfl, Nat.le_of_ble_eq_true rfl⟩ (fun r_29 u_30 H locs hw hP hD hS => ?_)
        have hP : va_P G vwCl [(h, .inr (2, [.int h_features, .ref h_featureNames, .ref h_steps, .ref h_turnedFeatures, .ref h_sixteenths, .int h_keys, .ref h_keySteps, .int h_lent, .int h_rings, .ref h_on, .ref h_onMany, .int h_doors, .ref h_wanted, .ref h_openers, .ref h_seconds, .int h_turned, .int h_roundMany, .ref h_roundDoors])), (h_on, .inl (cA.1 0, 30, .inl c_h_on)), (h_onMany, .inl (cA.1 0, 3, .inl c_h_onMany))] H := hP
        have hD : va_D A [(h, .inr (2, [.int h_features, .ref h_featureNames, .ref h_steps, .ref h_turnedFeatures, .ref h_sixteenths, .int h_keys, .ref h_keySteps, .int h_lent, .int h_rings, .ref h_on, .ref h_onMany, .int h_doors, .ref h_wanted, .ref h_openers, .ref h_seconds, .int h_turned, .int h_roundMany, .ref h_roundDoors])), (h_on, .inl (cA.1 0, 30, .inl c_h_on)), (h_onMany, .inl (cA.1 0, 3, .inl c_h_onMany))] := hD
        refine lv_ishl hx hb dX2_setOn_21 ?_
        refine lv_topi (fun x_31 _ => ?_)
        refine lv_ior hx hb dX2_setOn_22 ?_
        refine lv_topi (fun x_32 _ => ?_)
        refine lv_istore_n (lv' := [(2, .int x_32), (0, .ref h), (1, .int k), (3, .int v_20)]) hx hb dX2_setOn_23 rfl hl (by decide) rfl (fun ls hl => ?_)
        refine lv_iinc (v := (v_20 + 1)) (lv' := [(3, .int (v_20 + 1)), (2, .int x_32), (0, .ref h), (1, .int k)]) hx hb dX2_setOn_24 hl (k := 3) rfl (z_ofi (by decide +kernel)) (by decide) rfl (fun ls hl => ?_)
        refine lv_goto (tgt := 4) hx hb dX2_setOn_27 (by decide) ?_
        exact ih_23 x_32 (v_20 + 1) H locs ls (z_up hmu_hlp_21 (by omega) trivial) (z_upc hi_22 (by omega) trivial) hP hD hS (lv_sub hl [2, 3, 1, 0] rfl)
  exact hlp_21 _ 0 0 _ _ _ (Nat.lt_succ_self _) (by first | decide +kernel | omega) hP hD hS (lv_sub hl [2, 3, 1, 0] rfl)
set_option maxHeartbeats 4000000 in
set_option maxRecDepth 100000 in
theorem d_H_placeOn (l : Launch) (G : va_G) (cA : zCA) (h : Nat) (h_features : Int32) (h_featureNames : Nat) (h_steps : Nat) (h_turnedFeatures : Nat) (h_sixteenths : Nat) (h_keys : Int32) (h_keySteps : Nat) (h_lent : Int32) (h_rings : Int32) (h_on : Nat) (h_onMany : Nat) (h_doors : Int32) (h_wanted : Nat) (h_openers : Nat) (h_seconds : Nat) (h_turned : Int32) (h_roundMany : Int32) (h_roundDoors : Nat) (c_h_on : Nat → Int32) (c_h_onMany : Nat → Int32) (x : Int32) (y : Int32) (hm_h_features : 0 ≤ h_features.toInt ∧ h_features.toInt ≤ 3) (hO_c_h_onMany : zOM c_h_onMany) : zCi l yX2_placeOn cX2_placeOn 4 (some .int) ({ frames := 3, cells := 0, slots := 0, locals := 64 }) G cA [.ref h, .int x, .int y] [(h, .inr (2, [.int h_features, .ref h_featureNames, .ref h_steps, .ref h_turnedFeatures, .ref h_sixteenths, .int h_keys, .ref h_keySteps, .int h_lent, .int h_rings, .ref h_on, .ref h_onMany, .int h_doors, .ref h_wanted, .ref h_openers, .ref h_seconds, .int h_turned, .int h_roundMany, .ref h_roundDoors])), (h_on, .inl (cA.1 0, 30, .inl c_h_on)), (h_onMany, .inl (cA.1 0, 3, .inl c_h_onMany))] (S := Unit) (fun (r : Int32) (u : Unit) => r.toInt = -1 ∨ (0 ≤ r.toInt ∧ r.toInt < zmo c_h_onMany h_rings.toInt x.toInt)) (fun (u : Unit) => [(h, .inr (2, [.int h_features, .ref h_featureNames, .ref h_steps, .ref h_turnedFeatures, .ref h_sixteenths, .int h_keys, .ref h_keySteps, .int h_lent, .int h_rings, .ref h_on, .ref h_onMany, .int h_doors, .ref h_wanted, .ref h_openers, .ref h_seconds, .int h_turned, .int h_roundMany, .ref h_roundDoors])), (h_on, .inl (cA.1 0, 30, .inl c_h_on)), (h_onMany, .inl (cA.1 0, 3, .inl c_h_onMany))]) 0 0 := by
  refine z_start2i (own := RX2) (by decide) (Nat.le_of_ble_eq_true rfl) rfl ?_
  intro p e s m args below meth c A ls Q hx hb hml hts hown hK hE hT hP hD hS hA hl hret
  have hl : lv_has ls 4 [(0, .ref h), (1, .int x), (2, .int y)] := hl
  refine lv_iconst (v := 0) hx hb dX2_placeOn_0 (by decide) ?_
  refine lv_istore_n (lv' := [(3, .int 0), (0, .ref h), (1, .int x), (2, .int y)]) hx hb dX2_placeOn_1 rfl hl (by decide) rfl (fun ls hl => ?_)
  have hlp_21 : ∀ (n : Nat) (v_20 : Int32) (H : Heap) (locs : List Loc) (ls : Array Slot), (2147483647 - v_20.toInt).toNat < n → (0 ≤ v_20.toInt) → va_P G vwCl [(h, .inr (2, [.int h_features, .ref h_featureNames, .ref h_steps, .ref h_turnedFeatures, .ref h_sixteenths, .int h_keys, .ref h_keySteps, .int h_lent, .int h_rings, .ref h_on, .ref h_onMany, .int h_doors, .ref h_wanted, .ref h_openers, .ref h_seconds, .int h_turned, .int h_roundMany, .ref h_roundDoors])), (h_on, .inl (cA.1 0, 30, .inl c_h_on)), (h_onMany, .inl (cA.1 0, 3, .inl c_h_onMany))] H → va_D A [(h, .inr (2, [.int h_features, .ref h_featureNames, .ref h_steps, .ref h_turnedFeatures, .ref h_sixteenths, .int h_keys, .ref h_keySteps, .int h_lent, .int h_rings, .ref h_on, .ref h_onMany, .int h_doors, .ref h_wanted, .ref h_openers, .ref h_seconds, .int h_turned, .int h_roundMany, .ref h_roundDoors])), (h_on, .inl (cA.1 0, 30, .inl c_h_on)), (h_onMany, .inl (cA.1 0, 3, .inl c_h_onMany))] → va_S A s.heap H locs → lv_has ls 4 [(0, .ref h), (1, .int x), (2, .int y), (3, .int v_20)] → W p l e ({ frames := 3, cells := 0, slots := 0, locals := 64 }) s m args below meth c H locs 0 0 Q (F0 m 2 ls []) := by
    intro n
    induction n with
    | zero =>
      intro v_20 H locs ls hmu_hlp_21 hi_22 hP hD hS hl
      exact absurd hmu_hlp_21 (Nat.not_lt_zero _)
    | succ n ih_23 =>
      intro v_20 H locs ls hmu_hlp_21 hi_22 hP hD hS hl
      refine lv_iload_n hx hb dX2_placeOn_2 rfl (lv_at hl 3 rfl) ?_
      refine lv_aload_n hx hb dX2_placeOn_3 rfl (lv_at hl 0 rfl) ?_
      refine lv_iload_n hx hb dX2_placeOn_4 rfl (lv_at hl 1 rfl) ?_
      refine z_callVi (As := [.int x]) (rest := [.int v_20]) (wr := [(h_on, .inl (cA.1 0, 30, .inl c_h_on))]) ⟨hx, hb, hml, hown, hts⟩ hK hE hT hP hD hS hA (d_H_manyOn l G cA h h_features h_featureNames h_steps h_turnedFeatures h_sixteenths h_keys h_keySteps h_lent h_rings h_on h_onMany h_doors h_wanted h_openers h_seconds h_turned h_roundMany h_roundDoors c_h_onMany x (by omega) hO_c_h_onMany) lk_RX2_113 ⟨rfl, rfl⟩ ⟨Nat.le_of_ble_eq_true rfl, Nat.le_of_ble_eq_true rfl⟩ 2 rfl rfl rfl [0, 2] [1] rfl rfl (by decide) rfl hl.1 rfl (lv_room (Nat.le_of_ble_eq_true rfl)) dX2_placeOn_5 ⟨Nat.le_of_ble_eq_true rfl, Nat.le_of_ble_eq_true rfl⟩ (fun r_24 u_25 H locs hw hP hD hS => ?_)
      have hP : va_P G vwCl [(h_on, .inl (cA.1 0, 30, .inl c_h_on)), (h, .inr (2, [.int h_features, .ref h_featureNames, .ref h_steps, .ref h_turnedFeatures, .ref h_sixteenths, .int h_keys, .ref h_keySteps, .int h_lent, .int h_rings, .ref h_on, .ref h_onMany, .int h_doors, .ref h_wanted, .ref h_openers, .ref h_seconds, .int h_turned, .int h_roundMany, .ref h_roundDoors])), (h_onMany, .inl (cA.1 0, 3, .inl c_h_onMany))] H := hP
      have hD : va_D A [(h_on, .inl (cA.1 0, 30, .inl c_h_on)), (h, .inr (2, [.int h_features, .ref h_featureNames, .ref h_steps, .ref h_turnedFeatures, .ref h_sixteenths, .int h_keys, .ref h_keySteps, .int h_lent, .int h_rings, .ref h_on, .ref h_onMany, .int h_doors, .ref h_wanted, .ref h_openers, .ref h_seconds, .int h_turned, .int h_roundMany, .ref h_roundDoors])), (h_onMany, .inl (cA.1 0, 3, .inl c_h_onMany))] := hD
      have hx_r_24 := hw
      refine lv_icmp_ge (tgt := 29) hx hb dX2_placeOn_8 (by decide) (fun c_26 => ?_) (fun c_26 => ?_)
      · have b_27 := z_s1 c_26
        refine lv_iconst (v := (-1)) hx hb dX2_placeOn_29 (by decide) ?_
        exact hret _ _ _ _ _ _ () [1, 0, 2] hP hD hS rfl (by decide) dX2_placeOn_30 (Or.inl (by decide +kernel))
      · have b_28 := z_t2 c_26
        refine lv_aload_n hx hb dX2_placeOn_11 rfl (lv_at hl 0 rfl) ?_
        refine lv_iload_n hx hb dX2_placeOn_12 rfl (lv_at hl 1 rfl) ?_
        refine lv_iload_n hx hb dX2_placeOn_13 rfl (lv_at hl 3 rfl) ?_
        refine z_callVi (As := [.int x, .int v_20]) (rest := []) (wr := []) ⟨hx, hb, hml, hown, hts⟩ hK hE hT hP hD hS hA (d_H_keyOn l G cA h h_features h_featureNames h_steps h_turnedFeatures h_sixteenths h_keys h_keySteps h_lent h_rings h_on h_onMany h_doors h_wanted h_openers h_seconds h_turned h_roundMany h_roundDoors c_h_on c_h_onMany x v_20 (by omega) hO_c_h_onMany) lk_RX2_116 ⟨rfl, rfl⟩ ⟨Nat.le_of_ble_eq_true rfl, Nat.le_of_ble_eq_true rfl⟩ 2 rfl rfl rfl [1, 0, 2] [] rfl rfl (by decide) rfl hl.1 rfl (lv_room (Nat.le_of_ble_eq_true rfl)) dX2_placeOn_14 ⟨Nat.le_of_ble_eq_true rfl, Nat.le_of_ble_eq_true rfl⟩ (fun r_29 u_30 H locs hw hP hD hS => ?_)
        have hP : va_P G vwCl [(h, .inr (2, [.int h_features, .ref h_featureNames, .ref h_steps, .ref h_turnedFeatures, .ref h_sixteenths, .int h_keys, .ref h_keySteps, .int h_lent, .int h_rings, .ref h_on, .ref h_onMany, .int h_doors, .ref h_wanted, .ref h_openers, .ref h_seconds, .int h_turned, .int h_roundMany, .ref h_roundDoors])), (h_on, .inl (cA.1 0, 30, .inl c_h_on)), (h_onMany, .inl (cA.1 0, 3, .inl c_h_onMany))] H := hP
        have hD : va_D A [(h, .inr (2, [.int h_features, .ref h_featureNames, .ref h_steps, .ref h_turnedFeatures, .ref h_sixteenths, .int h_keys, .ref h_keySteps, .int h_lent, .int h_rings, .ref h_on, .ref h_onMany, .int h_doors, .ref h_wanted, .ref h_openers, .ref h_seconds, .int h_turned, .int h_roundMany, .ref h_roundDoors])), (h_on, .inl (cA.1 0, 30, .inl c_h_on)), (h_onMany, .inl (cA.1 0, 3, .inl c_h_onMany))] := hD
        refine lv_iload_n hx hb dX2_placeOn_17 rfl (lv_at hl 2 rfl) ?_
        refine lv_icmp_ne (tgt := 23) hx hb dX2_placeOn_18 (by decide) (fun c_31 => ?_) (fun c_31 => ?_)
        · skip
          refine lv_iinc (v := (v_20 + 1)) (lv' := [(3, .int (v_20 + 1)), (0, .ref h), (1, .int x), (2, .int y)]) hx hb dX2_placeOn_23 hl (k := 3) rfl (z_ofi (by decide +kernel)) (by decide) rfl (fun ls hl => ?_)
          refine lv_goto (tgt := 2) hx hb dX2_placeOn_26 (by decide) ?_
          exact ih_23 (v_20 + 1) H locs ls (z_up hmu_hlp_21 (by omega) trivial) (z_upc hi_22 (by omega) trivial) hP hD hS (lv_sub hl [1, 2, 3, 0] rfl)
        · skip
          refine lv_iload_n hx hb dX2_placeOn_21 rfl (lv_at hl 3 rfl) ?_
          exact hret _ _ _ _ _ _ () [0, 1, 2] hP hD hS rfl (by decide) dX2_placeOn_22 (Or.inr ⟨by omega, by omega⟩)
  exact hlp_21 _ 0 _ _ _ (Nat.lt_succ_self _) (by first | decide +kernel | omega) hP hD hS (lv_sub hl [1, 2, 3, 0] rfl)
set_option maxHeartbeats 4000000 in
set_option maxRecDepth 100000 in
theorem d_H_ringOf (l : Launch) (G : va_G) (cA : zCA) (h : Nat) (h_features : Int32) (h_featureNames : Nat) (h_steps : Nat) (h_turnedFeatures : Nat) (h_sixteenths : Nat) (h_keys : Int32) (h_keySteps : Nat) (h_lent : Int32) (h_rings : Int32) (h_on : Nat) (h_onMany : Nat) (h_doors : Int32) (h_wanted : Nat) (h_openers : Nat) (h_seconds : Nat) (h_turned : Int32) (h_roundMany : Int32) (h_roundDoors : Nat) (c_h_on : Nat → Int32) (c_h_onMany : Nat → Int32) (k : Int32) (hm_h_features : 0 ≤ h_features.toInt ∧ h_features.toInt ≤ 3) (hO_c_h_onMany : zOM c_h_onMany) : zCi l yX2_ringOf cX2_ringOf 3 (some .int) ({ frames := 4, cells := 0, slots := 0, locals := 87 }) G cA [.ref h, .int k] [(h, .inr (2, [.int h_features, .ref h_featureNames, .ref h_steps, .ref h_turnedFeatures, .ref h_sixteenths, .int h_keys, .ref h_keySteps, .int h_lent, .int h_rings, .ref h_on, .ref h_onMany, .int h_doors, .ref h_wanted, .ref h_openers, .ref h_seconds, .int h_turned, .int h_roundMany, .ref h_roundDoors])), (h_on, .inl (cA.1 0, 30, .inl c_h_on)), (h_onMany, .inl (cA.1 0, 3, .inl c_h_onMany))] (S := Unit) (fun (r : Int32) (u : Unit) => True) (fun (u : Unit) => [(h, .inr (2, [.int h_features, .ref h_featureNames, .ref h_steps, .ref h_turnedFeatures, .ref h_sixteenths, .int h_keys, .ref h_keySteps, .int h_lent, .int h_rings, .ref h_on, .ref h_onMany, .int h_doors, .ref h_wanted, .ref h_openers, .ref h_seconds, .int h_turned, .int h_roundMany, .ref h_roundDoors])), (h_on, .inl (cA.1 0, 30, .inl c_h_on)), (h_onMany, .inl (cA.1 0, 3, .inl c_h_onMany))]) 0 0 := by
  refine z_start2i (own := RX2) (by decide) (Nat.le_of_ble_eq_true rfl) rfl ?_
  intro p e s m args below meth c A ls Q hx hb hml hts hown hK hE hT hP hD hS hA hl hret
  have hl : lv_has ls 3 [(0, .ref h), (1, .int k)] := hl
  refine lv_iconst (v := 0) hx hb dX2_ringOf_0 (by decide) ?_
  refine lv_istore_n (lv' := [(2, .int 0), (0, .ref h), (1, .int k)]) hx hb dX2_ringOf_1 rfl hl (by decide) rfl (fun ls hl => ?_)
  have hlp_17 : ∀ (n : Nat) (v_16 : Int32) (H : Heap) (locs : List Loc) (ls : Array Slot), (2147483647 - v_16.toInt).toNat < n → (0 ≤ v_16.toInt) → va_P G vwCl [(h, .inr (2, [.int h_features, .ref h_featureNames, .ref h_steps, .ref h_turnedFeatures, .ref h_sixteenths, .int h_keys, .ref h_keySteps, .int h_lent, .int h_rings, .ref h_on, .ref h_onMany, .int h_doors, .ref h_wanted, .ref h_openers, .ref h_seconds, .int h_turned, .int h_roundMany, .ref h_roundDoors])), (h_on, .inl (cA.1 0, 30, .inl c_h_on)), (h_onMany, .inl (cA.1 0, 3, .inl c_h_onMany))] H → va_D A [(h, .inr (2, [.int h_features, .ref h_featureNames, .ref h_steps, .ref h_turnedFeatures, .ref h_sixteenths, .int h_keys, .ref h_keySteps, .int h_lent, .int h_rings, .ref h_on, .ref h_onMany, .int h_doors, .ref h_wanted, .ref h_openers, .ref h_seconds, .int h_turned, .int h_roundMany, .ref h_roundDoors])), (h_on, .inl (cA.1 0, 30, .inl c_h_on)), (h_onMany, .inl (cA.1 0, 3, .inl c_h_onMany))] → va_S A s.heap H locs → lv_has ls 3 [(0, .ref h), (1, .int k), (2, .int v_16)] → W p l e ({ frames := 4, cells := 0, slots := 0, locals := 87 }) s m args below meth c H locs 0 0 Q (F0 m 2 ls []) := by
    intro n
    induction n with
    | zero =>
      intro v_16 H locs ls hmu_hlp_17 hi_18 hP hD hS hl
      exact absurd hmu_hlp_17 (Nat.not_lt_zero _)
    | succ n ih_19 =>
      intro v_16 H locs ls hmu_hlp_17 hi_18 hP hD hS hl
      refine lv_iload_n hx hb dX2_ringOf_2 rfl (lv_at hl 2 rfl) ?_
      refine lv_aload_n hx hb dX2_ringOf_3 rfl (lv_at hl 0 rfl) ?_
      refine va_get (D := G) (ci := 2) (v := .int h_rings) (C := RX2) (T := TX2) (N := 18) hx hb hts inT2 hown hK hP 0 rfl rfl 8 (by decide) (hts _ tw_279) (fun _ h9 => h9) rfl dX2_ringOf_4 ?_
      refine lv_icmp_ge (tgt := 28) hx hb dX2_ringOf_7 (by decide) (fun c_20 => ?_) (fun c_20 => ?_)
      · have b_21 := z_s1 c_20
        refine lv_iconst (v := (-1)) hx hb dX2_ringOf_28 (by decide) ?_
        exact hret _ _ _ _ _ _ () [0, 1, 2] hP hD hS rfl (by decide) dX2_ringOf_29 trivial
      · have b_22 := z_t2 c_20
        refine lv_aload_n hx hb dX2_ringOf_10 rfl (lv_at hl 0 rfl) ?_
        refine lv_iload_n hx hb dX2_ringOf_11 rfl (lv_at hl 2 rfl) ?_
        refine lv_iload_n hx hb dX2_ringOf_12 rfl (lv_at hl 1 rfl) ?_
        refine z_callVi (As := [.int v_16, .int k]) (rest := []) (wr := []) ⟨hx, hb, hml, hown, hts⟩ hK hE hT hP hD hS hA (d_H_placeOn l G cA h h_features h_featureNames h_steps h_turnedFeatures h_sixteenths h_keys h_keySteps h_lent h_rings h_on h_onMany h_doors h_wanted h_openers h_seconds h_turned h_roundMany h_roundDoors c_h_on c_h_onMany v_16 k (by omega) hO_c_h_onMany) lk_RX2_120 ⟨rfl, rfl⟩ ⟨Nat.le_of_ble_eq_true rfl, Nat.le_of_ble_eq_true rfl⟩ 2 rfl rfl rfl [0, 1, 2] [] rfl rfl (by decide) rfl hl.1 rfl (lv_room (Nat.le_of_ble_eq_true rfl)) dX2_ringOf_13 ⟨Nat.le_of_ble_eq_true rfl, Nat.le_of_ble_eq_true rfl⟩ (fun r_23 u_24 H locs hw hP hD hS => ?_)
        have hP : va_P G vwCl [(h, .inr (2, [.int h_features, .ref h_featureNames, .ref h_steps, .ref h_turnedFeatures, .ref h_sixteenths, .int h_keys, .ref h_keySteps, .int h_lent, .int h_rings, .ref h_on, .ref h_onMany, .int h_doors, .ref h_wanted, .ref h_openers, .ref h_seconds, .int h_turned, .int h_roundMany, .ref h_roundDoors])), (h_on, .inl (cA.1 0, 30, .inl c_h_on)), (h_onMany, .inl (cA.1 0, 3, .inl c_h_onMany))] H := hP
        have hD : va_D A [(h, .inr (2, [.int h_features, .ref h_featureNames, .ref h_steps, .ref h_turnedFeatures, .ref h_sixteenths, .int h_keys, .ref h_keySteps, .int h_lent, .int h_rings, .ref h_on, .ref h_onMany, .int h_doors, .ref h_wanted, .ref h_openers, .ref h_seconds, .int h_turned, .int h_roundMany, .ref h_roundDoors])), (h_on, .inl (cA.1 0, 30, .inl c_h_on)), (h_onMany, .inl (cA.1 0, 3, .inl c_h_onMany))] := hD
        have hx_r_23 := hw
        refine lv_iconst (v := (-1)) hx hb dX2_ringOf_16 (by decide) ?_
        refine lv_icmp_eq (tgt := 22) hx hb dX2_ringOf_17 (by decide) (fun c_25 => ?_) (fun c_25 => ?_)
        · skip
          refine lv_iinc (v := (v_16 + 1)) (lv' := [(2, .int (v_16 + 1)), (0, .ref h), (1, .int k)]) hx hb dX2_ringOf_22 hl (k := 2) rfl (z_ofi (by decide +kernel)) (by decide) rfl (fun ls hl => ?_)
          refine lv_goto (tgt := 2) hx hb dX2_ringOf_25 (by decide) ?_
          exact ih_19 (v_16 + 1) H locs ls (z_up hmu_hlp_17 (by omega) trivial) (z_upc hi_18 (by omega) trivial) hP hD hS (lv_sub hl [1, 2, 0] rfl)
        · skip
          refine lv_iload_n hx hb dX2_ringOf_20 rfl (lv_at hl 2 rfl) ?_
          exact hret _ _ _ _ _ _ () [0, 1, 2] hP hD hS rfl (by decide) dX2_ringOf_21 trivial
  exact hlp_17 _ 0 _ _ _ (Nat.lt_succ_self _) (by first | decide +kernel | omega) hP hD hS (lv_sub hl [1, 2, 0] rfl)
set_option maxHeartbeats 4000000 in
set_option maxRecDepth 100000 in
theorem d_H_manyThere (l : Launch) (G : va_G) (cA : zCA) (h : Nat) (h_features : Int32) (h_featureNames : Nat) (h_steps : Nat) (h_turnedFeatures : Nat) (h_sixteenths : Nat) (h_keys : Int32) (h_keySteps : Nat) (h_lent : Int32) (h_rings : Int32) (h_on : Nat) (h_onMany : Nat) (h_doors : Int32) (h_wanted : Nat) (h_openers : Nat) (h_seconds : Nat) (h_turned : Int32) (h_roundMany : Int32) (h_roundDoors : Nat) (c_h_on : Nat → Int32) (c_h_onMany : Nat → Int32) (k : Int32) (hm_h_features : 0 ≤ h_features.toInt ∧ h_features.toInt ≤ 3) (hO_c_h_onMany : zOM c_h_onMany) : zCi l yX2_manyThere cX2_manyThere 4 (some .int) ({ frames := 3, cells := 0, slots := 0, locals := 64 }) G cA [.ref h, .int k] [(h, .inr (2, [.int h_features, .ref h_featureNames, .ref h_steps, .ref h_turnedFeatures, .ref h_sixteenths, .int h_keys, .ref h_keySteps, .int h_lent, .int h_rings, .ref h_on, .ref h_onMany, .int h_doors, .ref h_wanted, .ref h_openers, .ref h_seconds, .int h_turned, .int h_roundMany, .ref h_roundDoors])), (h_on, .inl (cA.1 0, 30, .inl c_h_on)), (h_onMany, .inl (cA.1 0, 3, .inl c_h_onMany))] (S := Unit) (fun (r : Int32) (u : Unit) => r.toInt ≤ 10) (fun (u : Unit) => [(h, .inr (2, [.int h_features, .ref h_featureNames, .ref h_steps, .ref h_turnedFeatures, .ref h_sixteenths, .int h_keys, .ref h_keySteps, .int h_lent, .int h_rings, .ref h_on, .ref h_onMany, .int h_doors, .ref h_wanted, .ref h_openers, .ref h_seconds, .int h_turned, .int h_roundMany, .ref h_roundDoors])), (h_on, .inl (cA.1 0, 30, .inl c_h_on)), (h_onMany, .inl (cA.1 0, 3, .inl c_h_onMany))]) 0 0 := by
  refine z_start2i (own := RX2) (by decide) (Nat.le_of_ble_eq_true rfl) rfl ?_
  intro p e s m args below meth c A ls Q hx hb hml hts hown hK hE hT hP hD hS hA hl hret
  have hl : lv_has ls 4 [(0, .ref h), (1, .int k)] := hl
  refine lv_iconst (v := 0) hx hb dX2_manyThere_0 (by decide) ?_
  refine lv_istore_n (lv' := [(2, .int 0), (0, .ref h), (1, .int k)]) hx hb dX2_manyThere_1 rfl hl (by decide) rfl (fun ls hl => ?_)
  refine lv_iconst (v := 0) hx hb dX2_manyThere_2 (by decide) ?_
  refine lv_istore_n (lv' := [(3, .int 0), (2, .int 0), (0, .ref h), (1, .int k)]) hx hb dX2_manyThere_3 rfl hl (by decide) rfl (fun ls hl => ?_)
  have hlp_27 : ∀ (n : Nat) (v_25 : Int32) (v_26 : Int32) (H : Heap) (locs : List Loc) (ls : Array Slot), (2147483647 - v_26.toInt).toNat < n → (0 ≤ v_26.toInt) → (0 ≤ v_25.toInt ∧ v_25.toInt ≤ v_26.toInt ∧ v_26.toInt ≤ 10) → va_P G vwCl [(h, .inr (2, [.int h_features, .ref h_featureNames, .ref h_steps, .ref h_turnedFeatures, .ref h_sixteenths, .int h_keys, .ref h_keySteps, .int h_lent, .int h_rings, .ref h_on, .ref h_onMany, .int h_doors, .ref h_wanted, .ref h_openers, .ref h_seconds, .int h_turned, .int h_roundMany, .ref h_roundDoors])), (h_on, .inl (cA.1 0, 30, .inl c_h_on)), (h_onMany, .inl (cA.1 0, 3, .inl c_h_onMany))] H → va_D A [(h, .inr (2, [.int h_features, .ref h_featureNames, .ref h_steps, .ref h_turnedFeatures, .ref h_sixteenths, .int h_keys, .ref h_keySteps, .int h_lent, .int h_rings, .ref h_on, .ref h_onMany, .int h_doors, .ref h_wanted, .ref h_openers, .ref h_seconds, .int h_turned, .int h_roundMany, .ref h_roundDoors])), (h_on, .inl (cA.1 0, 30, .inl c_h_on)), (h_onMany, .inl (cA.1 0, 3, .inl c_h_onMany))] → va_S A s.heap H locs → lv_has ls 4 [(0, .ref h), (1, .int k), (2, .int v_25), (3, .int v_26)] → W p l e ({ frames := 3, cells := 0, slots := 0, locals := 64 }) s m args below meth c H locs 0 0 Q (F0 m 4 ls []) := by
    intro n
    induction n with
    | zero =>
      intro v_25 v_26 H locs ls hmu_hlp_27 hi_28 hi_29 hP hD hS hl
      exact absurd hmu_hlp_27 (Nat.not_lt_zero _)
    | succ n ih_30 =>
      intro v_25 v_26 H locs ls hmu_hlp_27 hi_28 hi_29 hP hD hS hl
      refine lv_iload_n hx hb dX2_manyThere_4 rfl (lv_at hl 3 rfl) ?_
      refine lv_aload_n hx hb dX2_manyThere_5 rfl (lv_at hl 0 rfl) ?_
      refine lv_iload_n hx hb dX2_manyThere_6 rfl (lv_at hl 1 rfl) ?_
      refine z_callVi (As := [.int k]) (rest := [.int v_26]) (wr := [(h_on, .inl (cA.1 0, 30, .inl c_h_on))]) ⟨hx, hb, hml, hown, hts⟩ hK hE hT hP hD hS hA (d_H_manyOn l G cA h h_features h_featureNames h_steps h_turnedFeatures h_sixteenths h_keys h_keySteps h_lent h_rings h_on h_onMany h_doors h_wanted h_openers h_seconds h_turned h_roundMany h_roundDoors c_h_onMany k (by omega) hO_c_h_onMany) lk_RX2_113 ⟨rfl, rfl⟩ ⟨Nat.le_of_ble_eq_true rfl, Nat.le_of_ble_eq_true rfl⟩ 2 rfl rfl rfl [0, 2] [1] rfl rfl (by decide) rfl hl.1 rfl (lv_room (Nat.le_of_ble_eq_true rfl)) dX2_manyThere_7 ⟨Nat.le_of_ble_eq_true rfl, Nat.le_of_ble_eq_true rfl⟩ (fun r_31 u_32 H locs hw hP hD hS => ?_)
      have hP : va_P G vwCl [(h_on, .inl (cA.1 0, 30, .inl c_h_on)), (h, .inr (2, [.int h_features, .ref h_featureNames, .ref h_steps, .ref h_turnedFeatures, .ref h_sixteenths, .int h_keys, .ref h_keySteps, .int h_lent, .int h_rings, .ref h_on, .ref h_onMany, .int h_doors, .ref h_wanted, .ref h_openers, .ref h_seconds, .int h_turned, .int h_roundMany, .ref h_roundDoors])), (h_onMany, .inl (cA.1 0, 3, .inl c_h_onMany))] H := hP
      have hD : va_D A [(h_on, .inl (cA.1 0, 30, .inl c_h_on)), (h, .inr (2, [.int h_features, .ref h_featureNames, .ref h_steps, .ref h_turnedFeatures, .ref h_sixteenths, .int h_keys, .ref h_keySteps, .int h_lent, .int h_rings, .ref h_on, .ref h_onMany, .int h_doors, .ref h_wanted, .ref h_openers, .ref h_seconds, .int h_turned, .int h_roundMany, .ref h_roundDoors])), (h_onMany, .inl (cA.1 0, 3, .inl c_h_onMany))] := hD
      have hx_r_31 := hw
      refine lv_icmp_ge (tgt := 35) hx hb dX2_manyThere_10 (by decide) (fun c_33 => ?_) (fun c_33 => ?_)
      · have b_34 := z_s1 c_33
        refine lv_iload_n hx hb dX2_manyThere_35 rfl (lv_at hl 2 rfl) ?_
        exact hret _ _ _ _ _ _ () [1, 0, 2] hP hD hS rfl (by decide) dX2_manyThere_36 (by omega)
      · have b_35 := z_t2 c_33
        refine lv_aload_n hx hb dX2_manyThere_13 rfl (lv_at hl 0 rfl) ?_
        refine lv_aload_n hx hb dX2_manyThere_14 rfl (lv_at hl 0 rfl) ?_
        refine lv_iload_n hx hb dX2_manyThere_15 rfl (lv_at hl 1 rfl) ?_
        refine lv_iload_n hx hb dX2_manyThere_16 rfl (lv_at hl 3 rfl) ?_
        refine z_callVi (As := [.int k, .int v_26]) (rest := [.ref h]) (wr := []) ⟨hx, hb, hml, hown, hts⟩ hK hE hT hP hD hS hA (d_H_keyOn l G cA h h_features h_featureNames h_steps h_turnedFeatures h_sixteenths h_keys h_keySteps h_lent h_rings h_on h_onMany h_doors h_wanted h_openers h_seconds h_turned h_roundMany h_roundDoors c_h_on c_h_onMany k v_26 (by omega) hO_c_h_onMany) lk_RX2_116 ⟨rfl, rfl⟩ ⟨Nat.le_of_ble_eq_true rfl, Nat.le_of_ble_eq_true rfl⟩ 2 rfl rfl rfl [1, 0, 2] [] rfl rfl (by decide) rfl hl.1 rfl (lv_room (Nat.le_of_ble_eq_true rfl)) dX2_manyThere_17 ⟨Nat.le_of_ble_eq_true rfl, Nat.le_of_ble_eq_true rfl⟩ (fun r_36 u_37 H locs hw hP hD hS => ?_)
        have hP : va_P G vwCl [(h, .inr (2, [.int h_features, .ref h_featureNames, .ref h_steps, .ref h_turnedFeatures, .ref h_sixteenths, .int h_keys, .ref h_keySteps, .int h_lent, .int h_rings, .ref h_on, .ref h_onMany, .int h_doors, .ref h_wanted, .ref h_openers, .ref h_seconds, .int h_turned, .int h_roundMany, .ref h_roundDoors])), (h_on, .inl (cA.1 0, 30, .inl c_h_on)), (h_onMany, .inl (cA.1 0, 3, .inl c_h_onMany))] H := hP
        have hD : va_D A [(h, .inr (2, [.int h_features, .ref h_featureNames, .ref h_steps, .ref h_turnedFeatures, .ref h_sixteenths, .int h_keys, .ref h_keySteps, .int h_lent, .int h_rings, .ref h_on, .ref h_onMany, .int h_doors, .ref h_wanted, .ref h_openers, .ref h_seconds, .int h_turned, .int h_roundMany, .ref h_roundDoors])), (h_on, .inl (cA.1 0, 30, .inl c_h_on)), (h_onMany, .inl (cA.1 0, 3, .inl c_h_onMany))] := hD
        refine z_callVi (As := [.int r_36]) (rest := []) (wr := [(h_on, .inl (cA.1 0, 30, .inl c_h_on)), (h_onMany, .inl (cA.1 0, 3, .inl c_h_onMany))]) ⟨hx, hb, hml, hown, hts⟩ hK hE hT hP hD hS hA (d_H_isLent l G cA h h_features h_featureNames h_steps h_turnedFeatures h_sixteenths h_keys h_keySteps h_lent h_rings h_on h_onMany h_doors h_wanted h_openers h_seconds h_turned h_roundMany h_roundDoors r_36 (by omega)) lk_RX2_123 ⟨rfl, rfl⟩ ⟨Nat.le_of_ble_eq_true rfl, Nat.le_of_ble_eq_true rfl⟩ 2 rfl rfl rfl [0] [1, 2] rfl rfl (by decide) rfl hl.1 rfl (lv_room (Nat.le_of_ble_eq_true rfl)) dX2_manyThere_20 ⟨Nat.le_of_ble_eq_true rfl, Nat.le_of_ble_eq_true rfl⟩ (fun r_38 u_39 H locs hw hP hD hS => ?_)
        have hP : va_P G vwCl [(h_on, .inl (cA.1 0, 30, .inl c_h_on)), (h_onMany, .inl (cA.1 0, 3, .inl c_h_onMany)), (h, .inr (2, [.int h_features, .ref h_featureNames, .ref h_steps, .ref h_turnedFeatures, .ref h_sixteenths, .int h_keys, .ref h_keySteps, .int h_lent, .int h_rings, .ref h_on, .ref h_onMany, .int h_doors, .ref h_wanted, .ref h_openers, .ref h_seconds, .int h_turned, .int h_roundMany, .ref h_roundDoors]))] H := hP
        have hD : va_D A [(h_on, .inl (cA.1 0, 30, .inl c_h_on)), (h_onMany, .inl (cA.1 0, 3, .inl c_h_onMany)), (h, .inr (2, [.int h_features, .ref h_featureNames, .ref h_steps, .ref h_turnedFeatures, .ref h_sixteenths, .int h_keys, .ref h_keySteps, .int h_lent, .int h_rings, .ref h_on, .ref h_onMany, .int h_doors, .ref h_wanted, .ref h_openers, .ref h_seconds, .int h_turned, .int h_roundMany, .ref h_roundDoors]))] := hD
        have hz_r_38 := hw
        refine lv_if_ne (tgt := 29) hx hb dX2_manyThere_23 (by decide) (fun c_40 => ?_) (fun c_40 => ?_)
        · skip
          refine lv_iinc (v := (v_26 + 1)) (lv' := [(3, .int (v_26 + 1)), (0, .ref h), (1, .int k), (2, .int v_25)]) hx hb dX2_manyThere_29 hl (k := 3) rfl (z_ofi (by decide +kernel)) (by decide) rfl (fun ls hl => ?_)
          refine lv_goto (tgt := 4) hx hb dX2_manyThere_32 (by decide) ?_
          have hq9_k_42 : (v_26 + 1).toInt = v_26.toInt + 1 := z_addI (K := 1) (by decide +kernel) (by omega) (by omega)
          have hP := hP.sub (ws' := [(h, .inr (2, [.int h_features, .ref h_featureNames, .ref h_steps, .ref h_turnedFeatures, .ref h_sixteenths, .int h_keys, .ref h_keySteps, .int h_lent, .int h_rings, .ref h_on, .ref h_onMany, .int h_doors, .ref h_wanted, .ref h_openers, .ref h_seconds, .int h_turned, .int h_roundMany, .ref h_roundDoors])), (h_on, .inl (cA.1 0, 30, .inl c_h_on)), (h_onMany, .inl (cA.1 0, 3, .inl c_h_onMany))]) [2, 0, 1] rfl
          have hD := hD.sub (ws' := [(h, .inr (2, [.int h_features, .ref h_featureNames, .ref h_steps, .ref h_turnedFeatures, .ref h_sixteenths, .int h_keys, .ref h_keySteps, .int h_lent, .int h_rings, .ref h_on, .ref h_onMany, .int h_doors, .ref h_wanted, .ref h_openers, .ref h_seconds, .int h_turned, .int h_roundMany, .ref h_roundDoors])), (h_on, .inl (cA.1 0, 30, .inl c_h_on)), (h_onMany, .inl (cA.1 0, 3, .inl c_h_onMany))]) [2, 0, 1] (by decide) rfl
          exact ih_30 v_25 (v_26 + 1) H locs ls (z_up hmu_hlp_27 (by omega) trivial) (z_upc hi_28 (by omega) trivial) (by omega) hP hD hS (lv_sub hl [1, 2, 3, 0] rfl)
        · skip
          refine lv_iinc (v := (v_25 + 1)) (lv' := [(2, .int (v_25 + 1)), (0, .ref h), (1, .int k), (3, .int v_26)]) hx hb dX2_manyThere_26 hl (k := 2) rfl (z_ofi (by decide +kernel)) (by decide) rfl (fun ls hl => ?_)
          refine lv_iinc (v := (v_26 + 1)) (lv' := [(3, .int (v_26 + 1)), (2, .int (v_25 + 1)), (0, .ref h), (1, .int k)]) hx hb dX2_manyThere_29 hl (k := 3) rfl (z_ofi (by decide +kernel)) (by decide) rfl (fun ls hl => ?_)
          refine lv_goto (tgt := 4) hx hb dX2_manyThere_32 (by decide) ?_
          have hq9_k_44 : (v_25 + 1).toInt = v_25.toInt + 1 := z_addI (K := 1) (by decide +kernel) (by omega) (by omega)
          have hq9_k_45 : (v_26 + 1).toInt = v_26.toInt + 1 := z_addI (K := 1) (by decide +kernel) (by omega) (by omega)
          have hP := hP.sub (ws' := [(h, .inr (2, [.int h_features, .ref h_featureNames, .ref h_steps, .ref h_turnedFeatures, .ref h_sixteenths, .int h_keys, .ref h_keySteps, .int h_lent, .int h_rings, .ref h_on, .ref h_onMany, .int h_doors, .ref h_wanted, .ref h_openers, .ref h_seconds, .int h_turned, .int h_roundMany, .ref h_roundDoors])), (h_on, .inl (cA.1 0, 30, .inl c_h_on)), (h_onMany, .inl (cA.1 0, 3, .inl c_h_onMany))]) [2, 0, 1] rfl
          have hD := hD.sub (ws' := [(h, .inr (2, [.int h_features, .ref h_featureNames, .ref h_steps, .ref h_turnedFeatures, .ref h_sixteenths, .int h_keys, .ref h_keySteps, .int h_lent, .int h_rings, .ref h_on, .ref h_onMany, .int h_doors, .ref h_wanted, .ref h_openers, .ref h_seconds, .int h_turned, .int h_roundMany, .ref h_roundDoors])), (h_on, .inl (cA.1 0, 30, .inl c_h_on)), (h_onMany, .inl (cA.1 0, 3, .inl c_h_onMany))]) [2, 0, 1] (by decide) rfl
          exact ih_30 (v_25 + 1) (v_26 + 1) H locs ls (z_up hmu_hlp_27 (by omega) trivial) (z_upc hi_28 (by omega) trivial) (by omega) hP hD hS (lv_sub hl [2, 3, 1, 0] rfl)
  exact hlp_27 _ 0 0 _ _ _ (Nat.lt_succ_self _) (by first | decide +kernel | omega) (by first | decide +kernel | omega) hP hD hS (lv_sub hl [2, 3, 1, 0] rfl)
set_option maxHeartbeats 4000000 in
set_option maxRecDepth 100000 in
theorem d_H_keyThere (l : Launch) (G : va_G) (cA : zCA) (h : Nat) (h_features : Int32) (h_featureNames : Nat) (h_steps : Nat) (h_turnedFeatures : Nat) (h_sixteenths : Nat) (h_keys : Int32) (h_keySteps : Nat) (h_lent : Int32) (h_rings : Int32) (h_on : Nat) (h_onMany : Nat) (h_doors : Int32) (h_wanted : Nat) (h_openers : Nat) (h_seconds : Nat) (h_turned : Int32) (h_roundMany : Int32) (h_roundDoors : Nat) (c_h_on : Nat → Int32) (c_h_onMany : Nat → Int32) (x : Int32) (y : Int32) (hm_h_features : 0 ≤ h_features.toInt ∧ h_features.toInt ≤ 3) (hO_c_h_onMany : zOM c_h_onMany) : zCi l yX2_keyThere cX2_keyThere 6 (some .int) ({ frames := 3, cells := 0, slots := 0, locals := 64 }) G cA [.ref h, .int x, .int y] [(h, .inr (2, [.int h_features, .ref h_featureNames, .ref h_steps, .ref h_turnedFeatures, .ref h_sixteenths, .int h_keys, .ref h_keySteps, .int h_lent, .int h_rings, .ref h_on, .ref h_onMany, .int h_doors, .ref h_wanted, .ref h_openers, .ref h_seconds, .int h_turned, .int h_roundMany, .ref h_roundDoors])), (h_on, .inl (cA.1 0, 30, .inl c_h_on)), (h_onMany, .inl (cA.1 0, 3, .inl c_h_onMany))] (S := Unit) (fun (r : Int32) (u : Unit) => True) (fun (u : Unit) => [(h, .inr (2, [.int h_features, .ref h_featureNames, .ref h_steps, .ref h_turnedFeatures, .ref h_sixteenths, .int h_keys, .ref h_keySteps, .int h_lent, .int h_rings, .ref h_on, .ref h_onMany, .int h_doors, .ref h_wanted, .ref h_openers, .ref h_seconds, .int h_turned, .int h_roundMany, .ref h_roundDoors])), (h_on, .inl (cA.1 0, 30, .inl c_h_on)), (h_onMany, .inl (cA.1 0, 3, .inl c_h_onMany))]) 0 0 := by
  refine z_start2i (own := RX2) (by decide) (Nat.le_of_ble_eq_true rfl) rfl ?_
  intro p e s m args below meth c A ls Q hx hb hml hts hown hK hE hT hP hD hS hA hl hret
  have hl : lv_has ls 6 [(0, .ref h), (1, .int x), (2, .int y)] := hl
  refine lv_iconst (v := 0) hx hb dX2_keyThere_0 (by decide) ?_
  refine lv_istore_n (lv' := [(3, .int 0), (0, .ref h), (1, .int x), (2, .int y)]) hx hb dX2_keyThere_1 rfl hl (by decide) rfl (fun ls hl => ?_)
  refine lv_iconst (v := 0) hx hb dX2_keyThere_2 (by decide) ?_
  refine lv_istore (lv' := [(4, .int 0), (3, .int 0), (0, .ref h), (1, .int x), (2, .int y)]) hx hb dX2_keyThere_3 hl (by decide) rfl (fun ls hl => ?_)
  have hlp_31 : ∀ (n : Nat) (v_29 : Int32) (v_30 : Int32) (H : Heap) (locs : List Loc) (ls : Array Slot), (2147483647 - v_30.toInt).toNat < n → (0 ≤ v_30.toInt) → va_P G vwCl [(h, .inr (2, [.int h_features, .ref h_featureNames, .ref h_steps, .ref h_turnedFeatures, .ref h_sixteenths, .int h_keys, .ref h_keySteps, .int h_lent, .int h_rings, .ref h_on, .ref h_onMany, .int h_doors, .ref h_wanted, .ref h_openers, .ref h_seconds, .int h_turned, .int h_roundMany, .ref h_roundDoors])), (h_on, .inl (cA.1 0, 30, .inl c_h_on)), (h_onMany, .inl (cA.1 0, 3, .inl c_h_onMany))] H → va_D A [(h, .inr (2, [.int h_features, .ref h_featureNames, .ref h_steps, .ref h_turnedFeatures, .ref h_sixteenths, .int h_keys, .ref h_keySteps, .int h_lent, .int h_rings, .ref h_on, .ref h_onMany, .int h_doors, .ref h_wanted, .ref h_openers, .ref h_seconds, .int h_turned, .int h_roundMany, .ref h_roundDoors])), (h_on, .inl (cA.1 0, 30, .inl c_h_on)), (h_onMany, .inl (cA.1 0, 3, .inl c_h_onMany))] → va_S A s.heap H locs → lv_has ls 6 [(0, .ref h), (1, .int x), (2, .int y), (3, .int v_29), (4, .int v_30)] → W p l e ({ frames := 3, cells := 0, slots := 0, locals := 64 }) s m args below meth c H locs 0 0 Q (F0 m 5 ls []) := by
    intro n
    induction n with
    | zero =>
      intro v_29 v_30 H locs ls hmu_hlp_31 hi_32 hP hD hS hl
      exact absurd hmu_hlp_31 (Nat.not_lt_zero _)
    | succ n ih_33 =>
      intro v_29 v_30 H locs ls hmu_hlp_31 hi_32 hP hD hS hl
      refine lv_iload hx hb dX2_keyThere_5 (lv_at hl 4 rfl) ?_
      refine lv_aload_n hx hb dX2_keyThere_7 rfl (lv_at hl 0 rfl) ?_
      refine lv_iload_n hx hb dX2_keyThere_8 rfl (lv_at hl 1 rfl) ?_
      refine z_callVi (As := [.int x]) (rest := [.int v_30]) (wr := [(h_on, .inl (cA.1 0, 30, .inl c_h_on))]) ⟨hx, hb, hml, hown, hts⟩ hK hE hT hP hD hS hA (d_H_manyOn l G cA h h_features h_featureNames h_steps h_turnedFeatures h_sixteenths h_keys h_keySteps h_lent h_rings h_on h_onMany h_doors h_wanted h_openers h_seconds h_turned h_roundMany h_roundDoors c_h_onMany x (by omega) hO_c_h_onMany) lk_RX2_113 ⟨rfl, rfl⟩ ⟨Nat.le_of_ble_eq_true rfl, Nat.le_of_ble_eq_true rfl⟩ 2 rfl rfl rfl [0, 2] [1] rfl rfl (by decide) rfl hl.1 rfl (lv_room (Nat.le_of_ble_eq_true rfl)) dX2_keyThere_9 ⟨Nat.le_of_ble_eq_true rfl, Nat.le_of_ble_eq_true rfl⟩ (fun r_34 u_35 H locs hw hP hD hS => ?_)
      have hP : va_P G vwCl [(h_on, .inl (cA.1 0, 30, .inl c_h_on)), (h, .inr (2, [.int h_features, .ref h_featureNames, .ref h_steps, .ref h_turnedFeatures, .ref h_sixteenths, .int h_keys, .ref h_keySteps, .int h_lent, .int h_rings, .ref h_on, .ref h_onMany, .int h_doors, .ref h_wanted, .ref h_openers, .ref h_seconds, .int h_turned, .int h_roundMany, .ref h_roundDoors])), (h_onMany, .inl (cA.1 0, 3, .inl c_h_onMany))] H := hP
      have hD : va_D A [(h_on, .inl (cA.1 0, 30, .inl c_h_on)), (h, .inr (2, [.int h_features, .ref h_featureNames, .ref h_steps, .ref h_turnedFeatures, .ref h_sixteenths, .int h_keys, .ref h_keySteps, .int h_lent, .int h_rings, .ref h_on, .ref h_onMany, .int h_doors, .ref h_wanted, .ref h_openers, .ref h_seconds, .int h_turned, .int h_roundMany, .ref h_roundDoors])), (h_onMany, .inl (cA.1 0, 3, .inl c_h_onMany))] := hD
      have hx_r_34 := hw
      refine lv_icmp_ge (tgt := 53) hx hb dX2_keyThere_12 (by decide) (fun c_36 => ?_) (fun c_36 => ?_)
      · have b_37 := z_s1 c_36
        refine lv_iconst (v := (-1)) hx hb dX2_keyThere_53 (by decide) ?_
        exact hret _ _ _ _ _ _ () [1, 0, 2] hP hD hS rfl (by decide) dX2_keyThere_54 trivial
      · have b_38 := z_t2 c_36
        refine lv_aload_n hx hb dX2_keyThere_15 rfl (lv_at hl 0 rfl) ?_
        refine lv_iload_n hx hb dX2_keyThere_16 rfl (lv_at hl 1 rfl) ?_
        refine lv_iload hx hb dX2_keyThere_17 (lv_at hl 4 rfl) ?_
        refine z_callVi (As := [.int x, .int v_30]) (rest := []) (wr := []) ⟨hx, hb, hml, hown, hts⟩ hK hE hT hP hD hS hA (d_H_keyOn l G cA h h_features h_featureNames h_steps h_turnedFeatures h_sixteenths h_keys h_keySteps h_lent h_rings h_on h_onMany h_doors h_wanted h_openers h_seconds h_turned h_roundMany h_roundDoors c_h_on c_h_onMany x v_30 (by omega) hO_c_h_onMany) lk_RX2_116 ⟨rfl, rfl⟩ ⟨Nat.le_of_ble_eq_true rfl, Nat.le_of_ble_eq_true rfl⟩ 2 rfl rfl rfl [1, 0, 2] [] rfl rfl (by decide) rfl hl.1 rfl (lv_room (Nat.le_of_ble_eq_true rfl)) dX2_keyThere_19 ⟨Nat.le_of_ble_eq_true rfl, Nat.le_of_ble_eq_true rfl⟩ (fun r_39 u_40 H locs hw hP hD hS => ?_)
        have hP : va_P G vwCl [(h, .inr (2, [.int h_features, .ref h_featureNames, .ref h_steps, .ref h_turnedFeatures, .ref h_sixteenths, .int h_keys, .ref h_keySteps, .int h_lent, .int h_rings, .ref h_on, .ref h_onMany, .int h_doors, .ref h_wanted, .ref h_openers, .ref h_seconds, .int h_turned, .int h_roundMany, .ref h_roundDoors])), (h_on, .inl (cA.1 0, 30, .inl c_h_on)), (h_onMany, .inl (cA.1 0, 3, .inl c_h_onMany))] H := hP
        have hD : va_D A [(h, .inr (2, [.int h_features, .ref h_featureNames, .ref h_steps, .ref h_turnedFeatures, .ref h_sixteenths, .int h_keys, .ref h_keySteps, .int h_lent, .int h_rings, .ref h_on, .ref h_onMany, .int h_doors, .ref h_wanted, .ref h_openers, .ref h_seconds, .int h_turned, .int h_roundMany, .ref h_roundDoors])), (h_on, .inl (cA.1 0, 30, .inl c_h_on)), (h_onMany, .inl (cA.1 0, 3, .inl c_h_onMany))] := hD
        refine lv_istore (lv' := [(5, .int r_39), (0, .ref h), (1, .int x), (2, .int y), (3, .int v_29), (4, .int v_30)]) hx hb dX2_keyThere_22 hl (by decide) rfl (fun ls hl => ?_)
        refine lv_aload_n hx hb dX2_keyThere_24 rfl (lv_at hl 1 rfl) ?_
        refine lv_iload hx hb dX2_keyThere_25 (lv_at hl 0 rfl) ?_
        refine z_callVi (As := [.int r_39]) (rest := []) (wr := [(h_on, .inl (cA.1 0, 30, .inl c_h_on)), (h_onMany, .inl (cA.1 0, 3, .inl c_h_onMany))]) ⟨hx, hb, hml, hown, hts⟩ hK hE hT hP hD hS hA (d_H_isLent l G cA h h_features h_featureNames h_steps h_turnedFeatures h_sixteenths h_keys h_keySteps h_lent h_rings h_on h_onMany h_doors h_wanted h_openers h_seconds h_turned h_roundMany h_roundDoors r_39 (by omega)) lk_RX2_123 ⟨rfl, rfl⟩ ⟨Nat.le_of_ble_eq_true rfl, Nat.le_of_ble_eq_true rfl⟩ 2 rfl rfl rfl [0] [1, 2] rfl rfl (by decide) rfl hl.1 rfl (lv_room (Nat.le_of_ble_eq_true rfl)) dX2_keyThere_27 ⟨Nat.le_of_ble_eq_true rfl, Nat.le_of_ble_eq_true rfl⟩ (fun r_41 u_42 H locs hw hP hD hS => ?_)
        have hP : va_P G vwCl [(h_on, .inl (cA.1 0, 30, .inl c_h_on)), (h_onMany, .inl (cA.1 0, 3, .inl c_h_onMany)), (h, .inr (2, [.int h_features, .ref h_featureNames, .ref h_steps, .ref h_turnedFeatures, .ref h_sixteenths, .int h_keys, .ref h_keySteps, .int h_lent, .int h_rings, .ref h_on, .ref h_onMany, .int h_doors, .ref h_wanted, .ref h_openers, .ref h_seconds, .int h_turned, .int h_roundMany, .ref h_roundDoors]))] H := hP
        have hD : va_D A [(h_on, .inl (cA.1 0, 30, .inl c_h_on)), (h_onMany, .inl (cA.1 0, 3, .inl c_h_onMany)), (h, .inr (2, [.int h_features, .ref h_featureNames, .ref h_steps, .ref h_turnedFeatures, .ref h_sixteenths, .int h_keys, .ref h_keySteps, .int h_lent, .int h_rings, .ref h_on, .ref h_onMany, .int h_doors, .ref h_wanted, .ref h_openers, .ref h_seconds, .int h_turned, .int h_roundMany, .ref h_roundDoors]))] := hD
        have hz_r_41 := hw
        refine lv_if_eq (tgt := 36) hx hb dX2_keyThere_30 (by decide) (fun c_43 => ?_) (fun c_43 => ?_)
        · skip
          refine lv_iload_n hx hb dX2_keyThere_36 rfl (lv_at hl 4 rfl) ?_
          refine lv_iload_n hx hb dX2_keyThere_37 rfl (lv_at hl 3 rfl) ?_
          refine lv_icmp_ne (tgt := 44) hx hb dX2_keyThere_38 (by decide) (fun c_45 => ?_) (fun c_45 => ?_)
          · skip
            refine lv_iinc (v := (v_29 + 1)) (lv' := [(3, .int (v_29 + 1)), (5, .int r_39), (0, .ref h), (1, .int x), (2, .int y), (4, .int v_30)]) hx hb dX2_keyThere_44 hl (k := 4) rfl (z_ofi (by decide +kernel)) (by decide) rfl (fun ls hl => ?_)
            refine lv_iinc (v := (v_30 + 1)) (lv' := [(4, .int (v_30 + 1)), (3, .int (v_29 + 1)), (5, .int r_39), (0, .ref h), (1, .int x), (2, .int y)]) hx hb dX2_keyThere_47 hl (k := 5) rfl (z_ofi (by decide +kernel)) (by decide) rfl (fun ls hl => ?_)
            refine lv_goto (tgt := 5) hx hb dX2_keyThere_50 (by decide) ?_
            have hP := hP.sub (ws' := [(h, .inr (2, [.int h_features, .ref h_featureNames, .ref h_steps, .ref h_turnedFeatures, .ref h_sixteenths, .int h_keys, .ref h_keySteps, .int h_lent, .int h_rings, .ref h_on, .ref h_onMany, .int h_doors, .ref h_wanted, .ref h_openers, .ref h_seconds, .int h_turned, .int h_roundMany, .ref h_roundDoors])), (h_on, .inl (cA.1 0, 30, .inl c_h_on)), (h_onMany, .inl (cA.1 0, 3, .inl c_h_onMany))]) [2, 0, 1] rfl
            have hD := hD.sub (ws' := [(h, .inr (2, [.int h_features, .ref h_featureNames, .ref h_steps, .ref h_turnedFeatures, .ref h_sixteenths, .int h_keys, .ref h_keySteps, .int h_lent, .int h_rings, .ref h_on, .ref h_onMany, .int h_doors, .ref h_wanted, .ref h_openers, .ref h_seconds, .int h_turned, .int h_roundMany, .ref h_roundDoors])), (h_on, .inl (cA.1 0, 30, .inl c_h_on)), (h_onMany, .inl (cA.1 0, 3, .inl c_h_onMany))]) [2, 0, 1] (by decide) rfl
            exact ih_33 (v_29 + 1) (v_30 + 1) H locs ls (z_up hmu_hlp_31 (by omega) trivial) (z_upc hi_32 (by omega) trivial) hP hD hS (lv_sub hl [3, 4, 5, 1, 0] rfl)
          · skip
            refine lv_iload hx hb dX2_keyThere_41 (lv_at hl 0 rfl) ?_
            exact hret _ _ _ _ _ _ () [2, 0, 1] hP hD hS rfl (by decide) dX2_keyThere_43 trivial
        · skip
          refine lv_goto (tgt := 47) hx hb dX2_keyThere_33 (by decide) ?_
          refine lv_iinc (v := (v_30 + 1)) (lv' := [(4, .int (v_30 + 1)), (5, .int r_39), (0, .ref h), (1, .int x), (2, .int y), (3, .int v_29)]) hx hb dX2_keyThere_47 hl (k := 5) rfl (z_ofi (by decide +kernel)) (by decide) rfl (fun ls hl => ?_)
          refine lv_goto (tgt := 5) hx hb dX2_keyThere_50 (by decide) ?_
          have hP := hP.sub (ws' := [(h, .inr (2, [.int h_features, .ref h_featureNames, .ref h_steps, .ref h_turnedFeatures, .ref h_sixteenths, .int h_keys, .ref h_keySteps, .int h_lent, .int h_rings, .ref h_on, .ref h_onMany, .int h_doors, .ref h_wanted, .ref h_openers, .ref h_seconds, .int h_turned, .int h_roundMany, .ref h_roundDoors])), (h_on, .inl (cA.1 0, 30, .inl c_h_on)), (h_onMany, .inl (cA.1 0, 3, .inl c_h_onMany))]) [2, 0, 1] rfl
          have hD := hD.sub (ws' := [(h, .inr (2, [.int h_features, .ref h_featureNames, .ref h_steps, .ref h_turnedFeatures, .ref h_sixteenths, .int h_keys, .ref h_keySteps, .int h_lent, .int h_rings, .ref h_on, .ref h_onMany, .int h_doors, .ref h_wanted, .ref h_openers, .ref h_seconds, .int h_turned, .int h_roundMany, .ref h_roundDoors])), (h_on, .inl (cA.1 0, 30, .inl c_h_on)), (h_onMany, .inl (cA.1 0, 3, .inl c_h_onMany))]) [2, 0, 1] (by decide) rfl
          exact ih_33 v_29 (v_30 + 1) H locs ls (z_up hmu_hlp_31 (by omega) trivial) (z_upc hi_32 (by omega) trivial) hP hD hS (lv_sub hl [2, 3, 4, 5, 0] rfl)
  exact hlp_31 _ 0 0 _ _ _ (Nat.lt_succ_self _) (by first | decide +kernel | omega) hP hD hS (lv_sub hl [2, 3, 4, 1, 0] rfl)
set_option maxHeartbeats 4000000 in
set_option maxRecDepth 100000 in
theorem d_H_isOnlyOpener (l : Launch) (G : va_G) (cA : zCA) (h : Nat) (h_features : Int32) (h_featureNames : Nat) (h_steps : Nat) (h_turnedFeatures : Nat) (h_sixteenths : Nat) (h_keys : Int32) (h_keySteps : Nat) (h_lent : Int32) (h_rings : Int32) (h_on : Nat) (h_onMany : Nat) (h_doors : Int32) (h_wanted : Nat) (h_openers : Nat) (h_seconds : Nat) (h_turned : Int32) (h_roundMany : Int32) (h_roundDoors : Nat) (c_h_on : Nat → Int32) (c_h_onMany : Nat → Int32) (c_h_openers : Nat → Int32) (x : Int32) (y : Int32) (hm_h_features : 0 ≤ h_features.toInt ∧ h_features.toInt ≤ 3) (hO_c_h_onMany : zOM c_h_onMany) : zCi l yX2_isOnlyOpener cX2_isOnlyOpener 6 (some .boolean) ({ frames := 5, cells := 0, slots := 0, locals := 109 }) G cA [.ref h, .int x, .int y] [(h, .inr (2, [.int h_features, .ref h_featureNames, .ref h_steps, .ref h_turnedFeatures, .ref h_sixteenths, .int h_keys, .ref h_keySteps, .int h_lent, .int h_rings, .ref h_on, .ref h_onMany, .int h_doors, .ref h_wanted, .ref h_openers, .ref h_seconds, .int h_turned, .int h_roundMany, .ref h_roundDoors])), (h_on, .inl (cA.1 0, 30, .inl c_h_on)), (h_onMany, .inl (cA.1 0, 3, .inl c_h_onMany)), (h_openers, .inl (cA.1 0, 5, .inl c_h_openers))] (S := Unit) (fun (r : Int32) (u : Unit) => r = 0 ∨ r = 1) (fun (u : Unit) => [(h, .inr (2, [.int h_features, .ref h_featureNames, .ref h_steps, .ref h_turnedFeatures, .ref h_sixteenths, .int h_keys, .ref h_keySteps, .int h_lent, .int h_rings, .ref h_on, .ref h_onMany, .int h_doors, .ref h_wanted, .ref h_openers, .ref h_seconds, .int h_turned, .int h_roundMany, .ref h_roundDoors])), (h_on, .inl (cA.1 0, 30, .inl c_h_on)), (h_onMany, .inl (cA.1 0, 3, .inl c_h_onMany)), (h_openers, .inl (cA.1 0, 5, .inl c_h_openers))]) 0 0 := by
  refine z_start2z (own := RX2) (by decide) (Nat.le_of_ble_eq_true rfl) rfl ?_
  intro p e s m args below meth c A ls Q hx hb hml hts hown hK hE hT hP hD hS hA hl hret
  have hl : lv_has ls 6 [(0, .ref h), (1, .int x), (2, .int y)] := hl
  refine lv_aload_n hx hb dX2_isOnlyOpener_0 rfl (lv_at hl 0 rfl) ?_
  refine lv_iload_n hx hb dX2_isOnlyOpener_1 rfl (lv_at hl 1 rfl) ?_
  refine z_callVi (As := [.int x]) (rest := []) (wr := [(h_openers, .inl (cA.1 0, 5, .inl c_h_openers))]) ⟨hx, hb, hml, hown, hts⟩ hK hE hT hP hD hS hA (d_H_ringOf l G cA h h_features h_featureNames h_steps h_turnedFeatures h_sixteenths h_keys h_keySteps h_lent h_rings h_on h_onMany h_doors h_wanted h_openers h_seconds h_turned h_roundMany h_roundDoors c_h_on c_h_onMany x (by omega) hO_c_h_onMany) lk_RX2_130 ⟨rfl, rfl⟩ ⟨Nat.le_of_ble_eq_true rfl, Nat.le_of_ble_eq_true rfl⟩ 2 rfl rfl rfl [0, 1, 2] [3] rfl rfl (by decide) rfl hl.1 rfl (lv_room (Nat.le_of_ble_eq_true rfl)) dX2_isOnlyOpener_2 ⟨Nat.le_of_ble_eq_true rfl, Nat.le_of_ble_eq_true rfl⟩ (fun r_1 u_2 H locs hw hP hD hS => ?_)
  have hP : va_P G vwCl [(h_openers, .inl (cA.1 0, 5, .inl c_h_openers)), (h, .inr (2, [.int h_features, .ref h_featureNames, .ref h_steps, .ref h_turnedFeatures, .ref h_sixteenths, .int h_keys, .ref h_keySteps, .int h_lent, .int h_rings, .ref h_on, .ref h_onMany, .int h_doors, .ref h_wanted, .ref h_openers, .ref h_seconds, .int h_turned, .int h_roundMany, .ref h_roundDoors])), (h_on, .inl (cA.1 0, 30, .inl c_h_on)), (h_onMany, .inl (cA.1 0, 3, .inl c_h_onMany))] H := hP
  have hD : va_D A [(h_openers, .inl (cA.1 0, 5, .inl c_h_openers)), (h, .inr (2, [.int h_features, .ref h_featureNames, .ref h_steps, .ref h_turnedFeatures, .ref h_sixteenths, .int h_keys, .ref h_keySteps, .int h_lent, .int h_rings, .ref h_on, .ref h_onMany, .int h_doors, .ref h_wanted, .ref h_openers, .ref h_seconds, .int h_turned, .int h_roundMany, .ref h_roundDoors])), (h_on, .inl (cA.1 0, 30, .inl c_h_on)), (h_onMany, .inl (cA.1 0, 3, .inl c_h_onMany))] := hD
  refine lv_istore_n (lv' := [(3, .int r_1), (0, .ref h), (1, .int x), (2, .int y)]) hx hb dX2_isOnlyOpener_5 rfl hl (by decide) rfl (fun ls hl => ?_)
  refine lv_iload_n hx hb dX2_isOnlyOpener_6 rfl (lv_at hl 0 rfl) ?_
  refine lv_iconst (v := (-1)) hx hb dX2_isOnlyOpener_7 (by decide) ?_
  refine lv_icmp_eq (tgt := 28) hx hb dX2_isOnlyOpener_8 (by decide) (fun c_3 => ?_) (fun c_3 => ?_)
  · skip
    refine lv_iconst (v := 0) hx hb dX2_isOnlyOpener_28 (by decide) ?_
    exact hret _ _ _ _ _ _ () [1, 2, 3, 0] hP hD hS rfl (by decide) dX2_isOnlyOpener_29 (Or.inl rfl) (Or.inl rfl)
  · skip
    refine lv_aload_n hx hb dX2_isOnlyOpener_11 rfl (lv_at hl 1 rfl) ?_
    refine lv_iload_n hx hb dX2_isOnlyOpener_12 rfl (lv_at hl 2 rfl) ?_
    refine z_callVi (As := [.int x]) (rest := []) (wr := [(h_openers, .inl (cA.1 0, 5, .inl c_h_openers)), (h_on, .inl (cA.1 0, 30, .inl c_h_on)), (h_onMany, .inl (cA.1 0, 3, .inl c_h_onMany))]) ⟨hx, hb, hml, hown, hts⟩ hK hE hT hP hD hS hA (d_H_isLent l G cA h h_features h_featureNames h_steps h_turnedFeatures h_sixteenths h_keys h_keySteps h_lent h_rings h_on h_onMany h_doors h_wanted h_openers h_seconds h_turned h_roundMany h_roundDoors x (by omega)) lk_RX2_123 ⟨rfl, rfl⟩ ⟨Nat.le_of_ble_eq_true rfl, Nat.le_of_ble_eq_true rfl⟩ 2 rfl rfl rfl [1] [0, 2, 3] rfl rfl (by decide) rfl hl.1 rfl (lv_room (Nat.le_of_ble_eq_true rfl)) dX2_isOnlyOpener_13 ⟨Nat.le_of_ble_eq_true rfl, Nat.le_of_ble_eq_true rfl⟩ (fun r_6 u_7 H locs hw hP hD hS => ?_)
    have hP : va_P G vwCl [(h_openers, .inl (cA.1 0, 5, .inl c_h_openers)), (h_on, .inl (cA.1 0, 30, .inl c_h_on)), (h_onMany, .inl (cA.1 0, 3, .inl c_h_onMany)), (h, .inr (2, [.int h_features, .ref h_featureNames, .ref h_steps, .ref h_turnedFeatures, .ref h_sixteenths, .int h_keys, .ref h_keySteps, .int h_lent, .int h_rings, .ref h_on, .ref h_onMany, .int h_doors, .ref h_wanted, .ref h_openers, .ref h_seconds, .int h_turned, .int h_roundMany, .ref h_roundDoors]))] H := hP
    have hD : va_D A [(h_openers, .inl (cA.1 0, 5, .inl c_h_openers)), (h_on, .inl (cA.1 0, 30, .inl c_h_on)), (h_onMany, .inl (cA.1 0, 3, .inl c_h_onMany)), (h, .inr (2, [.int h_features, .ref h_featureNames, .ref h_steps, .ref h_turnedFeatures, .ref h_sixteenths, .int h_keys, .ref h_keySteps, .int h_lent, .int h_rings, .ref h_on, .ref h_onMany, .int h_doors, .ref h_wanted, .ref h_openers, .ref h_seconds, .int h_turned, .int h_roundMany, .ref h_roundDoors]))] := hD
    have hz_r_6 := hw
    refine lv_if_ne (tgt := 28) hx hb dX2_isOnlyOpener_16 (by decide) (fun c_8 => ?_) (fun c_8 => ?_)
    · skip
      refine lv_iconst (v := 0) hx hb dX2_isOnlyOpener_28 (by decide) ?_
      exact hret _ _ _ _ _ _ () [3, 1, 2, 0] hP hD hS rfl (by decide) dX2_isOnlyOpener_29 (Or.inl rfl) (Or.inl rfl)
    · skip
      refine lv_aload_n hx hb dX2_isOnlyOpener_19 rfl (lv_at hl 1 rfl) ?_
      refine lv_iload_n hx hb dX2_isOnlyOpener_20 rfl (lv_at hl 2 rfl) ?_
      refine lv_iload_n hx hb dX2_isOnlyOpener_21 rfl (lv_at hl 3 rfl) ?_
      refine z_callVi (As := [.int x, .int y]) (rest := []) (wr := [(h_on, .inl (cA.1 0, 30, .inl c_h_on)), (h_onMany, .inl (cA.1 0, 3, .inl c_h_onMany))]) ⟨hx, hb, hml, hown, hts⟩ hK hE hT hP hD hS hA (d_H_unlocks l G cA h h_features h_featureNames h_steps h_turnedFeatures h_sixteenths h_keys h_keySteps h_lent h_rings h_on h_onMany h_doors h_wanted h_openers h_seconds h_turned h_roundMany h_roundDoors c_h_openers x y (by omega)) lk_RX2_133 ⟨rfl, rfl⟩ ⟨Nat.le_of_ble_eq_true rfl, Nat.le_of_ble_eq_true rfl⟩ 2 rfl rfl rfl [3, 0] [1, 2] rfl rfl (by decide) rfl hl.1 rfl (lv_room (Nat.le_of_ble_eq_true rfl)) dX2_isOnlyOpener_22 ⟨Nat.le_of_ble_eq_true rfl, Nat.le_of_ble_eq_true rfl⟩ (fun r_11 u_12 H locs hw hP hD hS => ?_)
      have hP : va_P G vwCl [(h_on, .inl (cA.1 0, 30, .inl c_h_on)), (h_onMany, .inl (cA.1 0, 3, .inl c_h_onMany)), (h, .inr (2, [.int h_features, .ref h_featureNames, .ref h_steps, .ref h_turnedFeatures, .ref h_sixteenths, .int h_keys, .ref h_keySteps, .int h_lent, .int h_rings, .ref h_on, .ref h_onMany, .int h_doors, .ref h_wanted, .ref h_openers, .ref h_seconds, .int h_turned, .int h_roundMany, .ref h_roundDoors])), (h_openers, .inl (cA.1 0, 5, .inl c_h_openers))] H := hP
      have hD : va_D A [(h_on, .inl (cA.1 0, 30, .inl c_h_on)), (h_onMany, .inl (cA.1 0, 3, .inl c_h_onMany)), (h, .inr (2, [.int h_features, .ref h_featureNames, .ref h_steps, .ref h_turnedFeatures, .ref h_sixteenths, .int h_keys, .ref h_keySteps, .int h_lent, .int h_rings, .ref h_on, .ref h_onMany, .int h_doors, .ref h_wanted, .ref h_openers, .ref h_seconds, .int h_turned, .int h_roundMany, .ref h_roundDoors])), (h_openers, .inl (cA.1 0, 5, .inl c_h_openers))] := hD
      have hz_r_11 := hw
      refine lv_if_ne (tgt := 30) hx hb dX2_isOnlyOpener_25 (by decide) (fun c_13 => ?_) (fun c_13 => ?_)
      · skip
        refine lv_iconst (v := 0) hx hb dX2_isOnlyOpener_30 (by decide) ?_
        refine lv_istore (lv' := [(4, .int 0), (3, .int r_1), (0, .ref h), (1, .int x), (2, .int y)]) hx hb dX2_isOnlyOpener_31 hl (by decide) rfl (fun ls hl => ?_)
        have hlp_55 : ∀ (n : Nat) (v_54 : Int32) (H : Heap) (locs : List Loc) (ls : Array Slot), (2147483647 - v_54.toInt).toNat < n → (0 ≤ v_54.toInt) → va_P G vwCl [(h_on, .inl (cA.1 0, 30, .inl c_h_on)), (h_onMany, .inl (cA.1 0, 3, .inl c_h_onMany)), (h, .inr (2, [.int h_features, .ref h_featureNames, .ref h_steps, .ref h_turnedFeatures, .ref h_sixteenths, .int h_keys, .ref h_keySteps, .int h_lent, .int h_rings, .ref h_on, .ref h_onMany, .int h_doors, .ref h_wanted, .ref h_openers, .ref h_seconds, .int h_turned, .int h_roundMany, .ref h_roundDoors])), (h_openers, .inl (cA.1 0, 5, .inl c_h_openers))] H → va_D A [(h_on, .inl (cA.1 0, 30, .inl c_h_on)), (h_onMany, .inl (cA.1 0, 3, .inl c_h_onMany)), (h, .inr (2, [.int h_features, .ref h_featureNames, .ref h_steps, .ref h_turnedFeatures, .ref h_sixteenths, .int h_keys, .ref h_keySteps, .int h_lent, .int h_rings, .ref h_on, .ref h_onMany, .int h_doors, .ref h_wanted, .ref h_openers, .ref h_seconds, .int h_turned, .int h_roundMany, .ref h_roundDoors])), (h_openers, .inl (cA.1 0, 5, .inl c_h_openers))] → va_S A s.heap H locs → lv_has ls 6 [(0, .ref h), (1, .int x), (2, .int y), (3, .int r_1), (4, .int v_54)] → W p l e ({ frames := 5, cells := 0, slots := 0, locals := 109 }) s m args below meth c H locs 0 0 Q (F0 m 33 ls []) := by
          intro n
          induction n with
          | zero =>
            intro v_54 H locs ls hmu_hlp_55 hi_56 hP hD hS hl
            exact absurd hmu_hlp_55 (Nat.not_lt_zero _)
          | succ n ih_57 =>
            intro v_54 H locs ls hmu_hlp_55 hi_56 hP hD hS hl
            refine lv_iload hx hb dX2_isOnlyOpener_33 (lv_at hl 4 rfl) ?_
            refine lv_aload_n hx hb dX2_isOnlyOpener_35 rfl (lv_at hl 0 rfl) ?_
            refine lv_iload_n hx hb dX2_isOnlyOpener_36 rfl (lv_at hl 3 rfl) ?_
            refine z_callVi (As := [.int r_1]) (rest := [.int v_54]) (wr := [(h_on, .inl (cA.1 0, 30, .inl c_h_on)), (h_openers, .inl (cA.1 0, 5, .inl c_h_openers))]) ⟨hx, hb, hml, hown, hts⟩ hK hE hT hP hD hS hA (d_H_manyOn l G cA h h_features h_featureNames h_steps h_turnedFeatures h_sixteenths h_keys h_keySteps h_lent h_rings h_on h_onMany h_doors h_wanted h_openers h_seconds h_turned h_roundMany h_roundDoors c_h_onMany r_1 (by omega) hO_c_h_onMany) lk_RX2_113 ⟨rfl, rfl⟩ ⟨Nat.le_of_ble_eq_true rfl, Nat.le_of_ble_eq_true rfl⟩ 2 rfl rfl rfl [2, 1] [0, 3] rfl rfl (by decide) rfl hl.1 rfl (lv_room (Nat.le_of_ble_eq_true rfl)) dX2_isOnlyOpener_37 ⟨Nat.le_of_ble_eq_true rfl, Nat.le_of_ble_eq_true rfl⟩ (fun r_58 u_59 H locs hw hP hD hS => ?_)
            have hP : va_P G vwCl [(h_on, .inl (cA.1 0, 30, .inl c_h_on)), (h_openers, .inl (cA.1 0, 5, .inl c_h_openers)), (h, .inr (2, [.int h_features, .ref h_featureNames, .ref h_steps, .ref h_turnedFeatures, .ref h_sixteenths, .int h_keys, .ref h_keySteps, .int h_lent, .int h_rings, .ref h_on, .ref h_onMany, .int h_doors, .ref h_wanted, .ref h_openers, .ref h_seconds, .int h_turned, .int h_roundMany, .ref h_roundDoors])), (h_onMany, .inl (cA.1 0, 3, .inl c_h_onMany))] H := hP
            have hD : va_D A [(h_on, .inl (cA.1 0, 30, .inl c_h_on)), (h_openers, .inl (cA.1 0, 5, .inl c_h_openers)), (h, .inr (2, [.int h_features, .ref h_featureNames, .ref h_steps, .ref h_turnedFeatures, .ref h_sixteenths, .int h_keys, .ref h_keySteps, .int h_lent, .int h_rings, .ref h_on, .ref h_onMany, .int h_doors, .ref h_wanted, .ref h_openers, .ref h_seconds, .int h_turned, .int h_roundMany, .ref h_roundDoors])), (h_onMany, .inl (cA.1 0, 3, .inl c_h_onMany))] := hD
            have hx_r_58 := hw
            refine lv_icmp_ge (tgt := 85) hx hb dX2_isOnlyOpener_40 (by decide) (fun c_60 => ?_) (fun c_60 => ?_)
            · have b_61 := z_s1 c_60
              refine lv_iconst (v := 1) hx hb dX2_isOnlyOpener_85 (by decide) ?_
              exact hret _ _ _ _ _ _ () [2, 0, 3, 1] hP hD hS rfl (by decide) dX2_isOnlyOpener_86 (Or.inr rfl) (Or.inr rfl)
            · have b_62 := z_t2 c_60
              refine lv_aload_n hx hb dX2_isOnlyOpener_43 rfl (lv_at hl 0 rfl) ?_
              refine lv_iload_n hx hb dX2_isOnlyOpener_44 rfl (lv_at hl 3 rfl) ?_
              refine lv_iload hx hb dX2_isOnlyOpener_45 (lv_at hl 4 rfl) ?_
              refine z_callVi (As := [.int r_1, .int v_54]) (rest := []) (wr := [(h_openers, .inl (cA.1 0, 5, .inl c_h_openers))]) ⟨hx, hb, hml, hown, hts⟩ hK hE hT hP hD hS hA (d_H_keyOn l G cA h h_features h_featureNames h_steps h_turnedFeatures h_sixteenths h_keys h_keySteps h_lent h_rings h_on h_onMany h_doors h_wanted h_openers h_seconds h_turned h_roundMany h_roundDoors c_h_on c_h_onMany r_1 v_54 (by omega) hO_c_h_onMany) lk_RX2_116 ⟨rfl, rfl⟩ ⟨Nat.le_of_ble_eq_true rfl, Nat.le_of_ble_eq_true rfl⟩ 2 rfl rfl rfl [2, 0, 3] [1] rfl rfl (by decide) rfl hl.1 rfl (lv_room (Nat.le_of_ble_eq_true rfl)) dX2_isOnlyOpener_47 ⟨Nat.le_of_ble_eq_true rfl, Nat.le_of_ble_eq_true rfl⟩ (fun r_63 u_64 H locs hw hP hD hS => ?_)
              have hP : va_P G vwCl [(h_openers, .inl (cA.1 0, 5, .inl c_h_openers)), (h, .inr (2, [.int h_features, .ref h_featureNames, .ref h_steps, .ref h_turnedFeatures, .ref h_sixteenths, .int h_keys, .ref h_keySteps, .int h_lent, .int h_rings, .ref h_on, .ref h_onMany, .int h_doors, .ref h_wanted, .ref h_openers, .ref h_seconds, .int h_turned, .int h_roundMany, .ref h_roundDoors])), (h_on, .inl (cA.1 0, 30, .inl c_h_on)), (h_onMany, .inl (cA.1 0, 3, .inl c_h_onMany))] H := hP
              have hD : va_D A [(h_openers, .inl (cA.1 0, 5, .inl c_h_openers)), (h, .inr (2, [.int h_features, .ref h_featureNames, .ref h_steps, .ref h_turnedFeatures, .ref h_sixteenths, .int h_keys, .ref h_keySteps, .int h_lent, .int h_rings, .ref h_on, .ref h_onMany, .int h_doors, .ref h_wanted, .ref h_openers, .ref h_seconds, .int h_turned, .int h_roundMany, .ref h_roundDoors])), (h_on, .inl (cA.1 0, 30, .inl c_h_on)), (h_onMany, .inl (cA.1 0, 3, .inl c_h_onMany))] := hD
              refine lv_istore (lv' := [(5, .int r_63), (0, .ref h), (1, .int x), (2, .int y), (3, .int r_1), (4, .int v_54)]) hx hb dX2_isOnlyOpener_50 hl (by decide) rfl (fun ls hl => ?_)
              refine lv_iload hx hb dX2_isOnlyOpener_52 (lv_at hl 0 rfl) ?_
              refine lv_iload_n hx hb dX2_isOnlyOpener_54 rfl (lv_at hl 2 rfl) ?_
              refine lv_icmp_eq (tgt := 79) hx hb dX2_isOnlyOpener_55 (by decide) (fun c_65 => ?_) (fun c_65 => ?_)
              · skip
                refine lv_iinc (v := (v_54 + 1)) (lv' := [(4, .int (v_54 + 1)), (5, .int r_63), (0, .ref h), (1, .int x), (2, .int y), (3, .int r_1)]) hx hb dX2_isOnlyOpener_79 hl (k := 5) rfl (z_ofi (by decide +kernel)) (by decide) rfl (fun ls hl => ?_)
                refine lv_goto (tgt := 33) hx hb dX2_isOnlyOpener_82 (by decide) ?_
                have hP := hP.sub (ws' := [(h_on, .inl (cA.1 0, 30, .inl c_h_on)), (h_onMany, .inl (cA.1 0, 3, .inl c_h_onMany)), (h, .inr (2, [.int h_features, .ref h_featureNames, .ref h_steps, .ref h_turnedFeatures, .ref h_sixteenths, .int h_keys, .ref h_keySteps, .int h_lent, .int h_rings, .ref h_on, .ref h_onMany, .int h_doors, .ref h_wanted, .ref h_openers, .ref h_seconds, .int h_turned, .int h_roundMany, .ref h_roundDoors])), (h_openers, .inl (cA.1 0, 5, .inl c_h_openers))]) [2, 3, 1, 0] rfl
                have hD := hD.sub (ws' := [(h_on, .inl (cA.1 0, 30, .inl c_h_on)), (h_onMany, .inl (cA.1 0, 3, .inl c_h_onMany)), (h, .inr (2, [.int h_features, .ref h_featureNames, .ref h_steps, .ref h_turnedFeatures, .ref h_sixteenths, .int h_keys, .ref h_keySteps, .int h_lent, .int h_rings, .ref h_on, .ref h_onMany, .int h_doors, .ref h_wanted, .ref h_openers, .ref h_seconds, .int h_turned, .int h_roundMany, .ref h_roundDoors])), (h_openers, .inl (cA.1 0, 5, .inl c_h_openers))]) [2, 3, 1, 0] (by decide) rfl
                exact ih_57 (v_54 + 1) H locs ls (z_up hmu_hlp_55 (by omega) trivial) (z_upc hi_56 (by omega) trivial) hP hD hS (lv_sub hl [2, 3, 4, 5, 0] rfl)
              · skip
                refine lv_aload_n hx hb dX2_isOnlyOpener_58 rfl (lv_at hl 1 rfl) ?_
                refine lv_iload hx hb dX2_isOnlyOpener_59 (lv_at hl 0 rfl) ?_
                refine z_callVi (As := [.int r_63]) (rest := []) (wr := [(h_openers, .inl (cA.1 0, 5, .inl c_h_openers)), (h_on, .inl (cA.1 0, 30, .inl c_h_on)), (h_onMany, .inl (cA.1 0, 3, .inl c_h_onMany))]) ⟨hx, hb, hml, hown, hts⟩ hK hE hT hP hD hS hA (d_H_isLent l G cA h h_features h_featureNames h_steps h_turnedFeatures h_sixteenths h_keys h_keySteps h_lent h_rings h_on h_onMany h_doors h_wanted h_openers h_seconds h_turned h_roundMany h_roundDoors r_63 (by omega)) lk_RX2_123 ⟨rfl, rfl⟩ ⟨Nat.le_of_ble_eq_true rfl, Nat.le_of_ble_eq_true rfl⟩ 2 rfl rfl rfl [1] [0, 2, 3] rfl rfl (by decide) rfl hl.1 rfl (lv_room (Nat.le_of_ble_eq_true rfl)) dX2_isOnlyOpener_61 ⟨Nat.le_of_ble_eq_true rfl, Nat.le_of_ble_eq_true rfl⟩ (fun r_68 u_69 H locs hw hP hD hS => ?_)
                have hP : va_P G vwCl [(h_openers, .inl (cA.1 0, 5, .inl c_h_openers)), (h_on, .inl (cA.1 0, 30, .inl c_h_on)), (h_onMany, .inl (cA.1 0, 3, .inl c_h_onMany)), (h, .inr (2, [.int h_features, .ref h_featureNames, .ref h_steps, .ref h_turnedFeatures, .ref h_sixteenths, .int h_keys, .ref h_keySteps, .int h_lent, .int h_rings, .ref h_on, .ref h_onMany, .int h_doors, .ref h_wanted, .ref h_openers, .ref h_seconds, .int h_turned, .int h_roundMany, .ref h_roundDoors]))] H := hP
                have hD : va_D A [(h_openers, .inl (cA.1 0, 5, .inl c_h_openers)), (h_on, .inl (cA.1 0, 30, .inl c_h_on)), (h_onMany, .inl (cA.1 0, 3, .inl c_h_onMany)), (h, .inr (2, [.int h_features, .ref h_featureNames, .ref h_steps, .ref h_turnedFeatures, .ref h_sixteenths, .int h_keys, .ref h_keySteps, .int h_lent, .int h_rings, .ref h_on, .ref h_onMany, .int h_doors, .ref h_wanted, .ref h_openers, .ref h_seconds, .int h_turned, .int h_roundMany, .ref h_roundDoors]))] := hD
                have hz_r_68 := hw
                refine lv_if_ne (tgt := 79) hx hb dX2_isOnlyOpener_64 (by decide) (fun c_70 => ?_) (fun c_70 => ?_)
                · skip
                  refine lv_iinc (v := (v_54 + 1)) (lv' := [(4, .int (v_54 + 1)), (5, .int r_63), (0, .ref h), (1, .int x), (2, .int y), (3, .int r_1)]) hx hb dX2_isOnlyOpener_79 hl (k := 5) rfl (z_ofi (by decide +kernel)) (by decide) rfl (fun ls hl => ?_)
                  refine lv_goto (tgt := 33) hx hb dX2_isOnlyOpener_82 (by decide) ?_
                  have hP := hP.sub (ws' := [(h_on, .inl (cA.1 0, 30, .inl c_h_on)), (h_onMany, .inl (cA.1 0, 3, .inl c_h_onMany)), (h, .inr (2, [.int h_features, .ref h_featureNames, .ref h_steps, .ref h_turnedFeatures, .ref h_sixteenths, .int h_keys, .ref h_keySteps, .int h_lent, .int h_rings, .ref h_on, .ref h_onMany, .int h_doors, .ref h_wanted, .ref h_openers, .ref h_seconds, .int h_turned, .int h_roundMany, .ref h_roundDoors])), (h_openers, .inl (cA.1 0, 5, .inl c_h_openers))]) [1, 2, 3, 0] rfl
                  have hD := hD.sub (ws' := [(h_on, .inl (cA.1 0, 30, .inl c_h_on)), (h_onMany, .inl (cA.1 0, 3, .inl c_h_onMany)), (h, .inr (2, [.int h_features, .ref h_featureNames, .ref h_steps, .ref h_turnedFeatures, .ref h_sixteenths, .int h_keys, .ref h_keySteps, .int h_lent, .int h_rings, .ref h_on, .ref h_onMany, .int h_doors, .ref h_wanted, .ref h_openers, .ref h_seconds, .int h_turned, .int h_roundMany, .ref h_roundDoors])), (h_openers, .inl (cA.1 0, 5, .inl c_h_openers))]) [1, 2, 3, 0] (by decide) rfl
                  exact ih_57 (v_54 + 1) H locs ls (z_up hmu_hlp_55 (by omega) trivial) (z_upc hi_56 (by omega) trivial) hP hD hS (lv_sub hl [2, 3, 4, 5, 0] rfl)
                · skip
                  refine lv_aload_n hx hb dX2_isOnlyOpener_67 rfl (lv_at hl 1 rfl) ?_
                  refine lv_iload hx hb dX2_isOnlyOpener_68 (lv_at hl 0 rfl) ?_
                  refine lv_iload_n hx hb dX2_isOnlyOpener_70 rfl (lv_at hl 3 rfl) ?_
                  refine z_callVi (As := [.int r_63, .int y]) (rest := []) (wr := [(h_on, .inl (cA.1 0, 30, .inl c_h_on)), (h_onMany, .inl (cA.1 0, 3, .inl c_h_onMany))]) ⟨hx, hb, hml, hown, hts⟩ hK hE hT hP hD hS hA (d_H_unlocks l G cA h h_features h_featureNames h_steps h_turnedFeatures h_sixteenths h_keys h_keySteps h_lent h_rings h_on h_onMany h_doors h_wanted h_openers h_seconds h_turned h_roundMany h_roundDoors c_h_openers r_63 y (by omega)) lk_RX2_133 ⟨rfl, rfl⟩ ⟨Nat.le_of_ble_eq_true rfl, Nat.le_of_ble_eq_true rfl⟩ 2 rfl rfl rfl [3, 0] [1, 2] rfl rfl (by decide) rfl hl.1 rfl (lv_room (Nat.le_of_ble_eq_true rfl)) dX2_isOnlyOpener_71 ⟨Nat.le_of_ble_eq_true rfl, Nat.le_of_ble_eq_true rfl⟩ (fun r_73 u_74 H locs hw hP hD hS => ?_)
                  have hP : va_P G vwCl [(h_on, .inl (cA.1 0, 30, .inl c_h_on)), (h_onMany, .inl (cA.1 0, 3, .inl c_h_onMany)), (h, .inr (2, [.int h_features, .ref h_featureNames, .ref h_steps, .ref h_turnedFeatures, .ref h_sixteenths, .int h_keys, .ref h_keySteps, .int h_lent, .int h_rings, .ref h_on, .ref h_onMany, .int h_doors, .ref h_wanted, .ref h_openers, .ref h_seconds, .int h_turned, .int h_roundMany, .ref h_roundDoors])), (h_openers, .inl (cA.1 0, 5, .inl c_h_openers))] H := hP
                  have hD : va_D A [(h_on, .inl (cA.1 0, 30, .inl c_h_on)), (h_onMany, .inl (cA.1 0, 3, .inl c_h_onMany)), (h, .inr (2, [.int h_features, .ref h_featureNames, .ref h_steps, .ref h_turnedFeatures, .ref h_sixteenths, .int h_keys, .ref h_keySteps, .int h_lent, .int h_rings, .ref h_on, .ref h_onMany, .int h_doors, .ref h_wanted, .ref h_openers, .ref h_seconds, .int h_turned, .int h_roundMany, .ref h_roundDoors])), (h_openers, .inl (cA.1 0, 5, .inl c_h_openers))] := hD
                  have hz_r_73 := hw
                  refine lv_if_eq (tgt := 79) hx hb dX2_isOnlyOpener_74 (by decide) (fun c_75 => ?_) (fun c_75 => ?_)
                  · skip
                    refine lv_iinc (v := (v_54 + 1)) (lv' := [(4, .int (v_54 + 1)), (5, .int r_63), (0, .ref h), (1, .int x), (2, .int y), (3, .int r_1)]) hx hb dX2_isOnlyOpener_79 hl (k := 5) rfl (z_ofi (by decide +kernel)) (by decide) rfl (fun ls hl => ?_)
                    refine lv_goto (tgt := 33) hx hb dX2_isOnlyOpener_82 (by decide) ?_
                    exact ih_57 (v_54 + 1) H locs ls (z_up hmu_hlp_55 (by omega) trivial) (z_upc hi_56 (by omega) trivial) hP hD hS (lv_sub hl [2, 3, 4, 5, 0] rfl)
                  · skip
                    refine lv_iconst (v := 0) hx hb dX2_isOnlyOpener_77 (by decide) ?_
                    exact hret _ _ _ _ _ _ () [2, 0, 1, 3] hP hD hS rfl (by decide) dX2_isOnlyOpener_78 (Or.inl rfl) (Or.inl rfl)
        exact hlp_55 _ 0 _ _ _ (Nat.lt_succ_self _) (by first | decide +kernel | omega) hP hD hS (lv_sub hl [2, 3, 4, 1, 0] rfl)
      · skip
        refine lv_iconst (v := 0) hx hb dX2_isOnlyOpener_28 (by decide) ?_
        exact hret _ _ _ _ _ _ () [2, 0, 1, 3] hP hD hS rfl (by decide) dX2_isOnlyOpener_29 (Or.inl rfl) (Or.inl rfl)
