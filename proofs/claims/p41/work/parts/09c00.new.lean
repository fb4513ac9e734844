set_option maxHeartbeats 4000000 in
set_option maxRecDepth 100000 in
theorem c_keepAt4_0 (l : Launch) (G : va_G) (cA : zCA) (a : Nat) (f : Nat → Int32) (v : Int32) : zCv l yX11_keepAt cX11_keepAt 3 none ({ frames := 0, cells := 0, slots := 0, locals := 0 }) G cA [.ref a, .int 0, .int v] [(a, .inl (cA.1 0, 4, .inl f))] (S := (Nat → Int32)) (fun (u : (Nat → Int32)) => u = upd f 0 v) (fun (u : (Nat → Int32)) => [(a, .inl (cA.1 0, 4, .inl u))]) 0 0 := by
  refine z_start3v (own := RX11) (by decide) (Nat.le_of_ble_eq_true rfl) rfl ?_
  intro p e s m args below meth c A ls Q hx hb hml hts hown hin hK hE hT hP hD hS hA hl hret
  have hl : lv_has ls 3 [(0, .ref a), (1, .int 0), (2, .int v)] := hl
  refine lv_iload_n hx hb dX11_keepAt_0 rfl (lv_at hl 1 rfl) ?_
  refine lv_if_lt (tgt := 14) hx hb dX11_keepAt_1 (by decide) (fun h9 => absurd h9 (by decide +kernel)) (fun _ => ?_)
  refine lv_iload_n hx hb dX11_keepAt_4 rfl (lv_at hl 1 rfl) ?_
  refine lv_aload_n hx hb dX11_keepAt_5 rfl (lv_at hl 0 rfl) ?_
  refine va_alen (v := 4) hx hb hK hP 0 0 rfl rfl (show Int32.ofNat 4 = 4 by decide +kernel) dX11_keepAt_6 ?_
  refine lv_icmp_ge (tgt := 14) hx hb dX11_keepAt_7 (by decide) (fun h9 => absurd h9 (by decide +kernel)) (fun _ => ?_)
  refine lv_aload_n hx hb dX11_keepAt_10 rfl (lv_at hl 0 rfl) ?_
  refine lv_iload_n hx hb dX11_keepAt_11 rfl (lv_at hl 1 rfl) ?_
  refine lv_iload_n hx hb dX11_keepAt_12 rfl (lv_at hl 2 rfl) ?_
  refine va_iast hx hb hK hP hD hS 0 0 rfl rfl (z_in (i := 0) (n := 4) (by decide +kernel) (by decide +kernel)) dX11_keepAt_13 (fun H locs hP hD hS => ?_)
  have hP : va_P G vwCl [(a, .inl (cA.1 0, 4, .inl (upd f (0 : Int32).toNatClampNeg v)))] H := hP
  have hD : va_D A [(a, .inl (cA.1 0, 4, .inl (upd f (0 : Int32).toNatClampNeg v)))] := hD
  exact hret _ _ _ _ _ (upd f (0 : Int32).toNatClampNeg v) [0] hP hD hS rfl (by decide) dX11_keepAt_14 rfl
set_option maxHeartbeats 4000000 in
set_option maxRecDepth 100000 in
theorem c_keepAt4_1 (l : Launch) (G : va_G) (cA : zCA) (a : Nat) (f : Nat → Int32) (v : Int32) : zCv l yX11_keepAt cX11_keepAt 3 none ({ frames := 0, cells := 0, slots := 0, locals := 0 }) G cA [.ref a, .int 1, .int v] [(a, .inl (cA.1 0, 4, .inl f))] (S := (Nat → Int32)) (fun (u : (Nat → Int32)) => u = upd f 1 v) (fun (u : (Nat → Int32)) => [(a, .inl (cA.1 0, 4, .inl u))]) 0 0 := by
  refine z_start3v (own := RX11) (by decide) (Nat.le_of_ble_eq_true rfl) rfl ?_
  intro p e s m args below meth c A ls Q hx hb hml hts hown hin hK hE hT hP hD hS hA hl hret
  have hl : lv_has ls 3 [(0, .ref a), (1, .int 1), (2, .int v)] := hl
  refine lv_iload_n hx hb dX11_keepAt_0 rfl (lv_at hl 1 rfl) ?_
  refine lv_if_lt (tgt := 14) hx hb dX11_keepAt_1 (by decide) (fun h9 => absurd h9 (by decide +kernel)) (fun _ => ?_)
  refine lv_iload_n hx hb dX11_keepAt_4 rfl (lv_at hl 1 rfl) ?_
  refine lv_aload_n hx hb dX11_keepAt_5 rfl (lv_at hl 0 rfl) ?_
  refine va_alen (v := 4) hx hb hK hP 0 0 rfl rfl (show Int32.ofNat 4 = 4 by decide +kernel) dX11_keepAt_6 ?_
  refine lv_icmp_ge (tgt := 14) hx hb dX11_keepAt_7 (by decide) (fun h9 => absurd h9 (by decide +kernel)) (fun _ => ?_)
  refine lv_aload_n hx hb dX11_keepAt_10 rfl (lv_at hl 0 rfl) ?_
  refine lv_iload_n hx hb dX11_keepAt_11 rfl (lv_at hl 1 rfl) ?_
  refine lv_iload_n hx hb dX11_keepAt_12 rfl (lv_at hl 2 rfl) ?_
  refine va_iast hx hb hK hP hD hS 0 0 rfl rfl (z_in (i := 1) (n := 4) (by decide +kernel) (by decide +kernel)) dX11_keepAt_13 (fun H locs hP hD hS => ?_)
  have hP : va_P G vwCl [(a, .inl (cA.1 0, 4, .inl (upd f (1 : Int32).toNatClampNeg v)))] H := hP
  have hD : va_D A [(a, .inl (cA.1 0, 4, .inl (upd f (1 : Int32).toNatClampNeg v)))] := hD
  exact hret _ _ _ _ _ (upd f (1 : Int32).toNatClampNeg v) [0] hP hD hS rfl (by decide) dX11_keepAt_14 rfl
set_option maxHeartbeats 4000000 in
set_option maxRecDepth 100000 in
theorem c_keepAt4_2 (l : Launch) (G : va_G) (cA : zCA) (a : Nat) (f : Nat → Int32) (v : Int32) : zCv l yX11_keepAt cX11_keepAt 3 none ({ frames := 0, cells := 0, slots := 0, locals := 0 }) G cA [.ref a, .int 2, .int v] [(a, .inl (cA.1 0, 4, .inl f))] (S := (Nat → Int32)) (fun (u : (Nat → Int32)) => u = upd f 2 v) (fun (u : (Nat → Int32)) => [(a, .inl (cA.1 0, 4, .inl u))]) 0 0 := by
  refine z_start3v (own := RX11) (by decide) (Nat.le_of_ble_eq_true rfl) rfl ?_
  intro p e s m args below meth c A ls Q hx hb hml hts hown hin hK hE hT hP hD hS hA hl hret
  have hl : lv_has ls 3 [(0, .ref a), (1, .int 2), (2, .int v)] := hl
  refine lv_iload_n hx hb dX11_keepAt_0 rfl (lv_at hl 1 rfl) ?_
  refine lv_if_lt (tgt := 14) hx hb dX11_keepAt_1 (by decide) (fun h9 => absurd h9 (by decide +kernel)) (fun _ => ?_)
  refine lv_iload_n hx hb dX11_keepAt_4 rfl (lv_at hl 1 rfl) ?_
  refine lv_aload_n hx hb dX11_keepAt_5 rfl (lv_at hl 0 rfl) ?_
  refine va_alen (v := 4) hx hb hK hP 0 0 rfl rfl (show Int32.ofNat 4 = 4 by decide +kernel) dX11_keepAt_6 ?_
  refine lv_icmp_ge (tgt := 14) hx hb dX11_keepAt_7 (by decide) (fun h9 => absurd h9 (by decide +kernel)) (fun _ => ?_)
  refine lv_aload_n hx hb dX11_keepAt_10 rfl (lv_at hl 0 rfl) ?_
  refine lv_iload_n hx hb dX11_keepAt_11 rfl (lv_at hl 1 rfl) ?_
  refine lv_iload_n hx hb dX11_keepAt_12 rfl (lv_at hl 2 rfl) ?_
  refine va_iast hx hb hK hP hD hS 0 0 rfl rfl (z_in (i := 2) (n := 4) (by decide +kernel) (by decide +kernel)) dX11_keepAt_13 (fun H locs hP hD hS => ?_)
  have hP : va_P G vwCl [(a, .inl (cA.1 0, 4, .inl (upd f (2 : Int32).toNatClampNeg v)))] H := hP
  have hD : va_D A [(a, .inl (cA.1 0, 4, .inl (upd f (2 : Int32).toNatClampNeg v)))] := hD
  exact hret _ _ _ _ _ (upd f (2 : Int32).toNatClampNeg v) [0] hP hD hS rfl (by decide) dX11_keepAt_14 rfl
set_option maxHeartbeats 4000000 in
set_option maxRecDepth 100000 in
theorem c_keepAt4_3 (l : Launch) (G : va_G) (cA : zCA) (a : Nat) (f : Nat → Int32) (v : Int32) : zCv l yX11_keepAt cX11_keepAt 3 none ({ frames := 0, cells := 0, slots := 0, locals := 0 }) G cA [.ref a, .int 3, .int v] [(a, .inl (cA.1 0, 4, .inl f))] (S := (Nat → Int32)) (fun (u : (Nat → Int32)) => u = upd f 3 v) (fun (u : (Nat → Int32)) => [(a, .inl (cA.1 0, 4, .inl u))]) 0 0 := by
  refine z_start3v (own := RX11) (by decide) (Nat.le_of_ble_eq_true rfl) rfl ?_
  intro p e s m args below meth c A ls Q hx hb hml hts hown hin hK hE hT hP hD hS hA hl hret
  have hl : lv_has ls 3 [(0, .ref a), (1, .int 3), (2, .int v)] := hl
  refine lv_iload_n hx hb dX11_keepAt_0 rfl (lv_at hl 1 rfl) ?_
  refine lv_if_lt (tgt := 14) hx hb dX11_keepAt_1 (by decide) (fun h9 => absurd h9 (by decide +kernel)) (fun _ => ?_)
  refine lv_iload_n hx hb dX11_keepAt_4 rfl (lv_at hl 1 rfl) ?_
  refine lv_aload_n hx hb dX11_keepAt_5 rfl (lv_at hl 0 rfl) ?_
  refine va_alen (v := 4) hx hb hK hP 0 0 rfl rfl (show Int32.ofNat 4 = 4 by decide +kernel) dX11_keepAt_6 ?_
  refine lv_icmp_ge (tgt := 14) hx hb dX11_keepAt_7 (by decide) (fun h9 => absurd h9 (by decide +kernel)) (fun _ => ?_)
  refine lv_aload_n hx hb dX11_keepAt_10 rfl (lv_at hl 0 rfl) ?_
  refine lv_iload_n hx hb dX11_keepAt_11 rfl (lv_at hl 1 rfl) ?_
  refine lv_iload_n hx hb dX11_keepAt_12 rfl (lv_at hl 2 rfl) ?_
  refine va_iast hx hb hK hP hD hS 0 0 rfl rfl (z_in (i := 3) (n := 4) (by decide +kernel) (by decide +kernel)) dX11_keepAt_13 (fun H locs hP hD hS => ?_)
  have hP : va_P G vwCl [(a, .inl (cA.1 0, 4, .inl (upd f (3 : Int32).toNatClampNeg v)))] H := hP
  have hD : va_D A [(a, .inl (cA.1 0, 4, .inl (upd f (3 : Int32).toNatClampNeg v)))] := hD
  exact hret _ _ _ _ _ (upd f (3 : Int32).toNatClampNeg v) [0] hP hD hS rfl (by decide) dX11_keepAt_14 rfl
set_option maxHeartbeats 4000000 in
set_option maxRecDepth 100000 in
theorem c_H_setSeconds_0 (l : Launch) (G : va_G) (cA : zCA) (h0 : Nat) (a : Nat) (f : Nat → Int32) (v : Int32) (f0 : Value) (f1 : Value) (f2 : Value) (f3 : Value) (f4 : Value) (f5 : Value) (f6 : Value) (f7 : Value) (f8 : Value) (f9 : Value) (f10 : Value) (f11 : Value) (f12 : Value) (f13 : Value) (f15 : Value) (f16 : Value) (f17 : Value) : zCv l yX2_setSeconds cX2_setSeconds 3 none ({ frames := 1, cells := 0, slots := 0, locals := 22 }) G cA [.ref h0, .int 0, .int v] [(h0, .inr (2, [f0, f1, f2, f3, f4, f5, f6, f7, f8, f9, f10, f11, f12, f13, .ref a, f15, f16, f17])), (a, .inl (cA.1 0, 4, .inl f))] (S := (Nat → Int32)) (fun (u : (Nat → Int32)) => u = upd f 0 v) (fun (u : (Nat → Int32)) => [(h0, .inr (2, [f0, f1, f2, f3, f4, f5, f6, f7, f8, f9, f10, f11, f12, f13, .ref a, f15, f16, f17])), (a, .inl (cA.1 0, 4, .inl u))]) 0 0 := by
  refine z_start3v (own := RX2) (by decide) (Nat.le_of_ble_eq_true rfl) rfl ?_
  intro p e s m args below meth c A ls Q hx hb hml hts hown hin hK hE hT hP hD hS hA hl hret
  have hl : lv_has ls 3 [(0, .ref h0), (1, .int 0), (2, .int v)] := hl
  refine lv_aload_n hx hb dX2_setSeconds_0 rfl (lv_at hl 0 rfl) ?_
  refine va_get (D := G) (ci := 2) (v := .ref a) (C := RX2) (T := TX2) (N := 18) hx hb hts inT2 hown hK hP 0 rfl rfl 14 (by decide) (hts _ tw_291) (fun _ h9 => h9) rfl dX2_setSeconds_1 ?_
  refine lv_iload_n hx hb dX2_setSeconds_4 rfl (lv_at hl 1 rfl) ?_
  refine lv_iload_n hx hb dX2_setSeconds_5 rfl (lv_at hl 2 rfl) ?_
  refine z_callSNv (As := [.ref a, .int 0, .int v]) (rest := []) (wr := [(h0, .inr (2, [f0, f1, f2, f3, f4, f5, f6, f7, f8, f9, f10, f11, f12, f13, .ref a, f15, f16, f17]))]) ⟨hx, hb, hml, hown, hts⟩ hK hE hT hP hD hS hA (c_keepAt4_0 l G cA a f v) lk_RX2_126 ⟨rfl, rfl⟩ ⟨Nat.le_of_ble_eq_true rfl, Nat.le_of_ble_eq_true rfl⟩ [1] [0] rfl rfl (by decide) rfl hl.1 rfl (lv_room (Nat.le_of_ble_eq_true rfl)) dX2_setSeconds_6 ⟨Nat.le_of_ble_eq_true rfl, Nat.le_of_ble_eq_true rfl⟩ (fun u_3 H locs hw hP hD hS => ?_)
  obtain ⟨g_1, rfl⟩ : ∃ z, z = u_3 := ⟨_, rfl⟩
  have hP : va_P G vwCl [(h0, .inr (2, [f0, f1, f2, f3, f4, f5, f6, f7, f8, f9, f10, f11, f12, f13, .ref a, f15, f16, f17])), (a, .inl (cA.1 0, 4, .inl g_1))] H := hP
  have hD : va_D A [(h0, .inr (2, [f0, f1, f2, f3, f4, f5, f6, f7, f8, f9, f10, f11, f12, f13, .ref a, f15, f16, f17])), (a, .inl (cA.1 0, 4, .inl g_1))] := hD
  have hk_g_1 := hw
  exact hret _ _ _ _ _ g_1 [0, 1] hP hD hS rfl (by decide) dX2_setSeconds_9 hk_g_1
set_option maxHeartbeats 4000000 in
set_option maxRecDepth 100000 in
theorem c_H_setSeconds_1 (l : Launch) (G : va_G) (cA : zCA) (h0 : Nat) (a : Nat) (f : Nat → Int32) (v : Int32) (f0 : Value) (f1 : Value) (f2 : Value) (f3 : Value) (f4 : Value) (f5 : Value) (f6 : Value) (f7 : Value) (f8 : Value) (f9 : Value) (f10 : Value) (f11 : Value) (f12 : Value) (f13 : Value) (f15 : Value) (f16 : Value) (f17 : Value) : zCv l yX2_setSeconds cX2_setSeconds 3 none ({ frames := 1, cells := 0, slots := 0, locals := 22 }) G cA [.ref h0, .int 1, .int v] [(h0, .inr (2, [f0, f1, f2, f3, f4, f5, f6, f7, f8, f9, f10, f11, f12, f13, .ref a, f15, f16, f17])), (a, .inl (cA.1 0, 4, .inl f))] (S := (Nat → Int32)) (fun (u : (Nat → Int32)) => u = upd f 1 v) (fun (u : (Nat → Int32)) => [(h0, .inr (2, [f0, f1, f2, f3, f4, f5, f6, f7, f8, f9, f10, f11, f12, f13, .ref a, f15, f16, f17])), (a, .inl (cA.1 0, 4, .inl u))]) 0 0 := by
  refine z_start3v (own := RX2) (by decide) (Nat.le_of_ble_eq_true rfl) rfl ?_
  intro p e s m args below meth c A ls Q hx hb hml hts hown hin hK hE hT hP hD hS hA hl hret
  have hl : lv_has ls 3 [(0, .ref h0), (1, .int 1), (2, .int v)] := hl
  refine lv_aload_n hx hb dX2_setSeconds_0 rfl (lv_at hl 0 rfl) ?_
  refine va_get (D := G) (ci := 2) (v := .ref a) (C := RX2) (T := TX2) (N := 18) hx hb hts inT2 hown hK hP 0 rfl rfl 14 (by decide) (hts _ tw_291) (fun _ h9 => h9) rfl dX2_setSeconds_1 ?_
  refine lv_iload_n hx hb dX2_setSeconds_4 rfl (lv_at hl 1 rfl) ?_
  refine lv_iload_n hx hb dX2_setSeconds_5 rfl (lv_at hl 2 rfl) ?_
  refine z_callSNv (As := [.ref a, .int 1, .int v]) (rest := []) (wr := [(h0, .inr (2, [f0, f1, f2, f3, f4, f5, f6, f7, f8, f9, f10, f11, f12, f13, .ref a, f15, f16, f17]))]) ⟨hx, hb, hml, hown, hts⟩ hK hE hT hP hD hS hA (c_keepAt4_1 l G cA a f v) lk_RX2_126 ⟨rfl, rfl⟩ ⟨Nat.le_of_ble_eq_true rfl, Nat.le_of_ble_eq_true rfl⟩ [1] [0] rfl rfl (by decide) rfl hl.1 rfl (lv_room (Nat.le_of_ble_eq_true rfl)) dX2_setSeconds_6 ⟨Nat.le_of_ble_eq_true rfl, Nat.le_of_ble_eq_true rfl⟩ (fun u_3 H locs hw hP hD hS => ?_)
  obtain ⟨g_1, rfl⟩ : ∃ z, z = u_3 := ⟨_, rfl⟩
  have hP : va_P G vwCl [(h0, .inr (2, [f0, f1, f2, f3, f4, f5, f6, f7, f8, f9, f10, f11, f12, f13, .ref a, f15, f16, f17])), (a, .inl (cA.1 0, 4, .inl g_1))] H := hP
  have hD : va_D A [(h0, .inr (2, [f0, f1, f2, f3, f4, f5, f6, f7, f8, f9, f10, f11, f12, f13, .ref a, f15, f16, f17])), (a, .inl (cA.1 0, 4, .inl g_1))] := hD
  have hk_g_1 := hw
  exact hret _ _ _ _ _ g_1 [0, 1] hP hD hS rfl (by decide) dX2_setSeconds_9 hk_g_1
