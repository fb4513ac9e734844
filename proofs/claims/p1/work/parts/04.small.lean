set_option maxHeartbeats 4000000 in
set_option maxRecDepth 100000 in
theorem c_refused (l : Launch) (G : va_G) (cA : Nat → ClassId) (h0 : Nat) (s0 : Int32) (k : Int32) (x1 : Value) (x2 : Value) (x3 : Value) (x4 : Value) (x5 : Value) (x6 : Value) (x7 : Value) (x8 : Value) (x9 : Value) (x10 : Value) (x11 : Value) (x12 : Value) (x13 : Value) (x14 : Value) (x15 : Value) (x16 : Value) (x17 : Value) : zCi l yX11_refused cX11_refused 2 (some .boolean) ({ frames := 0, cells := 0, slots := 0, locals := 0 }) G cA [.ref h0, .int k] [(h0, .inr (11, [.int s0, x1, x2, x3, x4, x5, x6, x7, x8, x9, x10, x11, x12, x13, x14, x15, x16, x17]))] (S := Unit) (fun (r : Int32) (u : Unit) => r = 0) (fun (u : Unit) => [(h0, .inr (11, [.int k, x1, x2, x3, x4, x5, x6, x7, x8, x9, x10, x11, x12, x13, x14, x15, x16, x17]))]) 0 0 := by
  refine z_starti (own := RX11) (by decide) (Nat.le_of_ble_eq_true rfl) rfl ?_
  intro p e s m below meth c A ls hx hb hr hlocks hml hts hown hin hK hE hP hD hS hA hl
  have hl : lv_has ls 2 [(0, .ref h0), (1, .int k)] := hl
  refine lv_aload_n hx hb dX11_refused_0 rfl (lv_at hl 0 rfl) ?_
  refine lv_iload_n hx hb dX11_refused_1 rfl (lv_at hl 1 rfl) ?_
  refine va_put (D := G) (ci := 11) (v := .int k) (ty := .int) (C := RX11) (T := TX11) (N := 18) hx hb hts inT11 tyX11 tyX11_ok nmX11 hown hK hP hD hS 0 rfl rfl 0 (by decide) (hts _ tw_656) (fun _ h9 => h9) rfl (tyX11_ok 0 (by decide)) rfl rfl (Nat.le_of_ble_eq_true rfl) dX11_refused_2 (fun H locs hP hD hS => ?_)
  have hP : va_P G vwCl [(h0, .inr (11, [.int k, x1, x2, x3, x4, x5, x6, x7, x8, x9, x10, x11, x12, x13, x14, x15, x16, x17]))] H := hP
  have hD : va_D A [(h0, .inr (11, [.int k, x1, x2, x3, x4, x5, x6, x7, x8, x9, x10, x11, x12, x13, x14, x15, x16, x17]))] := hD
  refine lv_iconst (v := 0) hx hb dX11_refused_5 (by decide) ?_
  exact z_retz hx hb hr hlocks hP hD hS () [0] rfl (by decide) dX11_refused_6 (by decide +kernel) rfl
set_option maxHeartbeats 4000000 in
set_option maxRecDepth 100000 in
theorem c_none (l : Launch) (G : va_G) (cA : Nat → ClassId) (h0 : Nat) (s0 : Int32) (k : Int32) (x1 : Value) (x2 : Value) (x3 : Value) (x4 : Value) (x5 : Value) (x6 : Value) (x7 : Value) (x8 : Value) (x9 : Value) (x10 : Value) (x11 : Value) (x12 : Value) (x13 : Value) (x14 : Value) (x15 : Value) (x16 : Value) (x17 : Value) : zCi l yX11_none cX11_none 2 (some .int) ({ frames := 0, cells := 0, slots := 0, locals := 0 }) G cA [.ref h0, .int k] [(h0, .inr (11, [.int s0, x1, x2, x3, x4, x5, x6, x7, x8, x9, x10, x11, x12, x13, x14, x15, x16, x17]))] (S := Unit) (fun (r : Int32) (u : Unit) => r = (-1)) (fun (u : Unit) => [(h0, .inr (11, [.int k, x1, x2, x3, x4, x5, x6, x7, x8, x9, x10, x11, x12, x13, x14, x15, x16, x17]))]) 0 0 := by
  refine z_starti (own := RX11) (by decide) (Nat.le_of_ble_eq_true rfl) rfl ?_
  intro p e s m below meth c A ls hx hb hr hlocks hml hts hown hin hK hE hP hD hS hA hl
  have hl : lv_has ls 2 [(0, .ref h0), (1, .int k)] := hl
  refine lv_aload_n hx hb dX11_none_0 rfl (lv_at hl 0 rfl) ?_
  refine lv_iload_n hx hb dX11_none_1 rfl (lv_at hl 1 rfl) ?_
  refine va_put (D := G) (ci := 11) (v := .int k) (ty := .int) (C := RX11) (T := TX11) (N := 18) hx hb hts inT11 tyX11 tyX11_ok nmX11 hown hK hP hD hS 0 rfl rfl 0 (by decide) (hts _ tw_656) (fun _ h9 => h9) rfl (tyX11_ok 0 (by decide)) rfl rfl (Nat.le_of_ble_eq_true rfl) dX11_none_2 (fun H locs hP hD hS => ?_)
  have hP : va_P G vwCl [(h0, .inr (11, [.int k, x1, x2, x3, x4, x5, x6, x7, x8, x9, x10, x11, x12, x13, x14, x15, x16, x17]))] H := hP
  have hD : va_D A [(h0, .inr (11, [.int k, x1, x2, x3, x4, x5, x6, x7, x8, x9, x10, x11, x12, x13, x14, x15, x16, x17]))] := hD
  refine lv_iconst (v := (-1)) hx hb dX11_none_5 (by decide) ?_
  exact z_reti hx hb hr hlocks hP hD hS () [0] rfl (by decide) dX11_none_6 rfl
set_option maxHeartbeats 4000000 in
set_option maxRecDepth 100000 in
theorem c_told (l : Launch) (G : va_G) (cA : Nat → ClassId) (h0 : Nat) (s0 : Int32) (k : Int32) (x1 : Value) (x2 : Value) (x3 : Value) (x4 : Value) (x5 : Value) (x6 : Value) (x7 : Value) (x8 : Value) (x9 : Value) (x10 : Value) (x11 : Value) (x12 : Value) (x13 : Value) (x14 : Value) (x15 : Value) (x16 : Value) (x17 : Value) : zCi l yX11_told cX11_told 2 (some .int) ({ frames := 0, cells := 0, slots := 0, locals := 0 }) G cA [.ref h0, .int k] [(h0, .inr (11, [.int s0, x1, x2, x3, x4, x5, x6, x7, x8, x9, x10, x11, x12, x13, x14, x15, x16, x17]))] (S := Unit) (fun (r : Int32) (u : Unit) => r = k) (fun (u : Unit) => [(h0, .inr (11, [.int 0, x1, x2, x3, x4, x5, x6, x7, x8, x9, x10, x11, x12, x13, x14, x15, x16, x17]))]) 0 0 := by
  refine z_starti (own := RX11) (by decide) (Nat.le_of_ble_eq_true rfl) rfl ?_
  intro p e s m below meth c A ls hx hb hr hlocks hml hts hown hin hK hE hP hD hS hA hl
  have hl : lv_has ls 2 [(0, .ref h0), (1, .int k)] := hl
  refine lv_aload_n hx hb dX11_told_0 rfl (lv_at hl 0 rfl) ?_
  refine lv_iconst (v := 0) hx hb dX11_told_1 (by decide) ?_
  refine va_put (D := G) (ci := 11) (v := .int 0) (ty := .int) (C := RX11) (T := TX11) (N := 18) hx hb hts inT11 tyX11 tyX11_ok nmX11 hown hK hP hD hS 0 rfl rfl 0 (by decide) (hts _ tw_656) (fun _ h9 => h9) rfl (tyX11_ok 0 (by decide)) rfl rfl (Nat.le_of_ble_eq_true rfl) dX11_told_2 (fun H locs hP hD hS => ?_)
  have hP : va_P G vwCl [(h0, .inr (11, [.int 0, x1, x2, x3, x4, x5, x6, x7, x8, x9, x10, x11, x12, x13, x14, x15, x16, x17]))] H := hP
  have hD : va_D A [(h0, .inr (11, [.int 0, x1, x2, x3, x4, x5, x6, x7, x8, x9, x10, x11, x12, x13, x14, x15, x16, x17]))] := hD
  refine lv_iload_n hx hb dX11_told_5 rfl (lv_at hl 1 rfl) ?_
  exact z_reti hx hb hr hlocks hP hD hS () [0] rfl (by decide) dX11_told_6 rfl
set_option maxHeartbeats 4000000 in
set_option maxRecDepth 100000 in
theorem c_done (l : Launch) (G : va_G) (cA : Nat → ClassId) (h0 : Nat) (s0 : Int32) (x1 : Value) (x2 : Value) (x3 : Value) (x4 : Value) (x5 : Value) (x6 : Value) (x7 : Value) (x8 : Value) (x9 : Value) (x10 : Value) (x11 : Value) (x12 : Value) (x13 : Value) (x14 : Value) (x15 : Value) (x16 : Value) (x17 : Value) : zCi l yX11_done cX11_done 1 (some .boolean) ({ frames := 0, cells := 0, slots := 0, locals := 0 }) G cA [.ref h0] [(h0, .inr (11, [.int s0, x1, x2, x3, x4, x5, x6, x7, x8, x9, x10, x11, x12, x13, x14, x15, x16, x17]))] (S := Unit) (fun (r : Int32) (u : Unit) => r = 1) (fun (u : Unit) => [(h0, .inr (11, [.int 0, x1, x2, x3, x4, x5, x6, x7, x8, x9, x10, x11, x12, x13, x14, x15, x16, x17]))]) 0 0 := by
  refine z_starti (own := RX11) (by decide) (Nat.le_of_ble_eq_true rfl) rfl ?_
  intro p e s m below meth c A ls hx hb hr hlocks hml hts hown hin hK hE hP hD hS hA hl
  have hl : lv_has ls 1 [(0, .ref h0)] := hl
  refine lv_aload_n hx hb dX11_done_0 rfl (lv_at hl 0 rfl) ?_
  refine lv_iconst (v := 0) hx hb dX11_done_1 (by decide) ?_
  refine va_put (D := G) (ci := 11) (v := .int 0) (ty := .int) (C := RX11) (T := TX11) (N := 18) hx hb hts inT11 tyX11 tyX11_ok nmX11 hown hK hP hD hS 0 rfl rfl 0 (by decide) (hts _ tw_656) (fun _ h9 => h9) rfl (tyX11_ok 0 (by decide)) rfl rfl (Nat.le_of_ble_eq_true rfl) dX11_done_2 (fun H locs hP hD hS => ?_)
  have hP : va_P G vwCl [(h0, .inr (11, [.int 0, x1, x2, x3, x4, x5, x6, x7, x8, x9, x10, x11, x12, x13, x14, x15, x16, x17]))] H := hP
  have hD : va_D A [(h0, .inr (11, [.int 0, x1, x2, x3, x4, x5, x6, x7, x8, x9, x10, x11, x12, x13, x14, x15, x16, x17]))] := hD
  refine lv_iconst (v := 1) hx hb dX11_done_5 (by decide) ?_
  exact z_retz hx hb hr hlocks hP hD hS () [0] rfl (by decide) dX11_done_6 (by decide +kernel) rfl
set_option maxHeartbeats 4000000 in
set_option maxRecDepth 100000 in
theorem c_H_hasFeature (l : Launch) (G : va_G) (cA : Nat → ClassId) (h0 : Nat) (k : Int32) (f1 : Value) (f2 : Value) (f3 : Value) (f4 : Value) (f6 : Value) (f9 : Value) (f10 : Value) (f12 : Value) (f13 : Value) (f14 : Value) (f17 : Value) : zCi l yX2_hasFeature cX2_hasFeature 2 (some .boolean) ({ frames := 0, cells := 0, slots := 0, locals := 0 }) G cA [.ref h0, .int k] [(h0, .inr (2, [.int 0, f1, f2, f3, f4, .int 0, f6, .int 0, .int 0, f9, f10, .int 0, f12, f13, f14, .int 8, .int 0, f17]))] (S := Unit) (fun (r : Int32) (u : Unit) => r = 0) (fun (u : Unit) => [(h0, .inr (2, [.int 0, f1, f2, f3, f4, .int 0, f6, .int 0, .int 0, f9, f10, .int 0, f12, f13, f14, .int 8, .int 0, f17]))]) 0 0 := by
  refine z_starti (own := RX2) (by decide) (Nat.le_of_ble_eq_true rfl) rfl ?_
  intro p e s m below meth c A ls hx hb hr hlocks hml hts hown hin hK hE hP hD hS hA hl
  have hl : lv_has ls 2 [(0, .ref h0), (1, .int k)] := hl
  refine lv_iload_n hx hb dX2_hasFeature_0 rfl (lv_at hl 1 rfl) ?_
  refine lv_if_lt (tgt := 16) hx hb dX2_hasFeature_1 (by decide) (fun c_1 => ?_) (fun c_1 => ?_)
  · have b_2 := z_b3 c_1 (K := 0) (by decide +kernel)
    refine lv_iconst (v := 0) hx hb dX2_hasFeature_16 (by decide) ?_
    exact z_retz hx hb hr hlocks hP hD hS () [0] rfl (by decide) dX2_hasFeature_17 (by decide +kernel) rfl
  · have b_3 := z_b4 c_1 (K := 0) (by decide +kernel)
    refine lv_iload_n hx hb dX2_hasFeature_4 rfl (lv_at hl 1 rfl) ?_
    refine lv_aload_n hx hb dX2_hasFeature_5 rfl (lv_at hl 0 rfl) ?_
    refine va_get (D := G) (ci := 2) (v := .int 0) (C := RX2) (T := TX2) (N := 18) hx hb hts inT2 hown hK hP 0 rfl rfl 0 (by decide) (hts _ tw_265) (fun _ h9 => h9) rfl dX2_hasFeature_6 ?_
    refine lv_icmp_ge (tgt := 16) hx hb dX2_hasFeature_9 (by decide) (fun _ => ?_) (fun h9 => absurd ((z_ige (K := 0) (by decide +kernel)).mpr (by omega)) h9)
    refine lv_iconst (v := 0) hx hb dX2_hasFeature_16 (by decide) ?_
    exact z_retz hx hb hr hlocks hP hD hS () [0] rfl (by decide) dX2_hasFeature_17 (by decide +kernel) rfl
set_option maxHeartbeats 4000000 in
set_option maxRecDepth 100000 in
theorem c_H_hasKey (l : Launch) (G : va_G) (cA : Nat → ClassId) (h0 : Nat) (k : Int32) (f1 : Value) (f2 : Value) (f3 : Value) (f4 : Value) (f6 : Value) (f9 : Value) (f10 : Value) (f12 : Value) (f13 : Value) (f14 : Value) (f17 : Value) : zCi l yX2_hasKey cX2_hasKey 2 (some .boolean) ({ frames := 0, cells := 0, slots := 0, locals := 0 }) G cA [.ref h0, .int k] [(h0, .inr (2, [.int 0, f1, f2, f3, f4, .int 0, f6, .int 0, .int 0, f9, f10, .int 0, f12, f13, f14, .int 8, .int 0, f17]))] (S := Unit) (fun (r : Int32) (u : Unit) => r = 0) (fun (u : Unit) => [(h0, .inr (2, [.int 0, f1, f2, f3, f4, .int 0, f6, .int 0, .int 0, f9, f10, .int 0, f12, f13, f14, .int 8, .int 0, f17]))]) 0 0 := by
  refine z_starti (own := RX2) (by decide) (Nat.le_of_ble_eq_true rfl) rfl ?_
  intro p e s m below meth c A ls hx hb hr hlocks hml hts hown hin hK hE hP hD hS hA hl
  have hl : lv_has ls 2 [(0, .ref h0), (1, .int k)] := hl
  refine lv_iload_n hx hb dX2_hasKey_0 rfl (lv_at hl 1 rfl) ?_
  refine lv_if_lt (tgt := 16) hx hb dX2_hasKey_1 (by decide) (fun c_1 => ?_) (fun c_1 => ?_)
  · have b_2 := z_b3 c_1 (K := 0) (by decide +kernel)
    refine lv_iconst (v := 0) hx hb dX2_hasKey_16 (by decide) ?_
    exact z_retz hx hb hr hlocks hP hD hS () [0] rfl (by decide) dX2_hasKey_17 (by decide +kernel) rfl
  · have b_3 := z_b4 c_1 (K := 0) (by decide +kernel)
    refine lv_iload_n hx hb dX2_hasKey_4 rfl (lv_at hl 1 rfl) ?_
    refine lv_aload_n hx hb dX2_hasKey_5 rfl (lv_at hl 0 rfl) ?_
    refine va_get (D := G) (ci := 2) (v := .int 0) (C := RX2) (T := TX2) (N := 18) hx hb hts inT2 hown hK hP 0 rfl rfl 5 (by decide) (hts _ tw_274) (fun _ h9 => h9) rfl dX2_hasKey_6 ?_
    refine lv_icmp_ge (tgt := 16) hx hb dX2_hasKey_9 (by decide) (fun _ => ?_) (fun h9 => absurd ((z_ige (K := 0) (by decide +kernel)).mpr (by omega)) h9)
    refine lv_iconst (v := 0) hx hb dX2_hasKey_16 (by decide) ?_
    exact z_retz hx hb hr hlocks hP hD hS () [0] rfl (by decide) dX2_hasKey_17 (by decide +kernel) rfl
set_option maxHeartbeats 4000000 in
set_option maxRecDepth 100000 in
theorem c_H_hasRing (l : Launch) (G : va_G) (cA : Nat → ClassId) (h0 : Nat) (k : Int32) (f1 : Value) (f2 : Value) (f3 : Value) (f4 : Value) (f6 : Value) (f9 : Value) (f10 : Value) (f12 : Value) (f13 : Value) (f14 : Value) (f17 : Value) : zCi l yX2_hasRing cX2_hasRing 2 (some .boolean) ({ frames := 0, cells := 0, slots := 0, locals := 0 }) G cA [.ref h0, .int k] [(h0, .inr (2, [.int 0, f1, f2, f3, f4, .int 0, f6, .int 0, .int 0, f9, f10, .int 0, f12, f13, f14, .int 8, .int 0, f17]))] (S := Unit) (fun (r : Int32) (u : Unit) => r = 0) (fun (u : Unit) => [(h0, .inr (2, [.int 0, f1, f2, f3, f4, .int 0, f6, .int 0, .int 0, f9, f10, .int 0, f12, f13, f14, .int 8, .int 0, f17]))]) 0 0 := by
  refine z_starti (own := RX2) (by decide) (Nat.le_of_ble_eq_true rfl) rfl ?_
  intro p e s m below meth c A ls hx hb hr hlocks hml hts hown hin hK hE hP hD hS hA hl
  have hl : lv_has ls 2 [(0, .ref h0), (1, .int k)] := hl
  refine lv_iload_n hx hb dX2_hasRing_0 rfl (lv_at hl 1 rfl) ?_
  refine lv_if_lt (tgt := 16) hx hb dX2_hasRing_1 (by decide) (fun c_1 => ?_) (fun c_1 => ?_)
  · have b_2 := z_b3 c_1 (K := 0) (by decide +kernel)
    refine lv_iconst (v := 0) hx hb dX2_hasRing_16 (by decide) ?_
    exact z_retz hx hb hr hlocks hP hD hS () [0] rfl (by decide) dX2_hasRing_17 (by decide +kernel) rfl
  · have b_3 := z_b4 c_1 (K := 0) (by decide +kernel)
    refine lv_iload_n hx hb dX2_hasRing_4 rfl (lv_at hl 1 rfl) ?_
    refine lv_aload_n hx hb dX2_hasRing_5 rfl (lv_at hl 0 rfl) ?_
    refine va_get (D := G) (ci := 2) (v := .int 0) (C := RX2) (T := TX2) (N := 18) hx hb hts inT2 hown hK hP 0 rfl rfl 8 (by decide) (hts _ tw_279) (fun _ h9 => h9) rfl dX2_hasRing_6 ?_
    refine lv_icmp_ge (tgt := 16) hx hb dX2_hasRing_9 (by decide) (fun _ => ?_) (fun h9 => absurd ((z_ige (K := 0) (by decide +kernel)).mpr (by omega)) h9)
    refine lv_iconst (v := 0) hx hb dX2_hasRing_16 (by decide) ?_
    exact z_retz hx hb hr hlocks hP hD hS () [0] rfl (by decide) dX2_hasRing_17 (by decide +kernel) rfl
set_option maxHeartbeats 4000000 in
set_option maxRecDepth 100000 in
theorem c_H_hasDoor (l : Launch) (G : va_G) (cA : Nat → ClassId) (h0 : Nat) (k : Int32) (f1 : Value) (f2 : Value) (f3 : Value) (f4 : Value) (f6 : Value) (f9 : Value) (f10 : Value) (f12 : Value) (f13 : Value) (f14 : Value) (f17 : Value) : zCi l yX2_hasDoor cX2_hasDoor 2 (some .boolean) ({ frames := 0, cells := 0, slots := 0, locals := 0 }) G cA [.ref h0, .int k] [(h0, .inr (2, [.int 0, f1, f2, f3, f4, .int 0, f6, .int 0, .int 0, f9, f10, .int 0, f12, f13, f14, .int 8, .int 0, f17]))] (S := Unit) (fun (r : Int32) (u : Unit) => r = 0) (fun (u : Unit) => [(h0, .inr (2, [.int 0, f1, f2, f3, f4, .int 0, f6, .int 0, .int 0, f9, f10, .int 0, f12, f13, f14, .int 8, .int 0, f17]))]) 0 0 := by
  refine z_starti (own := RX2) (by decide) (Nat.le_of_ble_eq_true rfl) rfl ?_
  intro p e s m below meth c A ls hx hb hr hlocks hml hts hown hin hK hE hP hD hS hA hl
  have hl : lv_has ls 2 [(0, .ref h0), (1, .int k)] := hl
  refine lv_iload_n hx hb dX2_hasDoor_0 rfl (lv_at hl 1 rfl) ?_
  refine lv_if_lt (tgt := 16) hx hb dX2_hasDoor_1 (by decide) (fun c_1 => ?_) (fun c_1 => ?_)
  · have b_2 := z_b3 c_1 (K := 0) (by decide +kernel)
    refine lv_iconst (v := 0) hx hb dX2_hasDoor_16 (by decide) ?_
    exact z_retz hx hb hr hlocks hP hD hS () [0] rfl (by decide) dX2_hasDoor_17 (by decide +kernel) rfl
  · have b_3 := z_b4 c_1 (K := 0) (by decide +kernel)
    refine lv_iload_n hx hb dX2_hasDoor_4 rfl (lv_at hl 1 rfl) ?_
    refine lv_aload_n hx hb dX2_hasDoor_5 rfl (lv_at hl 0 rfl) ?_
    refine va_get (D := G) (ci := 2) (v := .int 0) (C := RX2) (T := TX2) (N := 18) hx hb hts inT2 hown hK hP 0 rfl rfl 11 (by decide) (hts _ tw_285) (fun _ h9 => h9) rfl dX2_hasDoor_6 ?_
    refine lv_icmp_ge (tgt := 16) hx hb dX2_hasDoor_9 (by decide) (fun _ => ?_) (fun h9 => absurd ((z_ige (K := 0) (by decide +kernel)).mpr (by omega)) h9)
    refine lv_iconst (v := 0) hx hb dX2_hasDoor_16 (by decide) ?_
    exact z_retz hx hb hr hlocks hP hD hS () [0] rfl (by decide) dX2_hasDoor_17 (by decide +kernel) rfl
set_option maxHeartbeats 4000000 in
set_option maxRecDepth 100000 in
theorem c_H_stepsOf (l : Launch) (G : va_G) (cA : Nat → ClassId) (h0 : Nat) (k : Int32) (f1 : Value) (f2 : Value) (f3 : Value) (f4 : Value) (f6 : Value) (f9 : Value) (f10 : Value) (f12 : Value) (f13 : Value) (f14 : Value) (f17 : Value) : zCi l yX2_stepsOf cX2_stepsOf 2 (some .int) ({ frames := 1, cells := 0, slots := 0, locals := 21 }) G cA [.ref h0, .int k] [(h0, .inr (2, [.int 0, f1, f2, f3, f4, .int 0, f6, .int 0, .int 0, f9, f10, .int 0, f12, f13, f14, .int 8, .int 0, f17]))] (S := Unit) (fun (r : Int32) (u : Unit) => r = 0) (fun (u : Unit) => [(h0, .inr (2, [.int 0, f1, f2, f3, f4, .int 0, f6, .int 0, .int 0, f9, f10, .int 0, f12, f13, f14, .int 8, .int 0, f17]))]) 0 0 := by
  refine z_starti (own := RX2) (by decide) (Nat.le_of_ble_eq_true rfl) rfl ?_
  intro p e s m below meth c A ls hx hb hr hlocks hml hts hown hin hK hE hP hD hS hA hl
  have hl : lv_has ls 2 [(0, .ref h0), (1, .int k)] := hl
  refine lv_aload_n hx hb dX2_stepsOf_0 rfl (lv_at hl 0 rfl) ?_
  refine lv_iload_n hx hb dX2_stepsOf_1 rfl (lv_at hl 1 rfl) ?_
  refine z_callVi (As := [.int k]) (rest := []) (wr := []) ⟨hx, hb, hml, hown, hts⟩ hK hE hP hD hS hA (c_H_hasFeature l G cA h0 k f1 f2 f3 f4 f6 f9 f10 f12 f13 f14 f17) lk_RX2_85 ⟨rfl, rfl⟩ ⟨Nat.le_of_ble_eq_true rfl, Nat.le_of_ble_eq_true rfl⟩ 2 rfl rfl rfl [0] [] rfl rfl (by decide) rfl hl.1 rfl (lv_room (Nat.le_of_ble_eq_true rfl)) dX2_stepsOf_2 ⟨Nat.le_of_ble_eq_true rfl, Nat.le_of_ble_eq_true rfl⟩ (fun r_1 u_2 H locs hw hP hD hS => ?_)
  have hP : va_P G vwCl [(h0, .inr (2, [.int 0, f1, f2, f3, f4, .int 0, f6, .int 0, .int 0, f9, f10, .int 0, f12, f13, f14, .int 8, .int 0, f17]))] H := hP
  have hD : va_D A [(h0, .inr (2, [.int 0, f1, f2, f3, f4, .int 0, f6, .int 0, .int 0, f9, f10, .int 0, f12, f13, f14, .int 8, .int 0, f17]))] := hD
  obtain rfl : r_1 = 0 := hw
  refine lv_if_eq (tgt := 19) hx hb dX2_stepsOf_5 (by decide) (fun _ => ?_) (fun h9 => absurd (by decide +kernel) h9)
  refine lv_iconst (v := 0) hx hb dX2_stepsOf_19 (by decide) ?_
  exact z_reti hx hb hr hlocks hP hD hS () [0] rfl (by decide) dX2_stepsOf_20 rfl
set_option maxHeartbeats 4000000 in
set_option maxRecDepth 100000 in
theorem c_H_hasStep (l : Launch) (G : va_G) (cA : Nat → ClassId) (h0 : Nat) (k : Int32) (j : Int32) (f1 : Value) (f2 : Value) (f3 : Value) (f4 : Value) (f6 : Value) (f9 : Value) (f10 : Value) (f12 : Value) (f13 : Value) (f14 : Value) (f17 : Value) : zCi l yX2_hasStep cX2_hasStep 3 (some .boolean) ({ frames := 2, cells := 0, slots := 0, locals := 42 }) G cA [.ref h0, .int k, .int j] [(h0, .inr (2, [.int 0, f1, f2, f3, f4, .int 0, f6, .int 0, .int 0, f9, f10, .int 0, f12, f13, f14, .int 8, .int 0, f17]))] (S := Unit) (fun (r : Int32) (u : Unit) => r = 0) (fun (u : Unit) => [(h0, .inr (2, [.int 0, f1, f2, f3, f4, .int 0, f6, .int 0, .int 0, f9, f10, .int 0, f12, f13, f14, .int 8, .int 0, f17]))]) 0 0 := by
  refine z_starti (own := RX2) (by decide) (Nat.le_of_ble_eq_true rfl) rfl ?_
  intro p e s m below meth c A ls hx hb hr hlocks hml hts hown hin hK hE hP hD hS hA hl
  have hl : lv_has ls 3 [(0, .ref h0), (1, .int k), (2, .int j)] := hl
  refine lv_iload_n hx hb dX2_hasStep_0 rfl (lv_at hl 2 rfl) ?_
  refine lv_if_lt (tgt := 17) hx hb dX2_hasStep_1 (by decide) (fun c_1 => ?_) (fun c_1 => ?_)
  · have b_2 := z_b3 c_1 (K := 0) (by decide +kernel)
    refine lv_iconst (v := 0) hx hb dX2_hasStep_17 (by decide) ?_
    exact z_retz hx hb hr hlocks hP hD hS () [0] rfl (by decide) dX2_hasStep_18 (by decide +kernel) rfl
  · have b_3 := z_b4 c_1 (K := 0) (by decide +kernel)
    refine lv_iload_n hx hb dX2_hasStep_4 rfl (lv_at hl 2 rfl) ?_
    refine lv_aload_n hx hb dX2_hasStep_5 rfl (lv_at hl 0 rfl) ?_
    refine lv_iload_n hx hb dX2_hasStep_6 rfl (lv_at hl 1 rfl) ?_
    refine z_callVi (As := [.int k]) (rest := [.int j]) (wr := []) ⟨hx, hb, hml, hown, hts⟩ hK hE hP hD hS hA (c_H_stepsOf l G cA h0 k f1 f2 f3 f4 f6 f9 f10 f12 f13 f14 f17) lk_RX2_81 ⟨rfl, rfl⟩ ⟨Nat.le_of_ble_eq_true rfl, Nat.le_of_ble_eq_true rfl⟩ 2 rfl rfl rfl [0] [] rfl rfl (by decide) rfl hl.1 rfl (lv_room (Nat.le_of_ble_eq_true rfl)) dX2_hasStep_7 ⟨Nat.le_of_ble_eq_true rfl, Nat.le_of_ble_eq_true rfl⟩ (fun r_4 u_5 H locs hw hP hD hS => ?_)
    have hP : va_P G vwCl [(h0, .inr (2, [.int 0, f1, f2, f3, f4, .int 0, f6, .int 0, .int 0, f9, f10, .int 0, f12, f13, f14, .int 8, .int 0, f17]))] H := hP
    have hD : va_D A [(h0, .inr (2, [.int 0, f1, f2, f3, f4, .int 0, f6, .int 0, .int 0, f9, f10, .int 0, f12, f13, f14, .int 8, .int 0, f17]))] := hD
    obtain rfl : r_4 = 0 := hw
    refine lv_icmp_ge (tgt := 17) hx hb dX2_hasStep_10 (by decide) (fun _ => ?_) (fun h9 => absurd ((z_ige (K := 0) (by decide +kernel)).mpr (by omega)) h9)
    refine lv_iconst (v := 0) hx hb dX2_hasStep_17 (by decide) ?_
    exact z_retz hx hb hr hlocks hP hD hS () [0] rfl (by decide) dX2_hasStep_18 (by decide +kernel) rfl
set_option maxHeartbeats 4000000 in
set_option maxRecDepth 100000 in
theorem c_T_init (l : Launch) (G : va_G) (cA : Nat → ClassId) (h0 : Nat) : zCv l yX10_init cX10_init 1 none ({ frames := 1, cells := 1, slots := 60, locals := 20 }) G cA [.ref h0] [(h0, .inr (10, [.int 0, .int 0, .null]))] (S := Nat) (fun (u : Nat) => True) (fun (u : Nat) => [(h0, .inr (10, [.int 0, .int (-1), .ref u])), (u, .inl (cA 1, 60, .inr (.inl (fun _ => 0))))]) 1 60 := by
  refine z_startv (own := RX10) (by decide) (Nat.le_of_ble_eq_true rfl) rfl ?_
  intro p e s m below meth c A ls hx hb hr hlocks hml hts hown hin hK hE hP hD hS hA hl
  have hl : lv_has ls 1 [(0, .ref h0)] := hl
  refine lv_aload_n hx hb dX10_init_0 rfl (lv_at hl 0 rfl) ?_
  refine W.objInit hx hb hown (hts _ tw_643) (hts _ tw_195) (hts _ tw_196) rfl (by rw [hml]; exact hl.1) rfl dX10_init_1 (Nat.le_of_ble_eq_true rfl) (Nat.le_of_ble_eq_true rfl) ?_
  refine W.eq (g2 := F0 m 4 ls []) rfl ?_
  refine lv_aload_n hx hb dX10_init_4 rfl (lv_at hl 0 rfl) ?_
  refine lv_iconst (v := 0) hx hb dX10_init_5 (by decide) ?_
  refine va_put (D := G) (ci := 10) (v := .int 0) (ty := .int) (C := RX10) (T := TX10) (N := 3) hx hb hts inT10 tyX10 tyX10_ok nmX10 hown hK hP hD hS 0 rfl rfl 0 (by decide) (hts _ tw_644) (fun _ h9 => h9) rfl (tyX10_ok 0 (by decide)) rfl rfl (Nat.le_of_ble_eq_true rfl) dX10_init_6 (fun H locs hP hD hS => ?_)
  have hP : va_P G vwCl [(h0, .inr (10, [.int 0, .int 0, .null]))] H := hP
  have hD : va_D A [(h0, .inr (10, [.int 0, .int 0, .null]))] := hD
  refine lv_aload_n hx hb dX10_init_9 rfl (lv_at hl 0 rfl) ?_
  refine lv_iconst (v := (-1)) hx hb dX10_init_10 (by decide) ?_
  refine va_put (D := G) (ci := 10) (v := .int (-1)) (ty := .int) (C := RX10) (T := TX10) (N := 3) hx hb hts inT10 tyX10 tyX10_ok nmX10 hown hK hP hD hS 0 rfl rfl 1 (by decide) (hts _ tw_646) (fun _ h9 => h9) rfl (tyX10_ok 1 (by decide)) rfl rfl (Nat.le_of_ble_eq_true rfl) dX10_init_11 (fun H locs hP hD hS => ?_)
  have hP : va_P G vwCl [(h0, .inr (10, [.int 0, .int (-1), .null]))] H := hP
  have hD : va_D A [(h0, .inr (10, [.int 0, .int (-1), .null]))] := hD
  refine lv_aload_n hx hb dX10_init_14 rfl (lv_at hl 0 rfl) ?_
  refine lv_bipush (v := 60) hx hb dX10_init_15 (by decide) ?_
  refine z_newa (cA := cA) (atype := .long) (ty := .long) (N' := 60) (a0 := (60, .inr (.inl (fun _ => 0)))) hx hb (hts _ tw_341) rfl 1 rfl (fun _ h9 => by cases h9) hK hP hD hS hA (fun _ => rfl) (by decide +kernel) (by decide +kernel) (Nat.le_of_ble_eq_true rfl) (Nat.le_of_ble_eq_true rfl) (Nat.le_of_ble_eq_true rfl) dX10_init_17 (fun q_1 H hP hD hS => ?_)
  have hP : va_P G vwCl [(h0, .inr (10, [.int 0, .int (-1), .null])), (q_1, .inl (cA 1, 60, .inr (.inl (fun _ => 0))))] H := hP
  have hD : va_D A [(h0, .inr (10, [.int 0, .int (-1), .null])), (q_1, .inl (cA 1, 60, .inr (.inl (fun _ => 0))))] := hD
  refine va_putF (D := G) (ci := 10) (v := .ref q_1) (ty := (.array .long)) (C := RX10) (T := TX10) (N := 3) hx hb hts inT10 tyX10 tyX10_ok nmX10 hown hK hP hD hS 0 rfl rfl 2 (by decide) (hts _ tw_648) (fun _ h9 => h9) rfl hin rfl (tyX10_ok 2 (by decide)) rfl rfl (Nat.le_of_ble_eq_true rfl) dX10_init_19 (fun H locs hP hD hS => ?_)
  have hP : va_P G vwCl [(h0, .inr (10, [.int 0, .int (-1), .ref q_1])), (q_1, .inl (cA 1, 60, .inr (.inl (fun _ => 0))))] H := hP
  have hD : va_D A [(h0, .inr (10, [.int 0, .int (-1), .ref q_1])), (q_1, .inl (cA 1, 60, .inr (.inl (fun _ => 0))))] := hD
  refine W.widen (k := 1) (n := 60) (Nat.le_of_ble_eq_true rfl) (Nat.le_of_ble_eq_true rfl) ?_
  exact z_retv hx hb hr hlocks hP hD hS q_1 [0, 1] rfl (by decide) dX10_init_22 trivial
set_option maxHeartbeats 4000000 in
set_option maxRecDepth 100000 in
theorem c_X_init (l : Launch) (G : va_G) (cA : Nat → ClassId) (h0 : Nat) : zCv l yX8_init cX8_init 1 none ({ frames := 1, cells := 1, slots := 900, locals := 20 }) G cA [.ref h0] [(h0, .inr (8, [.null, .int 0, .int 0, .int 0, .int 0, .int 0, .int 0, .int 0, .long 0, .int 0, .int 0]))] (S := Nat) (fun (u : Nat) => True) (fun (u : Nat) => [(h0, .inr (8, [.ref u, .int 0, .int 0, .int 0, .int 0, .int 0, .int 0, .int 0, .long 0, .int (-1), .int (-1)])), (u, .inl (cA 2, 900, .inl (fun _ => 0)))]) 1 900 := by
  refine z_startv (own := RX8) (by decide) (Nat.le_of_ble_eq_true rfl) rfl ?_
  intro p e s m below meth c A ls hx hb hr hlocks hml hts hown hin hK hE hP hD hS hA hl
  have hl : lv_has ls 1 [(0, .ref h0)] := hl
  refine lv_aload_n hx hb dX8_init_0 rfl (lv_at hl 0 rfl) ?_
  refine W.objInit hx hb hown (hts _ tw_204) (hts _ tw_195) (hts _ tw_196) rfl (by rw [hml]; exact hl.1) rfl dX8_init_1 (Nat.le_of_ble_eq_true rfl) (Nat.le_of_ble_eq_true rfl) ?_
  refine W.eq (g2 := F0 m 4 ls []) rfl ?_
  refine lv_aload_n hx hb dX8_init_4 rfl (lv_at hl 0 rfl) ?_
  refine lv_sipush (v := 900) hx hb dX8_init_5 (by decide) ?_
  refine z_newa (cA := cA) (atype := .byte) (ty := .byte) (N' := 900) (a0 := (900, .inl (fun _ => 0))) hx hb (hts _ tw_247) rfl 2 rfl (fun _ h9 => by cases h9) hK hP hD hS hA (fun _ => rfl) (by decide +kernel) (by decide +kernel) (Nat.le_of_ble_eq_true rfl) (Nat.le_of_ble_eq_true rfl) (Nat.le_of_ble_eq_true rfl) dX8_init_8 (fun q_1 H hP hD hS => ?_)
  have hP : va_P G vwCl [(h0, .inr (8, [.null, .int 0, .int 0, .int 0, .int 0, .int 0, .int 0, .int 0, .long 0, .int 0, .int 0])), (q_1, .inl (cA 2, 900, .inl (fun _ => 0)))] H := hP
  have hD : va_D A [(h0, .inr (8, [.null, .int 0, .int 0, .int 0, .int 0, .int 0, .int 0, .int 0, .long 0, .int 0, .int 0])), (q_1, .inl (cA 2, 900, .inl (fun _ => 0)))] := hD
  refine va_putF (D := G) (ci := 8) (v := .ref q_1) (ty := (.array .byte)) (C := RX8) (T := TX8) (N := 11) hx hb hts inT8 tyX8 tyX8_ok nmX8 hown hK hP hD hS 0 rfl rfl 0 (by decide) (hts _ tw_205) (fun _ h9 => h9) rfl hin rfl (tyX8_ok 0 (by decide)) rfl rfl (Nat.le_of_ble_eq_true rfl) dX8_init_10 (fun H locs hP hD hS => ?_)
  have hP : va_P G vwCl [(h0, .inr (8, [.ref q_1, .int 0, .int 0, .int 0, .int 0, .int 0, .int 0, .int 0, .long 0, .int 0, .int 0])), (q_1, .inl (cA 2, 900, .inl (fun _ => 0)))] H := hP
  have hD : va_D A [(h0, .inr (8, [.ref q_1, .int 0, .int 0, .int 0, .int 0, .int 0, .int 0, .int 0, .long 0, .int 0, .int 0])), (q_1, .inl (cA 2, 900, .inl (fun _ => 0)))] := hD
  refine lv_aload_n hx hb dX8_init_13 rfl (lv_at hl 0 rfl) ?_
  refine lv_iconst (v := 0) hx hb dX8_init_14 (by decide) ?_
  refine va_put (D := G) (ci := 8) (v := .int 0) (ty := .int) (C := RX8) (T := TX8) (N := 11) hx hb hts inT8 tyX8 tyX8_ok nmX8 hown hK hP hD hS 0 rfl rfl 1 (by decide) (hts _ tw_206) (fun _ h9 => h9) rfl (tyX8_ok 1 (by decide)) rfl rfl (Nat.le_of_ble_eq_true rfl) dX8_init_15 (fun H locs hP hD hS => ?_)
  have hP : va_P G vwCl [(h0, .inr (8, [.ref q_1, .int 0, .int 0, .int 0, .int 0, .int 0, .int 0, .int 0, .long 0, .int 0, .int 0])), (q_1, .inl (cA 2, 900, .inl (fun _ => 0)))] H := hP
  have hD : va_D A [(h0, .inr (8, [.ref q_1, .int 0, .int 0, .int 0, .int 0, .int 0, .int 0, .int 0, .long 0, .int 0, .int 0])), (q_1, .inl (cA 2, 900, .inl (fun _ => 0)))] := hD
  refine lv_aload_n hx hb dX8_init_18 rfl (lv_at hl 0 rfl) ?_
  refine lv_iconst (v := (-1)) hx hb dX8_init_19 (by decide) ?_
  refine va_put (D := G) (ci := 8) (v := .int (-1)) (ty := .int) (C := RX8) (T := TX8) (N := 11) hx hb hts inT8 tyX8 tyX8_ok nmX8 hown hK hP hD hS 0 rfl rfl 9 (by decide) (hts _ tw_218) (fun _ h9 => h9) rfl (tyX8_ok 9 (by decide)) rfl rfl (Nat.le_of_ble_eq_true rfl) dX8_init_20 (fun H locs hP hD hS => ?_)
  have hP : va_P G vwCl [(h0, .inr (8, [.ref q_1, .int 0, .int 0, .int 0, .int 0, .int 0, .int 0, .int 0, .long 0, .int (-1), .int 0])), (q_1, .inl (cA 2, 900, .inl (fun _ => 0)))] H := hP
  have hD : va_D A [(h0, .inr (8, [.ref q_1, .int 0, .int 0, .int 0, .int 0, .int 0, .int 0, .int 0, .long 0, .int (-1), .int 0])), (q_1, .inl (cA 2, 900, .inl (fun _ => 0)))] := hD
  refine lv_aload_n hx hb dX8_init_23 rfl (lv_at hl 0 rfl) ?_
  refine lv_iconst (v := (-1)) hx hb dX8_init_24 (by decide) ?_
  refine va_put (D := G) (ci := 8) (v := .int (-1)) (ty := .int) (C := RX8) (T := TX8) (N := 11) hx hb hts inT8 tyX8 tyX8_ok nmX8 hown hK hP hD hS 0 rfl rfl 10 (by decide) (hts _ tw_222) (fun _ h9 => h9) rfl (tyX8_ok 10 (by decide)) rfl rfl (Nat.le_of_ble_eq_true rfl) dX8_init_25 (fun H locs hP hD hS => ?_)
  have hP : va_P G vwCl [(h0, .inr (8, [.ref q_1, .int 0, .int 0, .int 0, .int 0, .int 0, .int 0, .int 0, .long 0, .int (-1), .int (-1)])), (q_1, .inl (cA 2, 900, .inl (fun _ => 0)))] H := hP
  have hD : va_D A [(h0, .inr (8, [.ref q_1, .int 0, .int 0, .int 0, .int 0, .int 0, .int 0, .int 0, .long 0, .int (-1), .int (-1)])), (q_1, .inl (cA 2, 900, .inl (fun _ => 0)))] := hD
  refine W.widen (k := 1) (n := 900) (Nat.le_of_ble_eq_true rfl) (Nat.le_of_ble_eq_true rfl) ?_
  exact z_retv hx hb hr hlocks hP hD hS q_1 [0, 1] rfl (by decide) dX8_init_28 trivial
set_option maxHeartbeats 4000000 in
set_option maxRecDepth 100000 in
theorem c_keepAt4_0 (l : Launch) (G : va_G) (cA : Nat → ClassId) (a : Nat) (f : Nat → Int32) (v : Int32) : zCv l yX11_keepAt cX11_keepAt 3 none ({ frames := 0, cells := 0, slots := 0, locals := 0 }) G cA [.ref a, .int 0, .int v] [(a, .inl (cA 0, 4, .inl f))] (S := Unit) (fun (u : Unit) => True) (fun (u : Unit) => [(a, .inl (cA 0, 4, .inl (upd f (0 : Int32).toNatClampNeg v)))]) 0 0 := by
  refine z_startv (own := RX11) (by decide) (Nat.le_of_ble_eq_true rfl) rfl ?_
  intro p e s m below meth c A ls hx hb hr hlocks hml hts hown hin hK hE hP hD hS hA hl
  have hl : lv_has ls 3 [(0, .ref a), (1, .int 0), (2, .int v)] := hl
  refine lv_iload_n hx hb dX11_keepAt_0 rfl (lv_at hl 1 rfl) ?_
  refine lv_if_lt (tgt := 14) hx hb dX11_keepAt_1 (by decide) (fun h9 => absurd h9 (by decide +kernel)) (fun _ => ?_)
  refine lv_iload_n hx hb dX11_keepAt_4 rfl (lv_at hl 1 rfl) ?_
  refine lv_aload_n hx hb dX11_keepAt_5 rfl (lv_at hl 0 rfl) ?_
  refine va_alen (v := 4) hx hb hK hP 0 0 rfl rfl (show Int32.ofNat 4 = 4 by decide +kernel) dX11_keepAt_6 ?_
  refine lv_icmp_ge (tgt := 14) hx hb dX11_keepAt_7 (by decide) (fun h9 => absurd h9 (by decide +kernel)) (fun _ => ?_)
  refine lv_aload_n hx hb dX11_keepAt_10 rfl (lv_at hl 0 rfl) ?_
  refine lv_iload_n hx hb dX11_keepAt_11 rfl (lv_at hl 1 rfl) ?_
  refine lv_iload_n hx hb dX11_keepAt_12 rfl (lv_at hl 2 rfl) ?_
  refine va_iast hx hb hK hP hD hS 0 0 rfl rfl (z_in (i := 0) (n := 4) (by decide +kernel) (by decide +kernel)) dX11_keepAt_13 (fun H locs hP hD hS => ?_)
  have hP : va_P G vwCl [(a, .inl (cA 0, 4, .inl (upd f (0 : Int32).toNatClampNeg v)))] H := hP
  have hD : va_D A [(a, .inl (cA 0, 4, .inl (upd f (0 : Int32).toNatClampNeg v)))] := hD
  exact z_retv hx hb hr hlocks hP hD hS () [0] rfl (by decide) dX11_keepAt_14 trivial
set_option maxHeartbeats 4000000 in
set_option maxRecDepth 100000 in
theorem c_at4_0 (l : Launch) (G : va_G) (cA : Nat → ClassId) (a : Nat) (f : Nat → Int32) : zCi l yX11_at cX11_at 2 (some .int) ({ frames := 0, cells := 0, slots := 0, locals := 0 }) G cA [.ref a, .int 0] [(a, .inl (cA 0, 4, .inl f))] (S := Unit) (fun (r : Int32) (u : Unit) => r = f (0 : Int32).toNatClampNeg) (fun (u : Unit) => [(a, .inl (cA 0, 4, .inl f))]) 0 0 := by
  refine z_starti (own := RX11) (by decide) (Nat.le_of_ble_eq_true rfl) rfl ?_
  intro p e s m below meth c A ls hx hb hr hlocks hml hts hown hin hK hE hP hD hS hA hl
  have hl : lv_has ls 2 [(0, .ref a), (1, .int 0)] := hl
  refine lv_iload_n hx hb dX11_at_0 rfl (lv_at hl 1 rfl) ?_
  refine lv_if_lt (tgt := 16) hx hb dX11_at_1 (by decide) (fun h9 => absurd h9 (by decide +kernel)) (fun _ => ?_)
  refine lv_iload_n hx hb dX11_at_4 rfl (lv_at hl 1 rfl) ?_
  refine lv_aload_n hx hb dX11_at_5 rfl (lv_at hl 0 rfl) ?_
  refine va_alen (v := 4) hx hb hK hP 0 0 rfl rfl (show Int32.ofNat 4 = 4 by decide +kernel) dX11_at_6 ?_
  refine lv_icmp_ge (tgt := 16) hx hb dX11_at_7 (by decide) (fun h9 => absurd h9 (by decide +kernel)) (fun _ => ?_)
  refine lv_aload_n hx hb dX11_at_10 rfl (lv_at hl 0 rfl) ?_
  refine lv_iload_n hx hb dX11_at_11 rfl (lv_at hl 1 rfl) ?_
  refine va_iald hx hb hK hP 0 0 rfl rfl (z_in (i := 0) (n := 4) (by decide +kernel) (by decide +kernel)) dX11_at_12 ?_
  refine lv_goto (tgt := 17) hx hb dX11_at_13 (by decide) ?_
  exact z_reti hx hb hr hlocks hP hD hS () [0] rfl (by decide) dX11_at_17 rfl
set_option maxHeartbeats 4000000 in
set_option maxRecDepth 100000 in
theorem c_keepAt4_1 (l : Launch) (G : va_G) (cA : Nat → ClassId) (a : Nat) (f : Nat → Int32) (v : Int32) : zCv l yX11_keepAt cX11_keepAt 3 none ({ frames := 0, cells := 0, slots := 0, locals := 0 }) G cA [.ref a, .int 1, .int v] [(a, .inl (cA 0, 4, .inl f))] (S := Unit) (fun (u : Unit) => True) (fun (u : Unit) => [(a, .inl (cA 0, 4, .inl (upd f (1 : Int32).toNatClampNeg v)))]) 0 0 := by
  refine z_startv (own := RX11) (by decide) (Nat.le_of_ble_eq_true rfl) rfl ?_
  intro p e s m below meth c A ls hx hb hr hlocks hml hts hown hin hK hE hP hD hS hA hl
  have hl : lv_has ls 3 [(0, .ref a), (1, .int 1), (2, .int v)] := hl
  refine lv_iload_n hx hb dX11_keepAt_0 rfl (lv_at hl 1 rfl) ?_
  refine lv_if_lt (tgt := 14) hx hb dX11_keepAt_1 (by decide) (fun h9 => absurd h9 (by decide +kernel)) (fun _ => ?_)
  refine lv_iload_n hx hb dX11_keepAt_4 rfl (lv_at hl 1 rfl) ?_
  refine lv_aload_n hx hb dX11_keepAt_5 rfl (lv_at hl 0 rfl) ?_
  refine va_alen (v := 4) hx hb hK hP 0 0 rfl rfl (show Int32.ofNat 4 = 4 by decide +kernel) dX11_keepAt_6 ?_
  refine lv_icmp_ge (tgt := 14) hx hb dX11_keepAt_7 (by decide) (fun h9 => absurd h9 (by decide +kernel)) (fun _ => ?_)
  refine lv_aload_n hx hb dX11_keepAt_10 rfl (lv_at hl 0 rfl) ?_
  refine lv_iload_n hx hb dX11_keepAt_11 rfl (lv_at hl 1 rfl) ?_
  refine lv_iload_n hx hb dX11_keepAt_12 rfl (lv_at hl 2 rfl) ?_
  refine va_iast hx hb hK hP hD hS 0 0 rfl rfl (z_in (i := 1) (n := 4) (by decide +kernel) (by decide +kernel)) dX11_keepAt_13 (fun H locs hP hD hS => ?_)
  have hP : va_P G vwCl [(a, .inl (cA 0, 4, .inl (upd f (1 : Int32).toNatClampNeg v)))] H := hP
  have hD : va_D A [(a, .inl (cA 0, 4, .inl (upd f (1 : Int32).toNatClampNeg v)))] := hD
  exact z_retv hx hb hr hlocks hP hD hS () [0] rfl (by decide) dX11_keepAt_14 trivial
set_option maxHeartbeats 4000000 in
set_option maxRecDepth 100000 in
theorem c_at4_1 (l : Launch) (G : va_G) (cA : Nat → ClassId) (a : Nat) (f : Nat → Int32) : zCi l yX11_at cX11_at 2 (some .int) ({ frames := 0, cells := 0, slots := 0, locals := 0 }) G cA [.ref a, .int 1] [(a, .inl (cA 0, 4, .inl f))] (S := Unit) (fun (r : Int32) (u : Unit) => r = f (1 : Int32).toNatClampNeg) (fun (u : Unit) => [(a, .inl (cA 0, 4, .inl f))]) 0 0 := by
  refine z_starti (own := RX11) (by decide) (Nat.le_of_ble_eq_true rfl) rfl ?_
  intro p e s m below meth c A ls hx hb hr hlocks hml hts hown hin hK hE hP hD hS hA hl
  have hl : lv_has ls 2 [(0, .ref a), (1, .int 1)] := hl
  refine lv_iload_n hx hb dX11_at_0 rfl (lv_at hl 1 rfl) ?_
  refine lv_if_lt (tgt := 16) hx hb dX11_at_1 (by decide) (fun h9 => absurd h9 (by decide +kernel)) (fun _ => ?_)
  refine lv_iload_n hx hb dX11_at_4 rfl (lv_at hl 1 rfl) ?_
  refine lv_aload_n hx hb dX11_at_5 rfl (lv_at hl 0 rfl) ?_
  refine va_alen (v := 4) hx hb hK hP 0 0 rfl rfl (show Int32.ofNat 4 = 4 by decide +kernel) dX11_at_6 ?_
  refine lv_icmp_ge (tgt := 16) hx hb dX11_at_7 (by decide) (fun h9 => absurd h9 (by decide +kernel)) (fun _ => ?_)
  refine lv_aload_n hx hb dX11_at_10 rfl (lv_at hl 0 rfl) ?_
  refine lv_iload_n hx hb dX11_at_11 rfl (lv_at hl 1 rfl) ?_
  refine va_iald hx hb hK hP 0 0 rfl rfl (z_in (i := 1) (n := 4) (by decide +kernel) (by decide +kernel)) dX11_at_12 ?_
  refine lv_goto (tgt := 17) hx hb dX11_at_13 (by decide) ?_
  exact z_reti hx hb hr hlocks hP hD hS () [0] rfl (by decide) dX11_at_17 rfl
set_option maxHeartbeats 4000000 in
set_option maxRecDepth 100000 in
theorem c_keepAt4_2 (l : Launch) (G : va_G) (cA : Nat → ClassId) (a : Nat) (f : Nat → Int32) (v : Int32) : zCv l yX11_keepAt cX11_keepAt 3 none ({ frames := 0, cells := 0, slots := 0, locals := 0 }) G cA [.ref a, .int 2, .int v] [(a, .inl (cA 0, 4, .inl f))] (S := Unit) (fun (u : Unit) => True) (fun (u : Unit) => [(a, .inl (cA 0, 4, .inl (upd f (2 : Int32).toNatClampNeg v)))]) 0 0 := by
  refine z_startv (own := RX11) (by decide) (Nat.le_of_ble_eq_true rfl) rfl ?_
  intro p e s m below meth c A ls hx hb hr hlocks hml hts hown hin hK hE hP hD hS hA hl
  have hl : lv_has ls 3 [(0, .ref a), (1, .int 2), (2, .int v)] := hl
  refine lv_iload_n hx hb dX11_keepAt_0 rfl (lv_at hl 1 rfl) ?_
  refine lv_if_lt (tgt := 14) hx hb dX11_keepAt_1 (by decide) (fun h9 => absurd h9 (by decide +kernel)) (fun _ => ?_)
  refine lv_iload_n hx hb dX11_keepAt_4 rfl (lv_at hl 1 rfl) ?_
  refine lv_aload_n hx hb dX11_keepAt_5 rfl (lv_at hl 0 rfl) ?_
  refine va_alen (v := 4) hx hb hK hP 0 0 rfl rfl (show Int32.ofNat 4 = 4 by decide +kernel) dX11_keepAt_6 ?_
  refine lv_icmp_ge (tgt := 14) hx hb dX11_keepAt_7 (by decide) (fun h9 => absurd h9 (by decide +kernel)) (fun _ => ?_)
  refine lv_aload_n hx hb dX11_keepAt_10 rfl (lv_at hl 0 rfl) ?_
  refine lv_iload_n hx hb dX11_keepAt_11 rfl (lv_at hl 1 rfl) ?_
  refine lv_iload_n hx hb dX11_keepAt_12 rfl (lv_at hl 2 rfl) ?_
  refine va_iast hx hb hK hP hD hS 0 0 rfl rfl (z_in (i := 2) (n := 4) (by decide +kernel) (by decide +kernel)) dX11_keepAt_13 (fun H locs hP hD hS => ?_)
  have hP : va_P G vwCl [(a, .inl (cA 0, 4, .inl (upd f (2 : Int32).toNatClampNeg v)))] H := hP
  have hD : va_D A [(a, .inl (cA 0, 4, .inl (upd f (2 : Int32).toNatClampNeg v)))] := hD
  exact z_retv hx hb hr hlocks hP hD hS () [0] rfl (by decide) dX11_keepAt_14 trivial
set_option maxHeartbeats 4000000 in
set_option maxRecDepth 100000 in
theorem c_at4_2 (l : Launch) (G : va_G) (cA : Nat → ClassId) (a : Nat) (f : Nat → Int32) : zCi l yX11_at cX11_at 2 (some .int) ({ frames := 0, cells := 0, slots := 0, locals := 0 }) G cA [.ref a, .int 2] [(a, .inl (cA 0, 4, .inl f))] (S := Unit) (fun (r : Int32) (u : Unit) => r = f (2 : Int32).toNatClampNeg) (fun (u : Unit) => [(a, .inl (cA 0, 4, .inl f))]) 0 0 := by
  refine z_starti (own := RX11) (by decide) (Nat.le_of_ble_eq_true rfl) rfl ?_
  intro p e s m below meth c A ls hx hb hr hlocks hml hts hown hin hK hE hP hD hS hA hl
  have hl : lv_has ls 2 [(0, .ref a), (1, .int 2)] := hl
  refine lv_iload_n hx hb dX11_at_0 rfl (lv_at hl 1 rfl) ?_
  refine lv_if_lt (tgt := 16) hx hb dX11_at_1 (by decide) (fun h9 => absurd h9 (by decide +kernel)) (fun _ => ?_)
  refine lv_iload_n hx hb dX11_at_4 rfl (lv_at hl 1 rfl) ?_
  refine lv_aload_n hx hb dX11_at_5 rfl (lv_at hl 0 rfl) ?_
  refine va_alen (v := 4) hx hb hK hP 0 0 rfl rfl (show Int32.ofNat 4 = 4 by decide +kernel) dX11_at_6 ?_
  refine lv_icmp_ge (tgt := 16) hx hb dX11_at_7 (by decide) (fun h9 => absurd h9 (by decide +kernel)) (fun _ => ?_)
  refine lv_aload_n hx hb dX11_at_10 rfl (lv_at hl 0 rfl) ?_
  refine lv_iload_n hx hb dX11_at_11 rfl (lv_at hl 1 rfl) ?_
  refine va_iald hx hb hK hP 0 0 rfl rfl (z_in (i := 2) (n := 4) (by decide +kernel) (by decide +kernel)) dX11_at_12 ?_
  refine lv_goto (tgt := 17) hx hb dX11_at_13 (by decide) ?_
  exact z_reti hx hb hr hlocks hP hD hS () [0] rfl (by decide) dX11_at_17 rfl
set_option maxHeartbeats 4000000 in
set_option maxRecDepth 100000 in
theorem c_keepAt4_3 (l : Launch) (G : va_G) (cA : Nat → ClassId) (a : Nat) (f : Nat → Int32) (v : Int32) : zCv l yX11_keepAt cX11_keepAt 3 none ({ frames := 0, cells := 0, slots := 0, locals := 0 }) G cA [.ref a, .int 3, .int v] [(a, .inl (cA 0, 4, .inl f))] (S := Unit) (fun (u : Unit) => True) (fun (u : Unit) => [(a, .inl (cA 0, 4, .inl (upd f (3 : Int32).toNatClampNeg v)))]) 0 0 := by
  refine z_startv (own := RX11) (by decide) (Nat.le_of_ble_eq_true rfl) rfl ?_
  intro p e s m below meth c A ls hx hb hr hlocks hml hts hown hin hK hE hP hD hS hA hl
  have hl : lv_has ls 3 [(0, .ref a), (1, .int 3), (2, .int v)] := hl
  refine lv_iload_n hx hb dX11_keepAt_0 rfl (lv_at hl 1 rfl) ?_
  refine lv_if_lt (tgt := 14) hx hb dX11_keepAt_1 (by decide) (fun h9 => absurd h9 (by decide +kernel)) (fun _ => ?_)
  refine lv_iload_n hx hb dX11_keepAt_4 rfl (lv_at hl 1 rfl) ?_
  refine lv_aload_n hx hb dX11_keepAt_5 rfl (lv_at hl 0 rfl) ?_
  refine va_alen (v := 4) hx hb hK hP 0 0 rfl rfl (show Int32.ofNat 4 = 4 by decide +kernel) dX11_keepAt_6 ?_
  refine lv_icmp_ge (tgt := 14) hx hb dX11_keepAt_7 (by decide) (fun h9 => absurd h9 (by decide +kernel)) (fun _ => ?_)
  refine lv_aload_n hx hb dX11_keepAt_10 rfl (lv_at hl 0 rfl) ?_
  refine lv_iload_n hx hb dX11_keepAt_11 rfl (lv_at hl 1 rfl) ?_
  refine lv_iload_n hx hb dX11_keepAt_12 rfl (lv_at hl 2 rfl) ?_
  refine va_iast hx hb hK hP hD hS 0 0 rfl rfl (z_in (i := 3) (n := 4) (by decide +kernel) (by decide +kernel)) dX11_keepAt_13 (fun H locs hP hD hS => ?_)
  have hP : va_P G vwCl [(a, .inl (cA 0, 4, .inl (upd f (3 : Int32).toNatClampNeg v)))] H := hP
  have hD : va_D A [(a, .inl (cA 0, 4, .inl (upd f (3 : Int32).toNatClampNeg v)))] := hD
  exact z_retv hx hb hr hlocks hP hD hS () [0] rfl (by decide) dX11_keepAt_14 trivial
set_option maxHeartbeats 4000000 in
set_option maxRecDepth 100000 in
theorem c_at4_3 (l : Launch) (G : va_G) (cA : Nat → ClassId) (a : Nat) (f : Nat → Int32) : zCi l yX11_at cX11_at 2 (some .int) ({ frames := 0, cells := 0, slots := 0, locals := 0 }) G cA [.ref a, .int 3] [(a, .inl (cA 0, 4, .inl f))] (S := Unit) (fun (r : Int32) (u : Unit) => r = f (3 : Int32).toNatClampNeg) (fun (u : Unit) => [(a, .inl (cA 0, 4, .inl f))]) 0 0 := by
  refine z_starti (own := RX11) (by decide) (Nat.le_of_ble_eq_true rfl) rfl ?_
  intro p e s m below meth c A ls hx hb hr hlocks hml hts hown hin hK hE hP hD hS hA hl
  have hl : lv_has ls 2 [(0, .ref a), (1, .int 3)] := hl
  refine lv_iload_n hx hb dX11_at_0 rfl (lv_at hl 1 rfl) ?_
  refine lv_if_lt (tgt := 16) hx hb dX11_at_1 (by decide) (fun h9 => absurd h9 (by decide +kernel)) (fun _ => ?_)
  refine lv_iload_n hx hb dX11_at_4 rfl (lv_at hl 1 rfl) ?_
  refine lv_aload_n hx hb dX11_at_5 rfl (lv_at hl 0 rfl) ?_
  refine va_alen (v := 4) hx hb hK hP 0 0 rfl rfl (show Int32.ofNat 4 = 4 by decide +kernel) dX11_at_6 ?_
  refine lv_icmp_ge (tgt := 16) hx hb dX11_at_7 (by decide) (fun h9 => absurd h9 (by decide +kernel)) (fun _ => ?_)
  refine lv_aload_n hx hb dX11_at_10 rfl (lv_at hl 0 rfl) ?_
  refine lv_iload_n hx hb dX11_at_11 rfl (lv_at hl 1 rfl) ?_
  refine va_iald hx hb hK hP 0 0 rfl rfl (z_in (i := 3) (n := 4) (by decide +kernel) (by decide +kernel)) dX11_at_12 ?_
  refine lv_goto (tgt := 17) hx hb dX11_at_13 (by decide) ?_
  exact z_reti hx hb hr hlocks hP hD hS () [0] rfl (by decide) dX11_at_17 rfl
set_option maxHeartbeats 4000000 in
set_option maxRecDepth 100000 in
theorem c_H_setSeconds_0 (l : Launch) (G : va_G) (cA : Nat → ClassId) (h0 : Nat) (a : Nat) (f : Nat → Int32) (v : Int32) (f0 : Value) (f1 : Value) (f2 : Value) (f3 : Value) (f4 : Value) (f5 : Value) (f6 : Value) (f7 : Value) (f8 : Value) (f9 : Value) (f10 : Value) (f11 : Value) (f12 : Value) (f13 : Value) (f15 : Value) (f16 : Value) (f17 : Value) : zCv l yX2_setSeconds cX2_setSeconds 3 none ({ frames := 1, cells := 0, slots := 0, locals := 22 }) G cA [.ref h0, .int 0, .int v] [(h0, .inr (2, [f0, f1, f2, f3, f4, f5, f6, f7, f8, f9, f10, f11, f12, f13, .ref a, f15, f16, f17])), (a, .inl (cA 0, 4, .inl f))] (S := Unit) (fun (u : Unit) => True) (fun (u : Unit) => [(h0, .inr (2, [f0, f1, f2, f3, f4, f5, f6, f7, f8, f9, f10, f11, f12, f13, .ref a, f15, f16, f17])), (a, .inl (cA 0, 4, .inl (upd f (0 : Int32).toNatClampNeg v)))]) 0 0 := by
  refine z_startv (own := RX2) (by decide) (Nat.le_of_ble_eq_true rfl) rfl ?_
  intro p e s m below meth c A ls hx hb hr hlocks hml hts hown hin hK hE hP hD hS hA hl
  have hl : lv_has ls 3 [(0, .ref h0), (1, .int 0), (2, .int v)] := hl
  refine lv_aload_n hx hb dX2_setSeconds_0 rfl (lv_at hl 0 rfl) ?_
  refine va_get (D := G) (ci := 2) (v := .ref a) (C := RX2) (T := TX2) (N := 18) hx hb hts inT2 hown hK hP 0 rfl rfl 14 (by decide) (hts _ tw_291) (fun _ h9 => h9) rfl dX2_setSeconds_1 ?_
  refine lv_iload_n hx hb dX2_setSeconds_4 rfl (lv_at hl 1 rfl) ?_
  refine lv_iload_n hx hb dX2_setSeconds_5 rfl (lv_at hl 2 rfl) ?_
  refine z_callSNv (As := [.ref a, .int 0, .int v]) (rest := []) (wr := [(h0, .inr (2, [f0, f1, f2, f3, f4, f5, f6, f7, f8, f9, f10, f11, f12, f13, .ref a, f15, f16, f17]))]) ⟨hx, hb, hml, hown, hts⟩ hK hE hP hD hS hA (c_keepAt4_0 l G cA a f v) lk_RX2_126 ⟨rfl, rfl⟩ ⟨Nat.le_of_ble_eq_true rfl, Nat.le_of_ble_eq_true rfl⟩ [1] [0] rfl rfl (by decide) rfl hl.1 rfl (lv_room (Nat.le_of_ble_eq_true rfl)) dX2_setSeconds_6 ⟨Nat.le_of_ble_eq_true rfl, Nat.le_of_ble_eq_true rfl⟩ (fun u_2 H locs hw hP hD hS => ?_)
  have hP : va_P G vwCl [(h0, .inr (2, [f0, f1, f2, f3, f4, f5, f6, f7, f8, f9, f10, f11, f12, f13, .ref a, f15, f16, f17])), (a, .inl (cA 0, 4, .inl (upd f (0 : Int32).toNatClampNeg v)))] H := hP
  have hD : va_D A [(h0, .inr (2, [f0, f1, f2, f3, f4, f5, f6, f7, f8, f9, f10, f11, f12, f13, .ref a, f15, f16, f17])), (a, .inl (cA 0, 4, .inl (upd f (0 : Int32).toNatClampNeg v)))] := hD
  exact z_retv hx hb hr hlocks hP hD hS () [0, 1] rfl (by decide) dX2_setSeconds_9 trivial
set_option maxHeartbeats 4000000 in
set_option maxRecDepth 100000 in
theorem c_H_secondsOf_0 (l : Launch) (G : va_G) (cA : Nat → ClassId) (h0 : Nat) (a : Nat) (f : Nat → Int32) (f0 : Value) (f1 : Value) (f2 : Value) (f3 : Value) (f4 : Value) (f5 : Value) (f6 : Value) (f7 : Value) (f8 : Value) (f9 : Value) (f10 : Value) (f11 : Value) (f12 : Value) (f13 : Value) (f15 : Value) (f16 : Value) (f17 : Value) (hs : zSec f) : zCi l yX2_secondsOf cX2_secondsOf 2 (some .int) ({ frames := 1, cells := 0, slots := 0, locals := 21 }) G cA [.ref h0, .int 0] [(h0, .inr (2, [f0, f1, f2, f3, f4, f5, f6, f7, f8, f9, f10, f11, f12, f13, .ref a, f15, f16, f17])), (a, .inl (cA 0, 4, .inl f))] (S := Unit) (fun (r : Int32) (u : Unit) => r = 1) (fun (u : Unit) => [(h0, .inr (2, [f0, f1, f2, f3, f4, f5, f6, f7, f8, f9, f10, f11, f12, f13, .ref a, f15, f16, f17])), (a, .inl (cA 0, 4, .inl f))]) 0 0 := by
  refine z_starti (own := RX2) (by decide) (Nat.le_of_ble_eq_true rfl) rfl ?_
  intro p e s m below meth c A ls hx hb hr hlocks hml hts hown hin hK hE hP hD hS hA hl
  have hl : lv_has ls 2 [(0, .ref h0), (1, .int 0)] := hl
  refine lv_aload_n hx hb dX2_secondsOf_0 rfl (lv_at hl 0 rfl) ?_
  refine va_get (D := G) (ci := 2) (v := .ref a) (C := RX2) (T := TX2) (N := 18) hx hb hts inT2 hown hK hP 0 rfl rfl 14 (by decide) (hts _ tw_291) (fun _ h9 => h9) rfl dX2_secondsOf_1 ?_
  refine lv_iload_n hx hb dX2_secondsOf_4 rfl (lv_at hl 1 rfl) ?_
  refine z_callSNi (As := [.ref a, .int 0]) (rest := []) (wr := [(h0, .inr (2, [f0, f1, f2, f3, f4, f5, f6, f7, f8, f9, f10, f11, f12, f13, .ref a, f15, f16, f17]))]) ⟨hx, hb, hml, hown, hts⟩ hK hE hP hD hS hA (c_at4_0 l G cA a f) lk_RX2_89 ⟨rfl, rfl⟩ ⟨Nat.le_of_ble_eq_true rfl, Nat.le_of_ble_eq_true rfl⟩ [1] [0] rfl rfl (by decide) rfl hl.1 rfl (lv_room (Nat.le_of_ble_eq_true rfl)) dX2_secondsOf_5 ⟨Nat.le_of_ble_eq_true rfl, Nat.le_of_ble_eq_true rfl⟩ (fun r_1 u_2 H locs hw hP hD hS => ?_)
  have hP : va_P G vwCl [(h0, .inr (2, [f0, f1, f2, f3, f4, f5, f6, f7, f8, f9, f10, f11, f12, f13, .ref a, f15, f16, f17])), (a, .inl (cA 0, 4, .inl f))] H := hP
  have hD : va_D A [(h0, .inr (2, [f0, f1, f2, f3, f4, f5, f6, f7, f8, f9, f10, f11, f12, f13, .ref a, f15, f16, f17])), (a, .inl (cA 0, 4, .inl f))] := hD
  obtain rfl : r_1 = f (0 : Int32).toNatClampNeg := hw
  exact z_reti hx hb hr hlocks hP hD hS () [0, 1] rfl (by decide) dX2_secondsOf_8 (z_sec0 hs)
set_option maxHeartbeats 4000000 in
set_option maxRecDepth 100000 in
theorem c_H_setSeconds_1 (l : Launch) (G : va_G) (cA : Nat → ClassId) (h0 : Nat) (a : Nat) (f : Nat → Int32) (v : Int32) (f0 : Value) (f1 : Value) (f2 : Value) (f3 : Value) (f4 : Value) (f5 : Value) (f6 : Value) (f7 : Value) (f8 : Value) (f9 : Value) (f10 : Value) (f11 : Value) (f12 : Value) (f13 : Value) (f15 : Value) (f16 : Value) (f17 : Value) : zCv l yX2_setSeconds cX2_setSeconds 3 none ({ frames := 1, cells := 0, slots := 0, locals := 22 }) G cA [.ref h0, .int 1, .int v] [(h0, .inr (2, [f0, f1, f2, f3, f4, f5, f6, f7, f8, f9, f10, f11, f12, f13, .ref a, f15, f16, f17])), (a, .inl (cA 0, 4, .inl f))] (S := Unit) (fun (u : Unit) => True) (fun (u : Unit) => [(h0, .inr (2, [f0, f1, f2, f3, f4, f5, f6, f7, f8, f9, f10, f11, f12, f13, .ref a, f15, f16, f17])), (a, .inl (cA 0, 4, .inl (upd f (1 : Int32).toNatClampNeg v)))]) 0 0 := by
  refine z_startv (own := RX2) (by decide) (Nat.le_of_ble_eq_true rfl) rfl ?_
  intro p e s m below meth c A ls hx hb hr hlocks hml hts hown hin hK hE hP hD hS hA hl
  have hl : lv_has ls 3 [(0, .ref h0), (1, .int 1), (2, .int v)] := hl
  refine lv_aload_n hx hb dX2_setSeconds_0 rfl (lv_at hl 0 rfl) ?_
  refine va_get (D := G) (ci := 2) (v := .ref a) (C := RX2) (T := TX2) (N := 18) hx hb hts inT2 hown hK hP 0 rfl rfl 14 (by decide) (hts _ tw_291) (fun _ h9 => h9) rfl dX2_setSeconds_1 ?_
  refine lv_iload_n hx hb dX2_setSeconds_4 rfl (lv_at hl 1 rfl) ?_
  refine lv_iload_n hx hb dX2_setSeconds_5 rfl (lv_at hl 2 rfl) ?_
  refine z_callSNv (As := [.ref a, .int 1, .int v]) (rest := []) (wr := [(h0, .inr (2, [f0, f1, f2, f3, f4, f5, f6, f7, f8, f9, f10, f11, f12, f13, .ref a, f15, f16, f17]))]) ⟨hx, hb, hml, hown, hts⟩ hK hE hP hD hS hA (c_keepAt4_1 l G cA a f v) lk_RX2_126 ⟨rfl, rfl⟩ ⟨Nat.le_of_ble_eq_true rfl, Nat.le_of_ble_eq_true rfl⟩ [1] [0] rfl rfl (by decide) rfl hl.1 rfl (lv_room (Nat.le_of_ble_eq_true rfl)) dX2_setSeconds_6 ⟨Nat.le_of_ble_eq_true rfl, Nat.le_of_ble_eq_true rfl⟩ (fun u_2 H locs hw hP hD hS => ?_)
  have hP : va_P G vwCl [(h0, .inr (2, [f0, f1, f2, f3, f4, f5, f6, f7, f8, f9, f10, f11, f12, f13, .ref a, f15, f16, f17])), (a, .inl (cA 0, 4, .inl (upd f (1 : Int32).toNatClampNeg v)))] H := hP
  have hD : va_D A [(h0, .inr (2, [f0, f1, f2, f3, f4, f5, f6, f7, f8, f9, f10, f11, f12, f13, .ref a, f15, f16, f17])), (a, .inl (cA 0, 4, .inl (upd f (1 : Int32).toNatClampNeg v)))] := hD
  exact z_retv hx hb hr hlocks hP hD hS () [0, 1] rfl (by decide) dX2_setSeconds_9 trivial
set_option maxHeartbeats 4000000 in
set_option maxRecDepth 100000 in
theorem c_H_secondsOf_1 (l : Launch) (G : va_G) (cA : Nat → ClassId) (h0 : Nat) (a : Nat) (f : Nat → Int32) (f0 : Value) (f1 : Value) (f2 : Value) (f3 : Value) (f4 : Value) (f5 : Value) (f6 : Value) (f7 : Value) (f8 : Value) (f9 : Value) (f10 : Value) (f11 : Value) (f12 : Value) (f13 : Value) (f15 : Value) (f16 : Value) (f17 : Value) (hs : zSec f) : zCi l yX2_secondsOf cX2_secondsOf 2 (some .int) ({ frames := 1, cells := 0, slots := 0, locals := 21 }) G cA [.ref h0, .int 1] [(h0, .inr (2, [f0, f1, f2, f3, f4, f5, f6, f7, f8, f9, f10, f11, f12, f13, .ref a, f15, f16, f17])), (a, .inl (cA 0, 4, .inl f))] (S := Unit) (fun (r : Int32) (u : Unit) => r = 4) (fun (u : Unit) => [(h0, .inr (2, [f0, f1, f2, f3, f4, f5, f6, f7, f8, f9, f10, f11, f12, f13, .ref a, f15, f16, f17])), (a, .inl (cA 0, 4, .inl f))]) 0 0 := by
  refine z_starti (own := RX2) (by decide) (Nat.le_of_ble_eq_true rfl) rfl ?_
  intro p e s m below meth c A ls hx hb hr hlocks hml hts hown hin hK hE hP hD hS hA hl
  have hl : lv_has ls 2 [(0, .ref h0), (1, .int 1)] := hl
  refine lv_aload_n hx hb dX2_secondsOf_0 rfl (lv_at hl 0 rfl) ?_
  refine va_get (D := G) (ci := 2) (v := .ref a) (C := RX2) (T := TX2) (N := 18) hx hb hts inT2 hown hK hP 0 rfl rfl 14 (by decide) (hts _ tw_291) (fun _ h9 => h9) rfl dX2_secondsOf_1 ?_
  refine lv_iload_n hx hb dX2_secondsOf_4 rfl (lv_at hl 1 rfl) ?_
  refine z_callSNi (As := [.ref a, .int 1]) (rest := []) (wr := [(h0, .inr (2, [f0, f1, f2, f3, f4, f5, f6, f7, f8, f9, f10, f11, f12, f13, .ref a, f15, f16, f17]))]) ⟨hx, hb, hml, hown, hts⟩ hK hE hP hD hS hA (c_at4_1 l G cA a f) lk_RX2_89 ⟨rfl, rfl⟩ ⟨Nat.le_of_ble_eq_true rfl, Nat.le_of_ble_eq_true rfl⟩ [1] [0] rfl rfl (by decide) rfl hl.1 rfl (lv_room (Nat.le_of_ble_eq_true rfl)) dX2_secondsOf_5 ⟨Nat.le_of_ble_eq_true rfl, Nat.le_of_ble_eq_true rfl⟩ (fun r_1 u_2 H locs hw hP hD hS => ?_)
  have hP : va_P G vwCl [(h0, .inr (2, [f0, f1, f2, f3, f4, f5, f6, f7, f8, f9, f10, f11, f12, f13, .ref a, f15, f16, f17])), (a, .inl (cA 0, 4, .inl f))] H := hP
  have hD : va_D A [(h0, .inr (2, [f0, f1, f2, f3, f4, f5, f6, f7, f8, f9, f10, f11, f12, f13, .ref a, f15, f16, f17])), (a, .inl (cA 0, 4, .inl f))] := hD
  obtain rfl : r_1 = f (1 : Int32).toNatClampNeg := hw
  exact z_reti hx hb hr hlocks hP hD hS () [0, 1] rfl (by decide) dX2_secondsOf_8 (z_sec1 hs)
set_option maxHeartbeats 4000000 in
set_option maxRecDepth 100000 in
theorem c_H_setSeconds_2 (l : Launch) (G : va_G) (cA : Nat → ClassId) (h0 : Nat) (a : Nat) (f : Nat → Int32) (v : Int32) (f0 : Value) (f1 : Value) (f2 : Value) (f3 : Value) (f4 : Value) (f5 : Value) (f6 : Value) (f7 : Value) (f8 : Value) (f9 : Value) (f10 : Value) (f11 : Value) (f12 : Value) (f13 : Value) (f15 : Value) (f16 : Value) (f17 : Value) : zCv l yX2_setSeconds cX2_setSeconds 3 none ({ frames := 1, cells := 0, slots := 0, locals := 22 }) G cA [.ref h0, .int 2, .int v] [(h0, .inr (2, [f0, f1, f2, f3, f4, f5, f6, f7, f8, f9, f10, f11, f12, f13, .ref a, f15, f16, f17])), (a, .inl (cA 0, 4, .inl f))] (S := Unit) (fun (u : Unit) => True) (fun (u : Unit) => [(h0, .inr (2, [f0, f1, f2, f3, f4, f5, f6, f7, f8, f9, f10, f11, f12, f13, .ref a, f15, f16, f17])), (a, .inl (cA 0, 4, .inl (upd f (2 : Int32).toNatClampNeg v)))]) 0 0 := by
  refine z_startv (own := RX2) (by decide) (Nat.le_of_ble_eq_true rfl) rfl ?_
  intro p e s m below meth c A ls hx hb hr hlocks hml hts hown hin hK hE hP hD hS hA hl
  have hl : lv_has ls 3 [(0, .ref h0), (1, .int 2), (2, .int v)] := hl
  refine lv_aload_n hx hb dX2_setSeconds_0 rfl (lv_at hl 0 rfl) ?_
  refine va_get (D := G) (ci := 2) (v := .ref a) (C := RX2) (T := TX2) (N := 18) hx hb hts inT2 hown hK hP 0 rfl rfl 14 (by decide) (hts _ tw_291) (fun _ h9 => h9) rfl dX2_setSeconds_1 ?_
  refine lv_iload_n hx hb dX2_setSeconds_4 rfl (lv_at hl 1 rfl) ?_
  refine lv_iload_n hx hb dX2_setSeconds_5 rfl (lv_at hl 2 rfl) ?_
  refine z_callSNv (As := [.ref a, .int 2, .int v]) (rest := []) (wr := [(h0, .inr (2, [f0, f1, f2, f3, f4, f5, f6, f7, f8, f9, f10, f11, f12, f13, .ref a, f15, f16, f17]))]) ⟨hx, hb, hml, hown, hts⟩ hK hE hP hD hS hA (c_keepAt4_2 l G cA a f v) lk_RX2_126 ⟨rfl, rfl⟩ ⟨Nat.le_of_ble_eq_true rfl, Nat.le_of_ble_eq_true rfl⟩ [1] [0] rfl rfl (by decide) rfl hl.1 rfl (lv_room (Nat.le_of_ble_eq_true rfl)) dX2_setSeconds_6 ⟨Nat.le_of_ble_eq_true rfl, Nat.le_of_ble_eq_true rfl⟩ (fun u_2 H locs hw hP hD hS => ?_)
  have hP : va_P G vwCl [(h0, .inr (2, [f0, f1, f2, f3, f4, f5, f6, f7, f8, f9, f10, f11, f12, f13, .ref a, f15, f16, f17])), (a, .inl (cA 0, 4, .inl (upd f (2 : Int32).toNatClampNeg v)))] H := hP
  have hD : va_D A [(h0, .inr (2, [f0, f1, f2, f3, f4, f5, f6, f7, f8, f9, f10, f11, f12, f13, .ref a, f15, f16, f17])), (a, .inl (cA 0, 4, .inl (upd f (2 : Int32).toNatClampNeg v)))] := hD
  exact z_retv hx hb hr hlocks hP hD hS () [0, 1] rfl (by decide) dX2_setSeconds_9 trivial
set_option maxHeartbeats 4000000 in
set_option maxRecDepth 100000 in
theorem c_H_secondsOf_2 (l : Launch) (G : va_G) (cA : Nat → ClassId) (h0 : Nat) (a : Nat) (f : Nat → Int32) (f0 : Value) (f1 : Value) (f2 : Value) (f3 : Value) (f4 : Value) (f5 : Value) (f6 : Value) (f7 : Value) (f8 : Value) (f9 : Value) (f10 : Value) (f11 : Value) (f12 : Value) (f13 : Value) (f15 : Value) (f16 : Value) (f17 : Value) (hs : zSec f) : zCi l yX2_secondsOf cX2_secondsOf 2 (some .int) ({ frames := 1, cells := 0, slots := 0, locals := 21 }) G cA [.ref h0, .int 2] [(h0, .inr (2, [f0, f1, f2, f3, f4, f5, f6, f7, f8, f9, f10, f11, f12, f13, .ref a, f15, f16, f17])), (a, .inl (cA 0, 4, .inl f))] (S := Unit) (fun (r : Int32) (u : Unit) => r = 1) (fun (u : Unit) => [(h0, .inr (2, [f0, f1, f2, f3, f4, f5, f6, f7, f8, f9, f10, f11, f12, f13, .ref a, f15, f16, f17])), (a, .inl (cA 0, 4, .inl f))]) 0 0 := by
  refine z_starti (own := RX2) (by decide) (Nat.le_of_ble_eq_true rfl) rfl ?_
  intro p e s m below meth c A ls hx hb hr hlocks hml hts hown hin hK hE hP hD hS hA hl
  have hl : lv_has ls 2 [(0, .ref h0), (1, .int 2)] := hl
  refine lv_aload_n hx hb dX2_secondsOf_0 rfl (lv_at hl 0 rfl) ?_
  refine va_get (D := G) (ci := 2) (v := .ref a) (C := RX2) (T := TX2) (N := 18) hx hb hts inT2 hown hK hP 0 rfl rfl 14 (by decide) (hts _ tw_291) (fun _ h9 => h9) rfl dX2_secondsOf_1 ?_
  refine lv_iload_n hx hb dX2_secondsOf_4 rfl (lv_at hl 1 rfl) ?_
  refine z_callSNi (As := [.ref a, .int 2]) (rest := []) (wr := [(h0, .inr (2, [f0, f1, f2, f3, f4, f5, f6, f7, f8, f9, f10, f11, f12, f13, .ref a, f15, f16, f17]))]) ⟨hx, hb, hml, hown, hts⟩ hK hE hP hD hS hA (c_at4_2 l G cA a f) lk_RX2_89 ⟨rfl, rfl⟩ ⟨Nat.le_of_ble_eq_true rfl, Nat.le_of_ble_eq_true rfl⟩ [1] [0] rfl rfl (by decide) rfl hl.1 rfl (lv_room (Nat.le_of_ble_eq_true rfl)) dX2_secondsOf_5 ⟨Nat.le_of_ble_eq_true rfl, Nat.le_of_ble_eq_true rfl⟩ (fun r_1 u_2 H locs hw hP hD hS => ?_)
  have hP : va_P G vwCl [(h0, .inr (2, [f0, f1, f2, f3, f4, f5, f6, f7, f8, f9, f10, f11, f12, f13, .ref a, f15, f16, f17])), (a, .inl (cA 0, 4, .inl f))] H := hP
  have hD : va_D A [(h0, .inr (2, [f0, f1, f2, f3, f4, f5, f6, f7, f8, f9, f10, f11, f12, f13, .ref a, f15, f16, f17])), (a, .inl (cA 0, 4, .inl f))] := hD
  obtain rfl : r_1 = f (2 : Int32).toNatClampNeg := hw
  exact z_reti hx hb hr hlocks hP hD hS () [0, 1] rfl (by decide) dX2_secondsOf_8 (z_sec2 hs)
set_option maxHeartbeats 4000000 in
set_option maxRecDepth 100000 in
theorem c_H_setSeconds_3 (l : Launch) (G : va_G) (cA : Nat → ClassId) (h0 : Nat) (a : Nat) (f : Nat → Int32) (v : Int32) (f0 : Value) (f1 : Value) (f2 : Value) (f3 : Value) (f4 : Value) (f5 : Value) (f6 : Value) (f7 : Value) (f8 : Value) (f9 : Value) (f10 : Value) (f11 : Value) (f12 : Value) (f13 : Value) (f15 : Value) (f16 : Value) (f17 : Value) : zCv l yX2_setSeconds cX2_setSeconds 3 none ({ frames := 1, cells := 0, slots := 0, locals := 22 }) G cA [.ref h0, .int 3, .int v] [(h0, .inr (2, [f0, f1, f2, f3, f4, f5, f6, f7, f8, f9, f10, f11, f12, f13, .ref a, f15, f16, f17])), (a, .inl (cA 0, 4, .inl f))] (S := Unit) (fun (u : Unit) => True) (fun (u : Unit) => [(h0, .inr (2, [f0, f1, f2, f3, f4, f5, f6, f7, f8, f9, f10, f11, f12, f13, .ref a, f15, f16, f17])), (a, .inl (cA 0, 4, .inl (upd f (3 : Int32).toNatClampNeg v)))]) 0 0 := by
  refine z_startv (own := RX2) (by decide) (Nat.le_of_ble_eq_true rfl) rfl ?_
  intro p e s m below meth c A ls hx hb hr hlocks hml hts hown hin hK hE hP hD hS hA hl
  have hl : lv_has ls 3 [(0, .ref h0), (1, .int 3), (2, .int v)] := hl
  refine lv_aload_n hx hb dX2_setSeconds_0 rfl (lv_at hl 0 rfl) ?_
  refine va_get (D := G) (ci := 2) (v := .ref a) (C := RX2) (T := TX2) (N := 18) hx hb hts inT2 hown hK hP 0 rfl rfl 14 (by decide) (hts _ tw_291) (fun _ h9 => h9) rfl dX2_setSeconds_1 ?_
  refine lv_iload_n hx hb dX2_setSeconds_4 rfl (lv_at hl 1 rfl) ?_
  refine lv_iload_n hx hb dX2_setSeconds_5 rfl (lv_at hl 2 rfl) ?_
  refine z_callSNv (As := [.ref a, .int 3, .int v]) (rest := []) (wr := [(h0, .inr (2, [f0, f1, f2, f3, f4, f5, f6, f7, f8, f9, f10, f11, f12, f13, .ref a, f15, f16, f17]))]) ⟨hx, hb, hml, hown, hts⟩ hK hE hP hD hS hA (c_keepAt4_3 l G cA a f v) lk_RX2_126 ⟨rfl, rfl⟩ ⟨Nat.le_of_ble_eq_true rfl, Nat.le_of_ble_eq_true rfl⟩ [1] [0] rfl rfl (by decide) rfl hl.1 rfl (lv_room (Nat.le_of_ble_eq_true rfl)) dX2_setSeconds_6 ⟨Nat.le_of_ble_eq_true rfl, Nat.le_of_ble_eq_true rfl⟩ (fun u_2 H locs hw hP hD hS => ?_)
  have hP : va_P G vwCl [(h0, .inr (2, [f0, f1, f2, f3, f4, f5, f6, f7, f8, f9, f10, f11, f12, f13, .ref a, f15, f16, f17])), (a, .inl (cA 0, 4, .inl (upd f (3 : Int32).toNatClampNeg v)))] H := hP
  have hD : va_D A [(h0, .inr (2, [f0, f1, f2, f3, f4, f5, f6, f7, f8, f9, f10, f11, f12, f13, .ref a, f15, f16, f17])), (a, .inl (cA 0, 4, .inl (upd f (3 : Int32).toNatClampNeg v)))] := hD
  exact z_retv hx hb hr hlocks hP hD hS () [0, 1] rfl (by decide) dX2_setSeconds_9 trivial
set_option maxHeartbeats 4000000 in
set_option maxRecDepth 100000 in
theorem c_H_secondsOf_3 (l : Launch) (G : va_G) (cA : Nat → ClassId) (h0 : Nat) (a : Nat) (f : Nat → Int32) (f0 : Value) (f1 : Value) (f2 : Value) (f3 : Value) (f4 : Value) (f5 : Value) (f6 : Value) (f7 : Value) (f8 : Value) (f9 : Value) (f10 : Value) (f11 : Value) (f12 : Value) (f13 : Value) (f15 : Value) (f16 : Value) (f17 : Value) (hs : zSec f) : zCi l yX2_secondsOf cX2_secondsOf 2 (some .int) ({ frames := 1, cells := 0, slots := 0, locals := 21 }) G cA [.ref h0, .int 3] [(h0, .inr (2, [f0, f1, f2, f3, f4, f5, f6, f7, f8, f9, f10, f11, f12, f13, .ref a, f15, f16, f17])), (a, .inl (cA 0, 4, .inl f))] (S := Unit) (fun (r : Int32) (u : Unit) => r = 9) (fun (u : Unit) => [(h0, .inr (2, [f0, f1, f2, f3, f4, f5, f6, f7, f8, f9, f10, f11, f12, f13, .ref a, f15, f16, f17])), (a, .inl (cA 0, 4, .inl f))]) 0 0 := by
  refine z_starti (own := RX2) (by decide) (Nat.le_of_ble_eq_true rfl) rfl ?_
  intro p e s m below meth c A ls hx hb hr hlocks hml hts hown hin hK hE hP hD hS hA hl
  have hl : lv_has ls 2 [(0, .ref h0), (1, .int 3)] := hl
  refine lv_aload_n hx hb dX2_secondsOf_0 rfl (lv_at hl 0 rfl) ?_
  refine va_get (D := G) (ci := 2) (v := .ref a) (C := RX2) (T := TX2) (N := 18) hx hb hts inT2 hown hK hP 0 rfl rfl 14 (by decide) (hts _ tw_291) (fun _ h9 => h9) rfl dX2_secondsOf_1 ?_
  refine lv_iload_n hx hb dX2_secondsOf_4 rfl (lv_at hl 1 rfl) ?_
  refine z_callSNi (As := [.ref a, .int 3]) (rest := []) (wr := [(h0, .inr (2, [f0, f1, f2, f3, f4, f5, f6, f7, f8, f9, f10, f11, f12, f13, .ref a, f15, f16, f17]))]) ⟨hx, hb, hml, hown, hts⟩ hK hE hP hD hS hA (c_at4_3 l G cA a f) lk_RX2_89 ⟨rfl, rfl⟩ ⟨Nat.le_of_ble_eq_true rfl, Nat.le_of_ble_eq_true rfl⟩ [1] [0] rfl rfl (by decide) rfl hl.1 rfl (lv_room (Nat.le_of_ble_eq_true rfl)) dX2_secondsOf_5 ⟨Nat.le_of_ble_eq_true rfl, Nat.le_of_ble_eq_true rfl⟩ (fun r_1 u_2 H locs hw hP hD hS => ?_)
  have hP : va_P G vwCl [(h0, .inr (2, [f0, f1, f2, f3, f4, f5, f6, f7, f8, f9, f10, f11, f12, f13, .ref a, f15, f16, f17])), (a, .inl (cA 0, 4, .inl f))] H := hP
  have hD : va_D A [(h0, .inr (2, [f0, f1, f2, f3, f4, f5, f6, f7, f8, f9, f10, f11, f12, f13, .ref a, f15, f16, f17])), (a, .inl (cA 0, 4, .inl f))] := hD
  obtain rfl : r_1 = f (3 : Int32).toNatClampNeg := hw
  exact z_reti hx hb hr hlocks hP hD hS () [0, 1] rfl (by decide) dX2_secondsOf_8 (z_sec3 hs)
set_option maxHeartbeats 4000000 in
set_option maxRecDepth 100000 in
theorem c_H_clear (l : Launch) (G : va_G) (cA : Nat → ClassId) (h0 : Nat) (a : Nat) (f : Nat → Int32) (f0 : Int32) (f1 : Value) (f2 : Value) (f3 : Value) (f4 : Value) (f5 : Int32) (f6 : Value) (f7 : Int32) (f8 : Int32) (f9 : Value) (f10 : Value) (f11 : Int32) (f12 : Value) (f13 : Value) (f15 : Int32) (f16 : Int32) (f17 : Value) : zCv l yX2_clear cX2_clear 1 none ({ frames := 2, cells := 0, slots := 0, locals := 44 }) G cA [.ref h0] [(h0, .inr (2, [.int f0, f1, f2, f3, f4, .int f5, f6, .int f7, .int f8, f9, f10, .int f11, f12, f13, .ref a, .int f15, .int f16, f17])), (a, .inl (cA 0, 4, .inl f))] (S := (Nat → Int32)) (fun (u : (Nat → Int32)) => zSec u) (fun (u : (Nat → Int32)) => [(h0, .inr (2, [.int 0, f1, f2, f3, f4, .int 0, f6, .int 0, .int 0, f9, f10, .int 0, f12, f13, .ref a, .int 8, .int 0, f17])), (a, .inl (cA 0, 4, .inl u))]) 0 0 := by
  refine z_startv (own := RX2) (by decide) (Nat.le_of_ble_eq_true rfl) rfl ?_
  intro p e s m below meth c A ls hx hb hr hlocks hml hts hown hin hK hE hP hD hS hA hl
  have hl : lv_has ls 1 [(0, .ref h0)] := hl
  refine lv_aload_n hx hb dX2_clear_0 rfl (lv_at hl 0 rfl) ?_
  refine lv_iconst (v := 0) hx hb dX2_clear_1 (by decide) ?_
  refine va_put (D := G) (ci := 2) (v := .int 0) (ty := .int) (C := RX2) (T := TX2) (N := 18) hx hb hts inT2 tyX2 tyX2_ok nmX2 hown hK hP hD hS 0 rfl rfl 0 (by decide) (hts _ tw_265) (fun _ h9 => h9) rfl (tyX2_ok 0 (by decide)) rfl rfl (Nat.le_of_ble_eq_true rfl) dX2_clear_2 (fun H locs hP hD hS => ?_)
  have hP : va_P G vwCl [(h0, .inr (2, [.int 0, f1, f2, f3, f4, .int f5, f6, .int f7, .int f8, f9, f10, .int f11, f12, f13, .ref a, .int f15, .int f16, f17])), (a, .inl (cA 0, 4, .inl f))] H := hP
  have hD : va_D A [(h0, .inr (2, [.int 0, f1, f2, f3, f4, .int f5, f6, .int f7, .int f8, f9, f10, .int f11, f12, f13, .ref a, .int f15, .int f16, f17])), (a, .inl (cA 0, 4, .inl f))] := hD
  refine lv_aload_n hx hb dX2_clear_5 rfl (lv_at hl 0 rfl) ?_
  refine lv_iconst (v := 0) hx hb dX2_clear_6 (by decide) ?_
  refine va_put (D := G) (ci := 2) (v := .int 0) (ty := .int) (C := RX2) (T := TX2) (N := 18) hx hb hts inT2 tyX2 tyX2_ok nmX2 hown hK hP hD hS 0 rfl rfl 5 (by decide) (hts _ tw_274) (fun _ h9 => h9) rfl (tyX2_ok 5 (by decide)) rfl rfl (Nat.le_of_ble_eq_true rfl) dX2_clear_7 (fun H locs hP hD hS => ?_)
  have hP : va_P G vwCl [(h0, .inr (2, [.int 0, f1, f2, f3, f4, .int 0, f6, .int f7, .int f8, f9, f10, .int f11, f12, f13, .ref a, .int f15, .int f16, f17])), (a, .inl (cA 0, 4, .inl f))] H := hP
  have hD : va_D A [(h0, .inr (2, [.int 0, f1, f2, f3, f4, .int 0, f6, .int f7, .int f8, f9, f10, .int f11, f12, f13, .ref a, .int f15, .int f16, f17])), (a, .inl (cA 0, 4, .inl f))] := hD
  refine lv_aload_n hx hb dX2_clear_10 rfl (lv_at hl 0 rfl) ?_
  refine lv_iconst (v := 0) hx hb dX2_clear_11 (by decide) ?_
  refine va_put (D := G) (ci := 2) (v := .int 0) (ty := .int) (C := RX2) (T := TX2) (N := 18) hx hb hts inT2 tyX2 tyX2_ok nmX2 hown hK hP hD hS 0 rfl rfl 7 (by decide) (hts _ tw_278) (fun _ h9 => h9) rfl (tyX2_ok 7 (by decide)) rfl rfl (Nat.le_of_ble_eq_true rfl) dX2_clear_12 (fun H locs hP hD hS => ?_)
  have hP : va_P G vwCl [(h0, .inr (2, [.int 0, f1, f2, f3, f4, .int 0, f6, .int 0, .int f8, f9, f10, .int f11, f12, f13, .ref a, .int f15, .int f16, f17])), (a, .inl (cA 0, 4, .inl f))] H := hP
  have hD : va_D A [(h0, .inr (2, [.int 0, f1, f2, f3, f4, .int 0, f6, .int 0, .int f8, f9, f10, .int f11, f12, f13, .ref a, .int f15, .int f16, f17])), (a, .inl (cA 0, 4, .inl f))] := hD
  refine lv_aload_n hx hb dX2_clear_15 rfl (lv_at hl 0 rfl) ?_
  refine lv_iconst (v := 0) hx hb dX2_clear_16 (by decide) ?_
  refine va_put (D := G) (ci := 2) (v := .int 0) (ty := .int) (C := RX2) (T := TX2) (N := 18) hx hb hts inT2 tyX2 tyX2_ok nmX2 hown hK hP hD hS 0 rfl rfl 8 (by decide) (hts _ tw_279) (fun _ h9 => h9) rfl (tyX2_ok 8 (by decide)) rfl rfl (Nat.le_of_ble_eq_true rfl) dX2_clear_17 (fun H locs hP hD hS => ?_)
  have hP : va_P G vwCl [(h0, .inr (2, [.int 0, f1, f2, f3, f4, .int 0, f6, .int 0, .int 0, f9, f10, .int f11, f12, f13, .ref a, .int f15, .int f16, f17])), (a, .inl (cA 0, 4, .inl f))] H := hP
  have hD : va_D A [(h0, .inr (2, [.int 0, f1, f2, f3, f4, .int 0, f6, .int 0, .int 0, f9, f10, .int f11, f12, f13, .ref a, .int f15, .int f16, f17])), (a, .inl (cA 0, 4, .inl f))] := hD
  refine lv_aload_n hx hb dX2_clear_20 rfl (lv_at hl 0 rfl) ?_
  refine lv_iconst (v := 0) hx hb dX2_clear_21 (by decide) ?_
  refine va_put (D := G) (ci := 2) (v := .int 0) (ty := .int) (C := RX2) (T := TX2) (N := 18) hx hb hts inT2 tyX2 tyX2_ok nmX2 hown hK hP hD hS 0 rfl rfl 11 (by decide) (hts _ tw_285) (fun _ h9 => h9) rfl (tyX2_ok 11 (by decide)) rfl rfl (Nat.le_of_ble_eq_true rfl) dX2_clear_22 (fun H locs hP hD hS => ?_)
  have hP : va_P G vwCl [(h0, .inr (2, [.int 0, f1, f2, f3, f4, .int 0, f6, .int 0, .int 0, f9, f10, .int 0, f12, f13, .ref a, .int f15, .int f16, f17])), (a, .inl (cA 0, 4, .inl f))] H := hP
  have hD : va_D A [(h0, .inr (2, [.int 0, f1, f2, f3, f4, .int 0, f6, .int 0, .int 0, f9, f10, .int 0, f12, f13, .ref a, .int f15, .int f16, f17])), (a, .inl (cA 0, 4, .inl f))] := hD
  refine lv_aload_n hx hb dX2_clear_25 rfl (lv_at hl 0 rfl) ?_
  refine lv_iconst (v := 0) hx hb dX2_clear_26 (by decide) ?_
  refine lv_iconst (v := 1) hx hb dX2_clear_27 (by decide) ?_
  refine z_callVv (As := [.int 0, .int 1]) (rest := []) (wr := []) ⟨hx, hb, hml, hown, hts⟩ hK hE hP hD hS hA (c_H_setSeconds_0 l G cA h0 a f 1 (.int 0) f1 f2 f3 f4 (.int 0) f6 (.int 0) (.int 0) f9 f10 (.int 0) f12 f13 (.int f15) (.int f16) f17) lk_RX2_65 ⟨rfl, rfl⟩ ⟨Nat.le_of_ble_eq_true rfl, Nat.le_of_ble_eq_true rfl⟩ 2 rfl rfl rfl [0, 1] [] rfl rfl (by decide) rfl hl.1 rfl (lv_room (Nat.le_of_ble_eq_true rfl)) dX2_clear_28 ⟨Nat.le_of_ble_eq_true rfl, Nat.le_of_ble_eq_true rfl⟩ (fun u_2 H locs hw hP hD hS => ?_)
  have hP : va_P G vwCl [(h0, .inr (2, [.int 0, f1, f2, f3, f4, .int 0, f6, .int 0, .int 0, f9, f10, .int 0, f12, f13, .ref a, .int f15, .int f16, f17])), (a, .inl (cA 0, 4, .inl (upd f (0 : Int32).toNatClampNeg 1)))] H := hP
  have hD : va_D A [(h0, .inr (2, [.int 0, f1, f2, f3, f4, .int 0, f6, .int 0, .int 0, f9, f10, .int 0, f12, f13, .ref a, .int f15, .int f16, f17])), (a, .inl (cA 0, 4, .inl (upd f (0 : Int32).toNatClampNeg 1)))] := hD
  refine lv_aload_n hx hb dX2_clear_31 rfl (lv_at hl 0 rfl) ?_
  refine lv_iconst (v := 1) hx hb dX2_clear_32 (by decide) ?_
  refine lv_iconst (v := 4) hx hb dX2_clear_33 (by decide) ?_
  refine z_callVv (As := [.int 1, .int 4]) (rest := []) (wr := []) ⟨hx, hb, hml, hown, hts⟩ hK hE hP hD hS hA (c_H_setSeconds_1 l G cA h0 a (upd f (0 : Int32).toNatClampNeg 1) 4 (.int 0) f1 f2 f3 f4 (.int 0) f6 (.int 0) (.int 0) f9 f10 (.int 0) f12 f13 (.int f15) (.int f16) f17) lk_RX2_65 ⟨rfl, rfl⟩ ⟨Nat.le_of_ble_eq_true rfl, Nat.le_of_ble_eq_true rfl⟩ 2 rfl rfl rfl [0, 1] [] rfl rfl (by decide) rfl hl.1 rfl (lv_room (Nat.le_of_ble_eq_true rfl)) dX2_clear_34 ⟨Nat.le_of_ble_eq_true rfl, Nat.le_of_ble_eq_true rfl⟩ (fun u_4 H locs hw hP hD hS => ?_)
  have hP : va_P G vwCl [(h0, .inr (2, [.int 0, f1, f2, f3, f4, .int 0, f6, .int 0, .int 0, f9, f10, .int 0, f12, f13, .ref a, .int f15, .int f16, f17])), (a, .inl (cA 0, 4, .inl (upd (upd f (0 : Int32).toNatClampNeg 1) (1 : Int32).toNatClampNeg 4)))] H := hP
  have hD : va_D A [(h0, .inr (2, [.int 0, f1, f2, f3, f4, .int 0, f6, .int 0, .int 0, f9, f10, .int 0, f12, f13, .ref a, .int f15, .int f16, f17])), (a, .inl (cA 0, 4, .inl (upd (upd f (0 : Int32).toNatClampNeg 1) (1 : Int32).toNatClampNeg 4)))] := hD
  refine lv_aload_n hx hb dX2_clear_37 rfl (lv_at hl 0 rfl) ?_
  refine lv_iconst (v := 2) hx hb dX2_clear_38 (by decide) ?_
  refine lv_iconst (v := 1) hx hb dX2_clear_39 (by decide) ?_
  refine z_callVv (As := [.int 2, .int 1]) (rest := []) (wr := []) ⟨hx, hb, hml, hown, hts⟩ hK hE hP hD hS hA (c_H_setSeconds_2 l G cA h0 a (upd (upd f (0 : Int32).toNatClampNeg 1) (1 : Int32).toNatClampNeg 4) 1 (.int 0) f1 f2 f3 f4 (.int 0) f6 (.int 0) (.int 0) f9 f10 (.int 0) f12 f13 (.int f15) (.int f16) f17) lk_RX2_65 ⟨rfl, rfl⟩ ⟨Nat.le_of_ble_eq_true rfl, Nat.le_of_ble_eq_true rfl⟩ 2 rfl rfl rfl [0, 1] [] rfl rfl (by decide) rfl hl.1 rfl (lv_room (Nat.le_of_ble_eq_true rfl)) dX2_clear_40 ⟨Nat.le_of_ble_eq_true rfl, Nat.le_of_ble_eq_true rfl⟩ (fun u_6 H locs hw hP hD hS => ?_)
  have hP : va_P G vwCl [(h0, .inr (2, [.int 0, f1, f2, f3, f4, .int 0, f6, .int 0, .int 0, f9, f10, .int 0, f12, f13, .ref a, .int f15, .int f16, f17])), (a, .inl (cA 0, 4, .inl (upd (upd (upd f (0 : Int32).toNatClampNeg 1) (1 : Int32).toNatClampNeg 4) (2 : Int32).toNatClampNeg 1)))] H := hP
  have hD : va_D A [(h0, .inr (2, [.int 0, f1, f2, f3, f4, .int 0, f6, .int 0, .int 0, f9, f10, .int 0, f12, f13, .ref a, .int f15, .int f16, f17])), (a, .inl (cA 0, 4, .inl (upd (upd (upd f (0 : Int32).toNatClampNeg 1) (1 : Int32).toNatClampNeg 4) (2 : Int32).toNatClampNeg 1)))] := hD
  refine lv_aload_n hx hb dX2_clear_43 rfl (lv_at hl 0 rfl) ?_
  refine lv_iconst (v := 3) hx hb dX2_clear_44 (by decide) ?_
  refine lv_bipush (v := 9) hx hb dX2_clear_45 (by decide) ?_
  refine z_callVv (As := [.int 3, .int 9]) (rest := []) (wr := []) ⟨hx, hb, hml, hown, hts⟩ hK hE hP hD hS hA (c_H_setSeconds_3 l G cA h0 a (upd (upd (upd f (0 : Int32).toNatClampNeg 1) (1 : Int32).toNatClampNeg 4) (2 : Int32).toNatClampNeg 1) 9 (.int 0) f1 f2 f3 f4 (.int 0) f6 (.int 0) (.int 0) f9 f10 (.int 0) f12 f13 (.int f15) (.int f16) f17) lk_RX2_65 ⟨rfl, rfl⟩ ⟨Nat.le_of_ble_eq_true rfl, Nat.le_of_ble_eq_true rfl⟩ 2 rfl rfl rfl [0, 1] [] rfl rfl (by decide) rfl hl.1 rfl (lv_room (Nat.le_of_ble_eq_true rfl)) dX2_clear_47 ⟨Nat.le_of_ble_eq_true rfl, Nat.le_of_ble_eq_true rfl⟩ (fun u_8 H locs hw hP hD hS => ?_)
  have hP : va_P G vwCl [(h0, .inr (2, [.int 0, f1, f2, f3, f4, .int 0, f6, .int 0, .int 0, f9, f10, .int 0, f12, f13, .ref a, .int f15, .int f16, f17])), (a, .inl (cA 0, 4, .inl (upd (upd (upd (upd f (0 : Int32).toNatClampNeg 1) (1 : Int32).toNatClampNeg 4) (2 : Int32).toNatClampNeg 1) (3 : Int32).toNatClampNeg 9)))] H := hP
  have hD : va_D A [(h0, .inr (2, [.int 0, f1, f2, f3, f4, .int 0, f6, .int 0, .int 0, f9, f10, .int 0, f12, f13, .ref a, .int f15, .int f16, f17])), (a, .inl (cA 0, 4, .inl (upd (upd (upd (upd f (0 : Int32).toNatClampNeg 1) (1 : Int32).toNatClampNeg 4) (2 : Int32).toNatClampNeg 1) (3 : Int32).toNatClampNeg 9)))] := hD
  refine lv_aload_n hx hb dX2_clear_50 rfl (lv_at hl 0 rfl) ?_
  refine lv_bipush (v := 8) hx hb dX2_clear_51 (by decide) ?_
  refine va_put (D := G) (ci := 2) (v := .int 8) (ty := .int) (C := RX2) (T := TX2) (N := 18) hx hb hts inT2 tyX2 tyX2_ok nmX2 hown hK hP hD hS 0 rfl rfl 15 (by decide) (hts _ tw_292) (fun _ h9 => h9) rfl (tyX2_ok 15 (by decide)) rfl rfl (Nat.le_of_ble_eq_true rfl) dX2_clear_53 (fun H locs hP hD hS => ?_)
  have hP : va_P G vwCl [(h0, .inr (2, [.int 0, f1, f2, f3, f4, .int 0, f6, .int 0, .int 0, f9, f10, .int 0, f12, f13, .ref a, .int 8, .int f16, f17])), (a, .inl (cA 0, 4, .inl (upd (upd (upd (upd f (0 : Int32).toNatClampNeg 1) (1 : Int32).toNatClampNeg 4) (2 : Int32).toNatClampNeg 1) (3 : Int32).toNatClampNeg 9)))] H := hP
  have hD : va_D A [(h0, .inr (2, [.int 0, f1, f2, f3, f4, .int 0, f6, .int 0, .int 0, f9, f10, .int 0, f12, f13, .ref a, .int 8, .int f16, f17])), (a, .inl (cA 0, 4, .inl (upd (upd (upd (upd f (0 : Int32).toNatClampNeg 1) (1 : Int32).toNatClampNeg 4) (2 : Int32).toNatClampNeg 1) (3 : Int32).toNatClampNeg 9)))] := hD
  refine lv_aload_n hx hb dX2_clear_56 rfl (lv_at hl 0 rfl) ?_
  refine lv_iconst (v := 0) hx hb dX2_clear_57 (by decide) ?_
  refine va_put (D := G) (ci := 2) (v := .int 0) (ty := .int) (C := RX2) (T := TX2) (N := 18) hx hb hts inT2 tyX2 tyX2_ok nmX2 hown hK hP hD hS 0 rfl rfl 16 (by decide) (hts _ tw_297) (fun _ h9 => h9) rfl (tyX2_ok 16 (by decide)) rfl rfl (Nat.le_of_ble_eq_true rfl) dX2_clear_58 (fun H locs hP hD hS => ?_)
  have hP : va_P G vwCl [(h0, .inr (2, [.int 0, f1, f2, f3, f4, .int 0, f6, .int 0, .int 0, f9, f10, .int 0, f12, f13, .ref a, .int 8, .int 0, f17])), (a, .inl (cA 0, 4, .inl (upd (upd (upd (upd f (0 : Int32).toNatClampNeg 1) (1 : Int32).toNatClampNeg 4) (2 : Int32).toNatClampNeg 1) (3 : Int32).toNatClampNeg 9)))] H := hP
  have hD : va_D A [(h0, .inr (2, [.int 0, f1, f2, f3, f4, .int 0, f6, .int 0, .int 0, f9, f10, .int 0, f12, f13, .ref a, .int 8, .int 0, f17])), (a, .inl (cA 0, 4, .inl (upd (upd (upd (upd f (0 : Int32).toNatClampNeg 1) (1 : Int32).toNatClampNeg 4) (2 : Int32).toNatClampNeg 1) (3 : Int32).toNatClampNeg 9)))] := hD
  exact z_retv hx hb hr hlocks hP hD hS (upd (upd (upd (upd f (0 : Int32).toNatClampNeg 1) (1 : Int32).toNatClampNeg 4) (2 : Int32).toNatClampNeg 1) (3 : Int32).toNatClampNeg 9) [0, 1] rfl (by decide) dX2_clear_61 (z_secs _)
set_option maxHeartbeats 4000000 in
set_option maxRecDepth 100000 in
theorem c_H_init (l : Launch) (G : va_G) (cA : Nat → ClassId) (h0 : Nat) : zCv l yX2_init cX2_init 1 none ({ frames := 3, cells := 11, slots := 146, locals := 64 }) G cA [.ref h0] [(h0, .inr (2, [.int 0, .null, .null, .null, .null, .int 0, .null, .int 0, .int 0, .null, .null, .int 0, .null, .null, .null, .int 0, .int 0, .null]))] (S := Nat × Nat × Nat × Nat × Nat × Nat × Nat × Nat × Nat × Nat × Nat × (Nat → Int32)) (fun (u : Nat × Nat × Nat × Nat × Nat × Nat × Nat × Nat × Nat × Nat × Nat × (Nat → Int32)) => zSec u.2.2.2.2.2.2.2.2.2.2.2) (fun (u : Nat × Nat × Nat × Nat × Nat × Nat × Nat × Nat × Nat × Nat × Nat × (Nat → Int32)) => [(h0, .inr (2, [.int 0, .ref u.1, .ref u.2.1, .ref u.2.2.1, .ref u.2.2.2.1, .int 0, .ref u.2.2.2.2.1, .int 0, .int 0, .ref u.2.2.2.2.2.1, .ref u.2.2.2.2.2.2.1, .int 0, .ref u.2.2.2.2.2.2.2.1, .ref u.2.2.2.2.2.2.2.2.1, .ref u.2.2.2.2.2.2.2.2.2.1, .int 8, .int 0, .ref u.2.2.2.2.2.2.2.2.2.2.1])), (u.1, .inl (cA 1, 3, .inr (.inl (fun _ => 0)))), (u.2.1, .inl (cA 0, 3, .inl (fun _ => 0))), (u.2.2.1, .inl (cA 0, 3, .inl (fun _ => 0))), (u.2.2.2.1, .inl (cA 0, 48, .inl (fun _ => 0))), (u.2.2.2.2.1, .inl (cA 0, 30, .inl (fun _ => 0))), (u.2.2.2.2.2.1, .inl (cA 0, 30, .inl (fun _ => 0))), (u.2.2.2.2.2.2.1, .inl (cA 0, 3, .inl (fun _ => 0))), (u.2.2.2.2.2.2.2.1, .inl (cA 0, 5, .inl (fun _ => 0))), (u.2.2.2.2.2.2.2.2.1, .inl (cA 0, 5, .inl (fun _ => 0))), (u.2.2.2.2.2.2.2.2.2.1, .inl (cA 0, 4, .inl u.2.2.2.2.2.2.2.2.2.2.2)), (u.2.2.2.2.2.2.2.2.2.2.1, .inl (cA 0, 12, .inl (fun _ => 0)))]) 11 146 := by
  refine z_startv (own := RX2) (by decide) (Nat.le_of_ble_eq_true rfl) rfl ?_
  intro p e s m below meth c A ls hx hb hr hlocks hml hts hown hin hK hE hP hD hS hA hl
  have hl : lv_has ls 1 [(0, .ref h0)] := hl
  refine lv_aload_n hx hb dX2_init_0 rfl (lv_at hl 0 rfl) ?_
  refine W.objInit hx hb hown (hts _ tw_253) (hts _ tw_195) (hts _ tw_196) rfl (by rw [hml]; exact hl.1) rfl dX2_init_1 (Nat.le_of_ble_eq_true rfl) (Nat.le_of_ble_eq_true rfl) ?_
  refine W.eq (g2 := F0 m 4 ls []) rfl ?_
  refine lv_aload_n hx hb dX2_init_4 rfl (lv_at hl 0 rfl) ?_
  refine lv_iconst (v := 3) hx hb dX2_init_5 (by decide) ?_
  refine z_newa (cA := cA) (atype := .long) (ty := .long) (N' := 3) (a0 := (3, .inr (.inl (fun _ => 0)))) hx hb (hts _ tw_341) rfl 1 rfl (fun _ h9 => by cases h9) hK hP hD hS hA (fun _ => rfl) (by decide +kernel) (by decide +kernel) (Nat.le_of_ble_eq_true rfl) (Nat.le_of_ble_eq_true rfl) (Nat.le_of_ble_eq_true rfl) dX2_init_6 (fun q_1 H hP hD hS => ?_)
  have hP : va_P G vwCl [(h0, .inr (2, [.int 0, .null, .null, .null, .null, .int 0, .null, .int 0, .int 0, .null, .null, .int 0, .null, .null, .null, .int 0, .int 0, .null])), (q_1, .inl (cA 1, 3, .inr (.inl (fun _ => 0))))] H := hP
  have hD : va_D A [(h0, .inr (2, [.int 0, .null, .null, .null, .null, .int 0, .null, .int 0, .int 0, .null, .null, .int 0, .null, .null, .null, .int 0, .int 0, .null])), (q_1, .inl (cA 1, 3, .inr (.inl (fun _ => 0))))] := hD
  refine va_putF (D := G) (ci := 2) (v := .ref q_1) (ty := (.array .long)) (C := RX2) (T := TX2) (N := 18) hx hb hts inT2 tyX2 tyX2_ok nmX2 hown hK hP hD hS 0 rfl rfl 1 (by decide) (hts _ tw_270) (fun _ h9 => h9) rfl hin rfl (tyX2_ok 1 (by decide)) rfl rfl (Nat.le_of_ble_eq_true rfl) dX2_init_8 (fun H locs hP hD hS => ?_)
  have hP : va_P G vwCl [(h0, .inr (2, [.int 0, .ref q_1, .null, .null, .null, .int 0, .null, .int 0, .int 0, .null, .null, .int 0, .null, .null, .null, .int 0, .int 0, .null])), (q_1, .inl (cA 1, 3, .inr (.inl (fun _ => 0))))] H := hP
  have hD : va_D A [(h0, .inr (2, [.int 0, .ref q_1, .null, .null, .null, .int 0, .null, .int 0, .int 0, .null, .null, .int 0, .null, .null, .null, .int 0, .int 0, .null])), (q_1, .inl (cA 1, 3, .inr (.inl (fun _ => 0))))] := hD
  refine lv_aload_n hx hb dX2_init_11 rfl (lv_at hl 0 rfl) ?_
  refine lv_iconst (v := 3) hx hb dX2_init_12 (by decide) ?_
  refine z_newa (cA := cA) (atype := .int) (ty := .int) (N' := 3) (a0 := (3, .inl (fun _ => 0))) hx hb (hts _ tw_342) rfl 0 rfl (fun _ h9 => by cases h9) hK hP hD hS hA (fun _ => rfl) (by decide +kernel) (by decide +kernel) (Nat.le_of_ble_eq_true rfl) (Nat.le_of_ble_eq_true rfl) (Nat.le_of_ble_eq_true rfl) dX2_init_13 (fun q_2 H hP hD hS => ?_)
  have hP : va_P G vwCl [(h0, .inr (2, [.int 0, .ref q_1, .null, .null, .null, .int 0, .null, .int 0, .int 0, .null, .null, .int 0, .null, .null, .null, .int 0, .int 0, .null])), (q_1, .inl (cA 1, 3, .inr (.inl (fun _ => 0)))), (q_2, .inl (cA 0, 3, .inl (fun _ => 0)))] H := hP
  have hD : va_D A [(h0, .inr (2, [.int 0, .ref q_1, .null, .null, .null, .int 0, .null, .int 0, .int 0, .null, .null, .int 0, .null, .null, .null, .int 0, .int 0, .null])), (q_1, .inl (cA 1, 3, .inr (.inl (fun _ => 0)))), (q_2, .inl (cA 0, 3, .inl (fun _ => 0)))] := hD
  refine va_putF (D := G) (ci := 2) (v := .ref q_2) (ty := (.array .int)) (C := RX2) (T := TX2) (N := 18) hx hb hts inT2 tyX2 tyX2_ok nmX2 hown hK hP hD hS 0 rfl rfl 2 (by decide) (hts _ tw_271) (fun _ h9 => h9) rfl hin rfl (tyX2_ok 2 (by decide)) rfl rfl (Nat.le_of_ble_eq_true rfl) dX2_init_15 (fun H locs hP hD hS => ?_)
  have hP : va_P G vwCl [(h0, .inr (2, [.int 0, .ref q_1, .ref q_2, .null, .null, .int 0, .null, .int 0, .int 0, .null, .null, .int 0, .null, .null, .null, .int 0, .int 0, .null])), (q_1, .inl (cA 1, 3, .inr (.inl (fun _ => 0)))), (q_2, .inl (cA 0, 3, .inl (fun _ => 0)))] H := hP
  have hD : va_D A [(h0, .inr (2, [.int 0, .ref q_1, .ref q_2, .null, .null, .int 0, .null, .int 0, .int 0, .null, .null, .int 0, .null, .null, .null, .int 0, .int 0, .null])), (q_1, .inl (cA 1, 3, .inr (.inl (fun _ => 0)))), (q_2, .inl (cA 0, 3, .inl (fun _ => 0)))] := hD
  refine lv_aload_n hx hb dX2_init_18 rfl (lv_at hl 0 rfl) ?_
  refine lv_iconst (v := 3) hx hb dX2_init_19 (by decide) ?_
  refine z_newa (cA := cA) (atype := .int) (ty := .int) (N' := 3) (a0 := (3, .inl (fun _ => 0))) hx hb (hts _ tw_342) rfl 0 rfl (fun _ h9 => by cases h9) hK hP hD hS hA (fun _ => rfl) (by decide +kernel) (by decide +kernel) (Nat.le_of_ble_eq_true rfl) (Nat.le_of_ble_eq_true rfl) (Nat.le_of_ble_eq_true rfl) dX2_init_20 (fun q_3 H hP hD hS => ?_)
  have hP : va_P G vwCl [(h0, .inr (2, [.int 0, .ref q_1, .ref q_2, .null, .null, .int 0, .null, .int 0, .int 0, .null, .null, .int 0, .null, .null, .null, .int 0, .int 0, .null])), (q_1, .inl (cA 1, 3, .inr (.inl (fun _ => 0)))), (q_2, .inl (cA 0, 3, .inl (fun _ => 0))), (q_3, .inl (cA 0, 3, .inl (fun _ => 0)))] H := hP
  have hD : va_D A [(h0, .inr (2, [.int 0, .ref q_1, .ref q_2, .null, .null, .int 0, .null, .int 0, .int 0, .null, .null, .int 0, .null, .null, .null, .int 0, .int 0, .null])), (q_1, .inl (cA 1, 3, .inr (.inl (fun _ => 0)))), (q_2, .inl (cA 0, 3, .inl (fun _ => 0))), (q_3, .inl (cA 0, 3, .inl (fun _ => 0)))] := hD
  refine va_putF (D := G) (ci := 2) (v := .ref q_3) (ty := (.array .int)) (C := RX2) (T := TX2) (N := 18) hx hb hts inT2 tyX2 tyX2_ok nmX2 hown hK hP hD hS 0 rfl rfl 3 (by decide) (hts _ tw_272) (fun _ h9 => h9) rfl hin rfl (tyX2_ok 3 (by decide)) rfl rfl (Nat.le_of_ble_eq_true rfl) dX2_init_22 (fun H locs hP hD hS => ?_)
  have hP : va_P G vwCl [(h0, .inr (2, [.int 0, .ref q_1, .ref q_2, .ref q_3, .null, .int 0, .null, .int 0, .int 0, .null, .null, .int 0, .null, .null, .null, .int 0, .int 0, .null])), (q_1, .inl (cA 1, 3, .inr (.inl (fun _ => 0)))), (q_2, .inl (cA 0, 3, .inl (fun _ => 0))), (q_3, .inl (cA 0, 3, .inl (fun _ => 0)))] H := hP
  have hD : va_D A [(h0, .inr (2, [.int 0, .ref q_1, .ref q_2, .ref q_3, .null, .int 0, .null, .int 0, .int 0, .null, .null, .int 0, .null, .null, .null, .int 0, .int 0, .null])), (q_1, .inl (cA 1, 3, .inr (.inl (fun _ => 0)))), (q_2, .inl (cA 0, 3, .inl (fun _ => 0))), (q_3, .inl (cA 0, 3, .inl (fun _ => 0)))] := hD
  refine lv_aload_n hx hb dX2_init_25 rfl (lv_at hl 0 rfl) ?_
  refine lv_bipush (v := 48) hx hb dX2_init_26 (by decide) ?_
  refine z_newa (cA := cA) (atype := .int) (ty := .int) (N' := 48) (a0 := (48, .inl (fun _ => 0))) hx hb (hts _ tw_342) rfl 0 rfl (fun _ h9 => by cases h9) hK hP hD hS hA (fun _ => rfl) (by decide +kernel) (by decide +kernel) (Nat.le_of_ble_eq_true rfl) (Nat.le_of_ble_eq_true rfl) (Nat.le_of_ble_eq_true rfl) dX2_init_28 (fun q_4 H hP hD hS => ?_)
  have hP : va_P G vwCl [(h0, .inr (2, [.int 0, .ref q_1, .ref q_2, .ref q_3, .null, .int 0, .null, .int 0, .int 0, .null, .null, .int 0, .null, .null, .null, .int 0, .int 0, .null])), (q_1, .inl (cA 1, 3, .inr (.inl (fun _ => 0)))), (q_2, .inl (cA 0, 3, .inl (fun _ => 0))), (q_3, .inl (cA 0, 3, .inl (fun _ => 0))), (q_4, .inl (cA 0, 48, .inl (fun _ => 0)))] H := hP
  have hD : va_D A [(h0, .inr (2, [.int 0, .ref q_1, .ref q_2, .ref q_3, .null, .int 0, .null, .int 0, .int 0, .null, .null, .int 0, .null, .null, .null, .int 0, .int 0, .null])), (q_1, .inl (cA 1, 3, .inr (.inl (fun _ => 0)))), (q_2, .inl (cA 0, 3, .inl (fun _ => 0))), (q_3, .inl (cA 0, 3, .inl (fun _ => 0))), (q_4, .inl (cA 0, 48, .inl (fun _ => 0)))] := hD
  refine va_putF (D := G) (ci := 2) (v := .ref q_4) (ty := (.array .int)) (C := RX2) (T := TX2) (N := 18) hx hb hts inT2 tyX2 tyX2_ok nmX2 hown hK hP hD hS 0 rfl rfl 4 (by decide) (hts _ tw_273) (fun _ h9 => h9) rfl hin rfl (tyX2_ok 4 (by decide)) rfl rfl (Nat.le_of_ble_eq_true rfl) dX2_init_30 (fun H locs hP hD hS => ?_)
  have hP : va_P G vwCl [(h0, .inr (2, [.int 0, .ref q_1, .ref q_2, .ref q_3, .ref q_4, .int 0, .null, .int 0, .int 0, .null, .null, .int 0, .null, .null, .null, .int 0, .int 0, .null])), (q_1, .inl (cA 1, 3, .inr (.inl (fun _ => 0)))), (q_2, .inl (cA 0, 3, .inl (fun _ => 0))), (q_3, .inl (cA 0, 3, .inl (fun _ => 0))), (q_4, .inl (cA 0, 48, .inl (fun _ => 0)))] H := hP
  have hD : va_D A [(h0, .inr (2, [.int 0, .ref q_1, .ref q_2, .ref q_3, .ref q_4, .int 0, .null, .int 0, .int 0, .null, .null, .int 0, .null, .null, .null, .int 0, .int 0, .null])), (q_1, .inl (cA 1, 3, .inr (.inl (fun _ => 0)))), (q_2, .inl (cA 0, 3, .inl (fun _ => 0))), (q_3, .inl (cA 0, 3, .inl (fun _ => 0))), (q_4, .inl (cA 0, 48, .inl (fun _ => 0)))] := hD
  refine lv_aload_n hx hb dX2_init_33 rfl (lv_at hl 0 rfl) ?_
  refine lv_bipush (v := 30) hx hb dX2_init_34 (by decide) ?_
  refine z_newa (cA := cA) (atype := .int) (ty := .int) (N' := 30) (a0 := (30, .inl (fun _ => 0))) hx hb (hts _ tw_342) rfl 0 rfl (fun _ h9 => by cases h9) hK hP hD hS hA (fun _ => rfl) (by decide +kernel) (by decide +kernel) (Nat.le_of_ble_eq_true rfl) (Nat.le_of_ble_eq_true rfl) (Nat.le_of_ble_eq_true rfl) dX2_init_36 (fun q_5 H hP hD hS => ?_)
  have hP : va_P G vwCl [(h0, .inr (2, [.int 0, .ref q_1, .ref q_2, .ref q_3, .ref q_4, .int 0, .null, .int 0, .int 0, .null, .null, .int 0, .null, .null, .null, .int 0, .int 0, .null])), (q_1, .inl (cA 1, 3, .inr (.inl (fun _ => 0)))), (q_2, .inl (cA 0, 3, .inl (fun _ => 0))), (q_3, .inl (cA 0, 3, .inl (fun _ => 0))), (q_4, .inl (cA 0, 48, .inl (fun _ => 0))), (q_5, .inl (cA 0, 30, .inl (fun _ => 0)))] H := hP
  have hD : va_D A [(h0, .inr (2, [.int 0, .ref q_1, .ref q_2, .ref q_3, .ref q_4, .int 0, .null, .int 0, .int 0, .null, .null, .int 0, .null, .null, .null, .int 0, .int 0, .null])), (q_1, .inl (cA 1, 3, .inr (.inl (fun _ => 0)))), (q_2, .inl (cA 0, 3, .inl (fun _ => 0))), (q_3, .inl (cA 0, 3, .inl (fun _ => 0))), (q_4, .inl (cA 0, 48, .inl (fun _ => 0))), (q_5, .inl (cA 0, 30, .inl (fun _ => 0)))] := hD
  refine va_putF (D := G) (ci := 2) (v := .ref q_5) (ty := (.array .int)) (C := RX2) (T := TX2) (N := 18) hx hb hts inT2 tyX2 tyX2_ok nmX2 hown hK hP hD hS 0 rfl rfl 6 (by decide) (hts _ tw_277) (fun _ h9 => h9) rfl hin rfl (tyX2_ok 6 (by decide)) rfl rfl (Nat.le_of_ble_eq_true rfl) dX2_init_38 (fun H locs hP hD hS => ?_)
  have hP : va_P G vwCl [(h0, .inr (2, [.int 0, .ref q_1, .ref q_2, .ref q_3, .ref q_4, .int 0, .ref q_5, .int 0, .int 0, .null, .null, .int 0, .null, .null, .null, .int 0, .int 0, .null])), (q_1, .inl (cA 1, 3, .inr (.inl (fun _ => 0)))), (q_2, .inl (cA 0, 3, .inl (fun _ => 0))), (q_3, .inl (cA 0, 3, .inl (fun _ => 0))), (q_4, .inl (cA 0, 48, .inl (fun _ => 0))), (q_5, .inl (cA 0, 30, .inl (fun _ => 0)))] H := hP
  have hD : va_D A [(h0, .inr (2, [.int 0, .ref q_1, .ref q_2, .ref q_3, .ref q_4, .int 0, .ref q_5, .int 0, .int 0, .null, .null, .int 0, .null, .null, .null, .int 0, .int 0, .null])), (q_1, .inl (cA 1, 3, .inr (.inl (fun _ => 0)))), (q_2, .inl (cA 0, 3, .inl (fun _ => 0))), (q_3, .inl (cA 0, 3, .inl (fun _ => 0))), (q_4, .inl (cA 0, 48, .inl (fun _ => 0))), (q_5, .inl (cA 0, 30, .inl (fun _ => 0)))] := hD
  refine lv_aload_n hx hb dX2_init_41 rfl (lv_at hl 0 rfl) ?_
  refine lv_bipush (v := 30) hx hb dX2_init_42 (by decide) ?_
  refine z_newa (cA := cA) (atype := .int) (ty := .int) (N' := 30) (a0 := (30, .inl (fun _ => 0))) hx hb (hts _ tw_342) rfl 0 rfl (fun _ h9 => by cases h9) hK hP hD hS hA (fun _ => rfl) (by decide +kernel) (by decide +kernel) (Nat.le_of_ble_eq_true rfl) (Nat.le_of_ble_eq_true rfl) (Nat.le_of_ble_eq_true rfl) dX2_init_44 (fun q_6 H hP hD hS => ?_)
  have hP : va_P G vwCl [(h0, .inr (2, [.int 0, .ref q_1, .ref q_2, .ref q_3, .ref q_4, .int 0, .ref q_5, .int 0, .int 0, .null, .null, .int 0, .null, .null, .null, .int 0, .int 0, .null])), (q_1, .inl (cA 1, 3, .inr (.inl (fun _ => 0)))), (q_2, .inl (cA 0, 3, .inl (fun _ => 0))), (q_3, .inl (cA 0, 3, .inl (fun _ => 0))), (q_4, .inl (cA 0, 48, .inl (fun _ => 0))), (q_5, .inl (cA 0, 30, .inl (fun _ => 0))), (q_6, .inl (cA 0, 30, .inl (fun _ => 0)))] H := hP
  have hD : va_D A [(h0, .inr (2, [.int 0, .ref q_1, .ref q_2, .ref q_3, .ref q_4, .int 0, .ref q_5, .int 0, .int 0, .null, .null, .int 0, .null, .null, .null, .int 0, .int 0, .null])), (q_1, .inl (cA 1, 3, .inr (.inl (fun _ => 0)))), (q_2, .inl (cA 0, 3, .inl (fun _ => 0))), (q_3, .inl (cA 0, 3, .inl (fun _ => 0))), (q_4, .inl (cA 0, 48, .inl (fun _ => 0))), (q_5, .inl (cA 0, 30, .inl (fun _ => 0))), (q_6, .inl (cA 0, 30, .inl (fun _ => 0)))] := hD
  refine va_putF (D := G) (ci := 2) (v := .ref q_6) (ty := (.array .int)) (C := RX2) (T := TX2) (N := 18) hx hb hts inT2 tyX2 tyX2_ok nmX2 hown hK hP hD hS 0 rfl rfl 9 (by decide) (hts _ tw_283) (fun _ h9 => h9) rfl hin rfl (tyX2_ok 9 (by decide)) rfl rfl (Nat.le_of_ble_eq_true rfl) dX2_init_46 (fun H locs hP hD hS => ?_)
  have hP : va_P G vwCl [(h0, .inr (2, [.int 0, .ref q_1, .ref q_2, .ref q_3, .ref q_4, .int 0, .ref q_5, .int 0, .int 0, .ref q_6, .null, .int 0, .null, .null, .null, .int 0, .int 0, .null])), (q_1, .inl (cA 1, 3, .inr (.inl (fun _ => 0)))), (q_2, .inl (cA 0, 3, .inl (fun _ => 0))), (q_3, .inl (cA 0, 3, .inl (fun _ => 0))), (q_4, .inl (cA 0, 48, .inl (fun _ => 0))), (q_5, .inl (cA 0, 30, .inl (fun _ => 0))), (q_6, .inl (cA 0, 30, .inl (fun _ => 0)))] H := hP
  have hD : va_D A [(h0, .inr (2, [.int 0, .ref q_1, .ref q_2, .ref q_3, .ref q_4, .int 0, .ref q_5, .int 0, .int 0, .ref q_6, .null, .int 0, .null, .null, .null, .int 0, .int 0, .null])), (q_1, .inl (cA 1, 3, .inr (.inl (fun _ => 0)))), (q_2, .inl (cA 0, 3, .inl (fun _ => 0))), (q_3, .inl (cA 0, 3, .inl (fun _ => 0))), (q_4, .inl (cA 0, 48, .inl (fun _ => 0))), (q_5, .inl (cA 0, 30, .inl (fun _ => 0))), (q_6, .inl (cA 0, 30, .inl (fun _ => 0)))] := hD
  refine lv_aload_n hx hb dX2_init_49 rfl (lv_at hl 0 rfl) ?_
  refine lv_iconst (v := 3) hx hb dX2_init_50 (by decide) ?_
  refine z_newa (cA := cA) (atype := .int) (ty := .int) (N' := 3) (a0 := (3, .inl (fun _ => 0))) hx hb (hts _ tw_342) rfl 0 rfl (fun _ h9 => by cases h9) hK hP hD hS hA (fun _ => rfl) (by decide +kernel) (by decide +kernel) (Nat.le_of_ble_eq_true rfl) (Nat.le_of_ble_eq_true rfl) (Nat.le_of_ble_eq_true rfl) dX2_init_51 (fun q_7 H hP hD hS => ?_)
  have hP : va_P G vwCl [(h0, .inr (2, [.int 0, .ref q_1, .ref q_2, .ref q_3, .ref q_4, .int 0, .ref q_5, .int 0, .int 0, .ref q_6, .null, .int 0, .null, .null, .null, .int 0, .int 0, .null])), (q_1, .inl (cA 1, 3, .inr (.inl (fun _ => 0)))), (q_2, .inl (cA 0, 3, .inl (fun _ => 0))), (q_3, .inl (cA 0, 3, .inl (fun _ => 0))), (q_4, .inl (cA 0, 48, .inl (fun _ => 0))), (q_5, .inl (cA 0, 30, .inl (fun _ => 0))), (q_6, .inl (cA 0, 30, .inl (fun _ => 0))), (q_7, .inl (cA 0, 3, .inl (fun _ => 0)))] H := hP
  have hD : va_D A [(h0, .inr (2, [.int 0, .ref q_1, .ref q_2, .ref q_3, .ref q_4, .int 0, .ref q_5, .int 0, .int 0, .ref q_6, .null, .int 0, .null, .null, .null, .int 0, .int 0, .null])), (q_1, .inl (cA 1, 3, .inr (.inl (fun _ => 0)))), (q_2, .inl (cA 0, 3, .inl (fun _ => 0))), (q_3, .inl (cA 0, 3, .inl (fun _ => 0))), (q_4, .inl (cA 0, 48, .inl (fun _ => 0))), (q_5, .inl (cA 0, 30, .inl (fun _ => 0))), (q_6, .inl (cA 0, 30, .inl (fun _ => 0))), (q_7, .inl (cA 0, 3, .inl (fun _ => 0)))] := hD
  refine va_putF (D := G) (ci := 2) (v := .ref q_7) (ty := (.array .int)) (C := RX2) (T := TX2) (N := 18) hx hb hts inT2 tyX2 tyX2_ok nmX2 hown hK hP hD hS 0 rfl rfl 10 (by decide) (hts _ tw_284) (fun _ h9 => h9) rfl hin rfl (tyX2_ok 10 (by decide)) rfl rfl (Nat.le_of_ble_eq_true rfl) dX2_init_53 (fun H locs hP hD hS => ?_)
  have hP : va_P G vwCl [(h0, .inr (2, [.int 0, .ref q_1, .ref q_2, .ref q_3, .ref q_4, .int 0, .ref q_5, .int 0, .int 0, .ref q_6, .ref q_7, .int 0, .null, .null, .null, .int 0, .int 0, .null])), (q_1, .inl (cA 1, 3, .inr (.inl (fun _ => 0)))), (q_2, .inl (cA 0, 3, .inl (fun _ => 0))), (q_3, .inl (cA 0, 3, .inl (fun _ => 0))), (q_4, .inl (cA 0, 48, .inl (fun _ => 0))), (q_5, .inl (cA 0, 30, .inl (fun _ => 0))), (q_6, .inl (cA 0, 30, .inl (fun _ => 0))), (q_7, .inl (cA 0, 3, .inl (fun _ => 0)))] H := hP
  have hD : va_D A [(h0, .inr (2, [.int 0, .ref q_1, .ref q_2, .ref q_3, .ref q_4, .int 0, .ref q_5, .int 0, .int 0, .ref q_6, .ref q_7, .int 0, .null, .null, .null, .int 0, .int 0, .null])), (q_1, .inl (cA 1, 3, .inr (.inl (fun _ => 0)))), (q_2, .inl (cA 0, 3, .inl (fun _ => 0))), (q_3, .inl (cA 0, 3, .inl (fun _ => 0))), (q_4, .inl (cA 0, 48, .inl (fun _ => 0))), (q_5, .inl (cA 0, 30, .inl (fun _ => 0))), (q_6, .inl (cA 0, 30, .inl (fun _ => 0))), (q_7, .inl (cA 0, 3, .inl (fun _ => 0)))] := hD
  refine lv_aload_n hx hb dX2_init_56 rfl (lv_at hl 0 rfl) ?_
  refine lv_iconst (v := 5) hx hb dX2_init_57 (by decide) ?_
  refine z_newa (cA := cA) (atype := .int) (ty := .int) (N' := 5) (a0 := (5, .inl (fun _ => 0))) hx hb (hts _ tw_342) rfl 0 rfl (fun _ h9 => by cases h9) hK hP hD hS hA (fun _ => rfl) (by decide +kernel) (by decide +kernel) (Nat.le_of_ble_eq_true rfl) (Nat.le_of_ble_eq_true rfl) (Nat.le_of_ble_eq_true rfl) dX2_init_58 (fun q_8 H hP hD hS => ?_)
  have hP : va_P G vwCl [(h0, .inr (2, [.int 0, .ref q_1, .ref q_2, .ref q_3, .ref q_4, .int 0, .ref q_5, .int 0, .int 0, .ref q_6, .ref q_7, .int 0, .null, .null, .null, .int 0, .int 0, .null])), (q_1, .inl (cA 1, 3, .inr (.inl (fun _ => 0)))), (q_2, .inl (cA 0, 3, .inl (fun _ => 0))), (q_3, .inl (cA 0, 3, .inl (fun _ => 0))), (q_4, .inl (cA 0, 48, .inl (fun _ => 0))), (q_5, .inl (cA 0, 30, .inl (fun _ => 0))), (q_6, .inl (cA 0, 30, .inl (fun _ => 0))), (q_7, .inl (cA 0, 3, .inl (fun _ => 0))), (q_8, .inl (cA 0, 5, .inl (fun _ => 0)))] H := hP
  have hD : va_D A [(h0, .inr (2, [.int 0, .ref q_1, .ref q_2, .ref q_3, .ref q_4, .int 0, .ref q_5, .int 0, .int 0, .ref q_6, .ref q_7, .int 0, .null, .null, .null, .int 0, .int 0, .null])), (q_1, .inl (cA 1, 3, .inr (.inl (fun _ => 0)))), (q_2, .inl (cA 0, 3, .inl (fun _ => 0))), (q_3, .inl (cA 0, 3, .inl (fun _ => 0))), (q_4, .inl (cA 0, 48, .inl (fun _ => 0))), (q_5, .inl (cA 0, 30, .inl (fun _ => 0))), (q_6, .inl (cA 0, 30, .inl (fun _ => 0))), (q_7, .inl (cA 0, 3, .inl (fun _ => 0))), (q_8, .inl (cA 0, 5, .inl (fun _ => 0)))] := hD
  refine va_putF (D := G) (ci := 2) (v := .ref q_8) (ty := (.array .int)) (C := RX2) (T := TX2) (N := 18) hx hb hts inT2 tyX2 tyX2_ok nmX2 hown hK hP hD hS 0 rfl rfl 12 (by decide) (hts _ tw_289) (fun _ h9 => h9) rfl hin rfl (tyX2_ok 12 (by decide)) rfl rfl (Nat.le_of_ble_eq_true rfl) dX2_init_60 (fun H locs hP hD hS => ?_)
  have hP : va_P G vwCl [(h0, .inr (2, [.int 0, .ref q_1, .ref q_2, .ref q_3, .ref q_4, .int 0, .ref q_5, .int 0, .int 0, .ref q_6, .ref q_7, .int 0, .ref q_8, .null, .null, .int 0, .int 0, .null])), (q_1, .inl (cA 1, 3, .inr (.inl (fun _ => 0)))), (q_2, .inl (cA 0, 3, .inl (fun _ => 0))), (q_3, .inl (cA 0, 3, .inl (fun _ => 0))), (q_4, .inl (cA 0, 48, .inl (fun _ => 0))), (q_5, .inl (cA 0, 30, .inl (fun _ => 0))), (q_6, .inl (cA 0, 30, .inl (fun _ => 0))), (q_7, .inl (cA 0, 3, .inl (fun _ => 0))), (q_8, .inl (cA 0, 5, .inl (fun _ => 0)))] H := hP
  have hD : va_D A [(h0, .inr (2, [.int 0, .ref q_1, .ref q_2, .ref q_3, .ref q_4, .int 0, .ref q_5, .int 0, .int 0, .ref q_6, .ref q_7, .int 0, .ref q_8, .null, .null, .int 0, .int 0, .null])), (q_1, .inl (cA 1, 3, .inr (.inl (fun _ => 0)))), (q_2, .inl (cA 0, 3, .inl (fun _ => 0))), (q_3, .inl (cA 0, 3, .inl (fun _ => 0))), (q_4, .inl (cA 0, 48, .inl (fun _ => 0))), (q_5, .inl (cA 0, 30, .inl (fun _ => 0))), (q_6, .inl (cA 0, 30, .inl (fun _ => 0))), (q_7, .inl (cA 0, 3, .inl (fun _ => 0))), (q_8, .inl (cA 0, 5, .inl (fun _ => 0)))] := hD
  refine lv_aload_n hx hb dX2_init_63 rfl (lv_at hl 0 rfl) ?_
  refine lv_iconst (v := 5) hx hb dX2_init_64 (by decide) ?_
  refine z_newa (cA := cA) (atype := .int) (ty := .int) (N' := 5) (a0 := (5, .inl (fun _ => 0))) hx hb (hts _ tw_342) rfl 0 rfl (fun _ h9 => by cases h9) hK hP hD hS hA (fun _ => rfl) (by decide +kernel) (by decide +kernel) (Nat.le_of_ble_eq_true rfl) (Nat.le_of_ble_eq_true rfl) (Nat.le_of_ble_eq_true rfl) dX2_init_65 (fun q_9 H hP hD hS => ?_)
  have hP : va_P G vwCl [(h0, .inr (2, [.int 0, .ref q_1, .ref q_2, .ref q_3, .ref q_4, .int 0, .ref q_5, .int 0, .int 0, .ref q_6, .ref q_7, .int 0, .ref q_8, .null, .null, .int 0, .int 0, .null])), (q_1, .inl (cA 1, 3, .inr (.inl (fun _ => 0)))), (q_2, .inl (cA 0, 3, .inl (fun _ => 0))), (q_3, .inl (cA 0, 3, .inl (fun _ => 0))), (q_4, .inl (cA 0, 48, .inl (fun _ => 0))), (q_5, .inl (cA 0, 30, .inl (fun _ => 0))), (q_6, .inl (cA 0, 30, .inl (fun _ => 0))), (q_7, .inl (cA 0, 3, .inl (fun _ => 0))), (q_8, .inl (cA 0, 5, .inl (fun _ => 0))), (q_9, .inl (cA 0, 5, .inl (fun _ => 0)))] H := hP
  have hD : va_D A [(h0, .inr (2, [.int 0, .ref q_1, .ref q_2, .ref q_3, .ref q_4, .int 0, .ref q_5, .int 0, .int 0, .ref q_6, .ref q_7, .int 0, .ref q_8, .null, .null, .int 0, .int 0, .null])), (q_1, .inl (cA 1, 3, .inr (.inl (fun _ => 0)))), (q_2, .inl (cA 0, 3, .inl (fun _ => 0))), (q_3, .inl (cA 0, 3, .inl (fun _ => 0))), (q_4, .inl (cA 0, 48, .inl (fun _ => 0))), (q_5, .inl (cA 0, 30, .inl (fun _ => 0))), (q_6, .inl (cA 0, 30, .inl (fun _ => 0))), (q_7, .inl (cA 0, 3, .inl (fun _ => 0))), (q_8, .inl (cA 0, 5, .inl (fun _ => 0))), (q_9, .inl (cA 0, 5, .inl (fun _ => 0)))] := hD
  refine va_putF (D := G) (ci := 2) (v := .ref q_9) (ty := (.array .int)) (C := RX2) (T := TX2) (N := 18) hx hb hts inT2 tyX2 tyX2_ok nmX2 hown hK hP hD hS 0 rfl rfl 13 (by decide) (hts _ tw_290) (fun _ h9 => h9) rfl hin rfl (tyX2_ok 13 (by decide)) rfl rfl (Nat.le_of_ble_eq_true rfl) dX2_init_67 (fun H locs hP hD hS => ?_)
  have hP : va_P G vwCl [(h0, .inr (2, [.int 0, .ref q_1, .ref q_2, .ref q_3, .ref q_4, .int 0, .ref q_5, .int 0, .int 0, .ref q_6, .ref q_7, .int 0, .ref q_8, .ref q_9, .null, .int 0, .int 0, .null])), (q_1, .inl (cA 1, 3, .inr (.inl (fun _ => 0)))), (q_2, .inl (cA 0, 3, .inl (fun _ => 0))), (q_3, .inl (cA 0, 3, .inl (fun _ => 0))), (q_4, .inl (cA 0, 48, .inl (fun _ => 0))), (q_5, .inl (cA 0, 30, .inl (fun _ => 0))), (q_6, .inl (cA 0, 30, .inl (fun _ => 0))), (q_7, .inl (cA 0, 3, .inl (fun _ => 0))), (q_8, .inl (cA 0, 5, .inl (fun _ => 0))), (q_9, .inl (cA 0, 5, .inl (fun _ => 0)))] H := hP
  have hD : va_D A [(h0, .inr (2, [.int 0, .ref q_1, .ref q_2, .ref q_3, .ref q_4, .int 0, .ref q_5, .int 0, .int 0, .ref q_6, .ref q_7, .int 0, .ref q_8, .ref q_9, .null, .int 0, .int 0, .null])), (q_1, .inl (cA 1, 3, .inr (.inl (fun _ => 0)))), (q_2, .inl (cA 0, 3, .inl (fun _ => 0))), (q_3, .inl (cA 0, 3, .inl (fun _ => 0))), (q_4, .inl (cA 0, 48, .inl (fun _ => 0))), (q_5, .inl (cA 0, 30, .inl (fun _ => 0))), (q_6, .inl (cA 0, 30, .inl (fun _ => 0))), (q_7, .inl (cA 0, 3, .inl (fun _ => 0))), (q_8, .inl (cA 0, 5, .inl (fun _ => 0))), (q_9, .inl (cA 0, 5, .inl (fun _ => 0)))] := hD
  refine lv_aload_n hx hb dX2_init_70 rfl (lv_at hl 0 rfl) ?_
  refine lv_iconst (v := 4) hx hb dX2_init_71 (by decide) ?_
  refine z_newa (cA := cA) (atype := .int) (ty := .int) (N' := 4) (a0 := (4, .inl (fun _ => 0))) hx hb (hts _ tw_342) rfl 0 rfl (fun _ h9 => by cases h9) hK hP hD hS hA (fun _ => rfl) (by decide +kernel) (by decide +kernel) (Nat.le_of_ble_eq_true rfl) (Nat.le_of_ble_eq_true rfl) (Nat.le_of_ble_eq_true rfl) dX2_init_72 (fun q_10 H hP hD hS => ?_)
  have hP : va_P G vwCl [(h0, .inr (2, [.int 0, .ref q_1, .ref q_2, .ref q_3, .ref q_4, .int 0, .ref q_5, .int 0, .int 0, .ref q_6, .ref q_7, .int 0, .ref q_8, .ref q_9, .null, .int 0, .int 0, .null])), (q_1, .inl (cA 1, 3, .inr (.inl (fun _ => 0)))), (q_2, .inl (cA 0, 3, .inl (fun _ => 0))), (q_3, .inl (cA 0, 3, .inl (fun _ => 0))), (q_4, .inl (cA 0, 48, .inl (fun _ => 0))), (q_5, .inl (cA 0, 30, .inl (fun _ => 0))), (q_6, .inl (cA 0, 30, .inl (fun _ => 0))), (q_7, .inl (cA 0, 3, .inl (fun _ => 0))), (q_8, .inl (cA 0, 5, .inl (fun _ => 0))), (q_9, .inl (cA 0, 5, .inl (fun _ => 0))), (q_10, .inl (cA 0, 4, .inl (fun _ => 0)))] H := hP
  have hD : va_D A [(h0, .inr (2, [.int 0, .ref q_1, .ref q_2, .ref q_3, .ref q_4, .int 0, .ref q_5, .int 0, .int 0, .ref q_6, .ref q_7, .int 0, .ref q_8, .ref q_9, .null, .int 0, .int 0, .null])), (q_1, .inl (cA 1, 3, .inr (.inl (fun _ => 0)))), (q_2, .inl (cA 0, 3, .inl (fun _ => 0))), (q_3, .inl (cA 0, 3, .inl (fun _ => 0))), (q_4, .inl (cA 0, 48, .inl (fun _ => 0))), (q_5, .inl (cA 0, 30, .inl (fun _ => 0))), (q_6, .inl (cA 0, 30, .inl (fun _ => 0))), (q_7, .inl (cA 0, 3, .inl (fun _ => 0))), (q_8, .inl (cA 0, 5, .inl (fun _ => 0))), (q_9, .inl (cA 0, 5, .inl (fun _ => 0))), (q_10, .inl (cA 0, 4, .inl (fun _ => 0)))] := hD
  refine va_putF (D := G) (ci := 2) (v := .ref q_10) (ty := (.array .int)) (C := RX2) (T := TX2) (N := 18) hx hb hts inT2 tyX2 tyX2_ok nmX2 hown hK hP hD hS 0 rfl rfl 14 (by decide) (hts _ tw_291) (fun _ h9 => h9) rfl hin rfl (tyX2_ok 14 (by decide)) rfl rfl (Nat.le_of_ble_eq_true rfl) dX2_init_74 (fun H locs hP hD hS => ?_)
  have hP : va_P G vwCl [(h0, .inr (2, [.int 0, .ref q_1, .ref q_2, .ref q_3, .ref q_4, .int 0, .ref q_5, .int 0, .int 0, .ref q_6, .ref q_7, .int 0, .ref q_8, .ref q_9, .ref q_10, .int 0, .int 0, .null])), (q_1, .inl (cA 1, 3, .inr (.inl (fun _ => 0)))), (q_2, .inl (cA 0, 3, .inl (fun _ => 0))), (q_3, .inl (cA 0, 3, .inl (fun _ => 0))), (q_4, .inl (cA 0, 48, .inl (fun _ => 0))), (q_5, .inl (cA 0, 30, .inl (fun _ => 0))), (q_6, .inl (cA 0, 30, .inl (fun _ => 0))), (q_7, .inl (cA 0, 3, .inl (fun _ => 0))), (q_8, .inl (cA 0, 5, .inl (fun _ => 0))), (q_9, .inl (cA 0, 5, .inl (fun _ => 0))), (q_10, .inl (cA 0, 4, .inl (fun _ => 0)))] H := hP
  have hD : va_D A [(h0, .inr (2, [.int 0, .ref q_1, .ref q_2, .ref q_3, .ref q_4, .int 0, .ref q_5, .int 0, .int 0, .ref q_6, .ref q_7, .int 0, .ref q_8, .ref q_9, .ref q_10, .int 0, .int 0, .null])), (q_1, .inl (cA 1, 3, .inr (.inl (fun _ => 0)))), (q_2, .inl (cA 0, 3, .inl (fun _ => 0))), (q_3, .inl (cA 0, 3, .inl (fun _ => 0))), (q_4, .inl (cA 0, 48, .inl (fun _ => 0))), (q_5, .inl (cA 0, 30, .inl (fun _ => 0))), (q_6, .inl (cA 0, 30, .inl (fun _ => 0))), (q_7, .inl (cA 0, 3, .inl (fun _ => 0))), (q_8, .inl (cA 0, 5, .inl (fun _ => 0))), (q_9, .inl (cA 0, 5, .inl (fun _ => 0))), (q_10, .inl (cA 0, 4, .inl (fun _ => 0)))] := hD
  refine lv_aload_n hx hb dX2_init_77 rfl (lv_at hl 0 rfl) ?_
  refine lv_bipush (v := 12) hx hb dX2_init_78 (by decide) ?_
  refine z_newa (cA := cA) (atype := .int) (ty := .int) (N' := 12) (a0 := (12, .inl (fun _ => 0))) hx hb (hts _ tw_342) rfl 0 rfl (fun _ h9 => by cases h9) hK hP hD hS hA (fun _ => rfl) (by decide +kernel) (by decide +kernel) (Nat.le_of_ble_eq_true rfl) (Nat.le_of_ble_eq_true rfl) (Nat.le_of_ble_eq_true rfl) dX2_init_80 (fun q_11 H hP hD hS => ?_)
  have hP : va_P G vwCl [(h0, .inr (2, [.int 0, .ref q_1, .ref q_2, .ref q_3, .ref q_4, .int 0, .ref q_5, .int 0, .int 0, .ref q_6, .ref q_7, .int 0, .ref q_8, .ref q_9, .ref q_10, .int 0, .int 0, .null])), (q_1, .inl (cA 1, 3, .inr (.inl (fun _ => 0)))), (q_2, .inl (cA 0, 3, .inl (fun _ => 0))), (q_3, .inl (cA 0, 3, .inl (fun _ => 0))), (q_4, .inl (cA 0, 48, .inl (fun _ => 0))), (q_5, .inl (cA 0, 30, .inl (fun _ => 0))), (q_6, .inl (cA 0, 30, .inl (fun _ => 0))), (q_7, .inl (cA 0, 3, .inl (fun _ => 0))), (q_8, .inl (cA 0, 5, .inl (fun _ => 0))), (q_9, .inl (cA 0, 5, .inl (fun _ => 0))), (q_10, .inl (cA 0, 4, .inl (fun _ => 0))), (q_11, .inl (cA 0, 12, .inl (fun _ => 0)))] H := hP
  have hD : va_D A [(h0, .inr (2, [.int 0, .ref q_1, .ref q_2, .ref q_3, .ref q_4, .int 0, .ref q_5, .int 0, .int 0, .ref q_6, .ref q_7, .int 0, .ref q_8, .ref q_9, .ref q_10, .int 0, .int 0, .null])), (q_1, .inl (cA 1, 3, .inr (.inl (fun _ => 0)))), (q_2, .inl (cA 0, 3, .inl (fun _ => 0))), (q_3, .inl (cA 0, 3, .inl (fun _ => 0))), (q_4, .inl (cA 0, 48, .inl (fun _ => 0))), (q_5, .inl (cA 0, 30, .inl (fun _ => 0))), (q_6, .inl (cA 0, 30, .inl (fun _ => 0))), (q_7, .inl (cA 0, 3, .inl (fun _ => 0))), (q_8, .inl (cA 0, 5, .inl (fun _ => 0))), (q_9, .inl (cA 0, 5, .inl (fun _ => 0))), (q_10, .inl (cA 0, 4, .inl (fun _ => 0))), (q_11, .inl (cA 0, 12, .inl (fun _ => 0)))] := hD
  refine va_putF (D := G) (ci := 2) (v := .ref q_11) (ty := (.array .int)) (C := RX2) (T := TX2) (N := 18) hx hb hts inT2 tyX2 tyX2_ok nmX2 hown hK hP hD hS 0 rfl rfl 17 (by decide) (hts _ tw_301) (fun _ h9 => h9) rfl hin rfl (tyX2_ok 17 (by decide)) rfl rfl (Nat.le_of_ble_eq_true rfl) dX2_init_82 (fun H locs hP hD hS => ?_)
  have hP : va_P G vwCl [(h0, .inr (2, [.int 0, .ref q_1, .ref q_2, .ref q_3, .ref q_4, .int 0, .ref q_5, .int 0, .int 0, .ref q_6, .ref q_7, .int 0, .ref q_8, .ref q_9, .ref q_10, .int 0, .int 0, .ref q_11])), (q_1, .inl (cA 1, 3, .inr (.inl (fun _ => 0)))), (q_2, .inl (cA 0, 3, .inl (fun _ => 0))), (q_3, .inl (cA 0, 3, .inl (fun _ => 0))), (q_4, .inl (cA 0, 48, .inl (fun _ => 0))), (q_5, .inl (cA 0, 30, .inl (fun _ => 0))), (q_6, .inl (cA 0, 30, .inl (fun _ => 0))), (q_7, .inl (cA 0, 3, .inl (fun _ => 0))), (q_8, .inl (cA 0, 5, .inl (fun _ => 0))), (q_9, .inl (cA 0, 5, .inl (fun _ => 0))), (q_10, .inl (cA 0, 4, .inl (fun _ => 0))), (q_11, .inl (cA 0, 12, .inl (fun _ => 0)))] H := hP
  have hD : va_D A [(h0, .inr (2, [.int 0, .ref q_1, .ref q_2, .ref q_3, .ref q_4, .int 0, .ref q_5, .int 0, .int 0, .ref q_6, .ref q_7, .int 0, .ref q_8, .ref q_9, .ref q_10, .int 0, .int 0, .ref q_11])), (q_1, .inl (cA 1, 3, .inr (.inl (fun _ => 0)))), (q_2, .inl (cA 0, 3, .inl (fun _ => 0))), (q_3, .inl (cA 0, 3, .inl (fun _ => 0))), (q_4, .inl (cA 0, 48, .inl (fun _ => 0))), (q_5, .inl (cA 0, 30, .inl (fun _ => 0))), (q_6, .inl (cA 0, 30, .inl (fun _ => 0))), (q_7, .inl (cA 0, 3, .inl (fun _ => 0))), (q_8, .inl (cA 0, 5, .inl (fun _ => 0))), (q_9, .inl (cA 0, 5, .inl (fun _ => 0))), (q_10, .inl (cA 0, 4, .inl (fun _ => 0))), (q_11, .inl (cA 0, 12, .inl (fun _ => 0)))] := hD
  refine lv_aload_n hx hb dX2_init_85 rfl (lv_at hl 0 rfl) ?_
  refine z_callVv (As := []) (rest := []) (wr := [(q_1, .inl (cA 1, 3, .inr (.inl (fun _ => 0)))), (q_2, .inl (cA 0, 3, .inl (fun _ => 0))), (q_3, .inl (cA 0, 3, .inl (fun _ => 0))), (q_4, .inl (cA 0, 48, .inl (fun _ => 0))), (q_5, .inl (cA 0, 30, .inl (fun _ => 0))), (q_6, .inl (cA 0, 30, .inl (fun _ => 0))), (q_7, .inl (cA 0, 3, .inl (fun _ => 0))), (q_8, .inl (cA 0, 5, .inl (fun _ => 0))), (q_9, .inl (cA 0, 5, .inl (fun _ => 0))), (q_11, .inl (cA 0, 12, .inl (fun _ => 0)))]) ⟨hx, hb, hml, hown, hts⟩ hK hE hP hD hS hA (c_H_clear l G cA h0 q_10 (fun _ => 0) 0 (.ref q_1) (.ref q_2) (.ref q_3) (.ref q_4) 0 (.ref q_5) 0 0 (.ref q_6) (.ref q_7) 0 (.ref q_8) (.ref q_9) 0 0 (.ref q_11)) lk_RX2_46 ⟨rfl, rfl⟩ ⟨Nat.le_of_ble_eq_true rfl, Nat.le_of_ble_eq_true rfl⟩ 2 rfl rfl rfl [0, 10] [1, 2, 3, 4, 5, 6, 7, 8, 9, 11] rfl rfl (by decide) rfl hl.1 rfl (lv_room (Nat.le_of_ble_eq_true rfl)) dX2_init_86 ⟨Nat.le_of_ble_eq_true rfl, Nat.le_of_ble_eq_true rfl⟩ (fun u_14 H locs hw hP hD hS => ?_)
  obtain ⟨sf_12, rfl⟩ : ∃ z, z = u_14 := ⟨_, rfl⟩
  have hP : va_P G vwCl [(q_1, .inl (cA 1, 3, .inr (.inl (fun _ => 0)))), (q_2, .inl (cA 0, 3, .inl (fun _ => 0))), (q_3, .inl (cA 0, 3, .inl (fun _ => 0))), (q_4, .inl (cA 0, 48, .inl (fun _ => 0))), (q_5, .inl (cA 0, 30, .inl (fun _ => 0))), (q_6, .inl (cA 0, 30, .inl (fun _ => 0))), (q_7, .inl (cA 0, 3, .inl (fun _ => 0))), (q_8, .inl (cA 0, 5, .inl (fun _ => 0))), (q_9, .inl (cA 0, 5, .inl (fun _ => 0))), (q_11, .inl (cA 0, 12, .inl (fun _ => 0))), (h0, .inr (2, [.int 0, .ref q_1, .ref q_2, .ref q_3, .ref q_4, .int 0, .ref q_5, .int 0, .int 0, .ref q_6, .ref q_7, .int 0, .ref q_8, .ref q_9, .ref q_10, .int 8, .int 0, .ref q_11])), (q_10, .inl (cA 0, 4, .inl sf_12))] H := hP
  have hD : va_D A [(q_1, .inl (cA 1, 3, .inr (.inl (fun _ => 0)))), (q_2, .inl (cA 0, 3, .inl (fun _ => 0))), (q_3, .inl (cA 0, 3, .inl (fun _ => 0))), (q_4, .inl (cA 0, 48, .inl (fun _ => 0))), (q_5, .inl (cA 0, 30, .inl (fun _ => 0))), (q_6, .inl (cA 0, 30, .inl (fun _ => 0))), (q_7, .inl (cA 0, 3, .inl (fun _ => 0))), (q_8, .inl (cA 0, 5, .inl (fun _ => 0))), (q_9, .inl (cA 0, 5, .inl (fun _ => 0))), (q_11, .inl (cA 0, 12, .inl (fun _ => 0))), (h0, .inr (2, [.int 0, .ref q_1, .ref q_2, .ref q_3, .ref q_4, .int 0, .ref q_5, .int 0, .int 0, .ref q_6, .ref q_7, .int 0, .ref q_8, .ref q_9, .ref q_10, .int 8, .int 0, .ref q_11])), (q_10, .inl (cA 0, 4, .inl sf_12))] := hD
  have hs : zSec sf_12 := hw
  refine W.widen (k := 11) (n := 146) (Nat.le_of_ble_eq_true rfl) (Nat.le_of_ble_eq_true rfl) ?_
  exact z_retv hx hb hr hlocks hP hD hS (q_1, q_2, q_3, q_4, q_5, q_6, q_7, q_8, q_9, q_10, q_11, sf_12) [10, 0, 1, 2, 3, 4, 5, 6, 7, 8, 11, 9] rfl (by decide) dX2_init_89 hs
set_option maxHeartbeats 4000000 in
set_option maxRecDepth 100000 in
theorem c_O_init (l : Launch) (G : va_G) (cA : Nat → ClassId) (h0 : Nat) (h1 : Nat) : zCv l yX9_init cX9_init 2 none ({ frames := 1, cells := 3, slots := 50, locals := 20 }) G cA [.ref h0, .ref h1] [(h0, .inr (9, [.null, .int 0, .int 0, .null, .null, .null]))] (S := Nat × Nat × Nat) (fun (u : Nat × Nat × Nat) => True) (fun (u : Nat × Nat × Nat) => [(h0, .inr (9, [.ref h1, .int (-1), .int 0, .ref u.1, .ref u.2.1, .ref u.2.2])), (u.1, .inl (cA 0, 10, .inl (fun _ => 0))), (u.2.1, .inl (cA 1, 20, .inr (.inl (fun _ => 0))))]) 3 50 := by
  refine z_startv (own := RX9) (by decide) (Nat.le_of_ble_eq_true rfl) rfl ?_
  intro p e s m below meth c A ls hx hb hr hlocks hml hts hown hin hK hE hP hD hS hA hl
  have hl : lv_has ls 2 [(0, .ref h0), (1, .ref h1)] := hl
  refine lv_aload_n hx hb dX9_init_0 rfl (lv_at hl 0 rfl) ?_
  refine W.objInit hx hb hown (hts _ tw_348) (hts _ tw_195) (hts _ tw_196) rfl (by rw [hml]; exact hl.1) rfl dX9_init_1 (Nat.le_of_ble_eq_true rfl) (Nat.le_of_ble_eq_true rfl) ?_
  refine W.eq (g2 := F0 m 4 ls []) rfl ?_
  refine lv_aload_n hx hb dX9_init_4 rfl (lv_at hl 0 rfl) ?_
  refine lv_iconst (v := (-1)) hx hb dX9_init_5 (by decide) ?_
  refine va_put (D := G) (ci := 9) (v := .int (-1)) (ty := .int) (C := RX9) (T := TX9) (N := 6) hx hb hts inT9 tyX9 tyX9_ok nmX9 hown hK hP hD hS 0 rfl rfl 1 (by decide) (hts _ tw_350) (fun _ h9 => h9) rfl (tyX9_ok 1 (by decide)) rfl rfl (Nat.le_of_ble_eq_true rfl) dX9_init_6 (fun H locs hP hD hS => ?_)
  have hP : va_P G vwCl [(h0, .inr (9, [.null, .int (-1), .int 0, .null, .null, .null]))] H := hP
  have hD : va_D A [(h0, .inr (9, [.null, .int (-1), .int 0, .null, .null, .null]))] := hD
  refine lv_aload_n hx hb dX9_init_9 rfl (lv_at hl 0 rfl) ?_
  refine lv_iconst (v := 0) hx hb dX9_init_10 (by decide) ?_
  refine va_put (D := G) (ci := 9) (v := .int 0) (ty := .int) (C := RX9) (T := TX9) (N := 6) hx hb hts inT9 tyX9 tyX9_ok nmX9 hown hK hP hD hS 0 rfl rfl 2 (by decide) (hts _ tw_352) (fun _ h9 => h9) rfl (tyX9_ok 2 (by decide)) rfl rfl (Nat.le_of_ble_eq_true rfl) dX9_init_11 (fun H locs hP hD hS => ?_)
  have hP : va_P G vwCl [(h0, .inr (9, [.null, .int (-1), .int 0, .null, .null, .null]))] H := hP
  have hD : va_D A [(h0, .inr (9, [.null, .int (-1), .int 0, .null, .null, .null]))] := hD
  refine lv_aload_n hx hb dX9_init_14 rfl (lv_at hl 0 rfl) ?_
  refine lv_bipush (v := 10) hx hb dX9_init_15 (by decide) ?_
  refine z_newa (cA := cA) (atype := .int) (ty := .int) (N' := 10) (a0 := (10, .inl (fun _ => 0))) hx hb (hts _ tw_342) rfl 0 rfl (fun _ h9 => by cases h9) hK hP hD hS hA (fun _ => rfl) (by decide +kernel) (by decide +kernel) (Nat.le_of_ble_eq_true rfl) (Nat.le_of_ble_eq_true rfl) (Nat.le_of_ble_eq_true rfl) dX9_init_17 (fun q_1 H hP hD hS => ?_)
  have hP : va_P G vwCl [(h0, .inr (9, [.null, .int (-1), .int 0, .null, .null, .null])), (q_1, .inl (cA 0, 10, .inl (fun _ => 0)))] H := hP
  have hD : va_D A [(h0, .inr (9, [.null, .int (-1), .int 0, .null, .null, .null])), (q_1, .inl (cA 0, 10, .inl (fun _ => 0)))] := hD
  refine va_putF (D := G) (ci := 9) (v := .ref q_1) (ty := (.array .int)) (C := RX9) (T := TX9) (N := 6) hx hb hts inT9 tyX9 tyX9_ok nmX9 hown hK hP hD hS 0 rfl rfl 3 (by decide) (hts _ tw_356) (fun _ h9 => h9) rfl hin rfl (tyX9_ok 3 (by decide)) rfl rfl (Nat.le_of_ble_eq_true rfl) dX9_init_19 (fun H locs hP hD hS => ?_)
  have hP : va_P G vwCl [(h0, .inr (9, [.null, .int (-1), .int 0, .ref q_1, .null, .null])), (q_1, .inl (cA 0, 10, .inl (fun _ => 0)))] H := hP
  have hD : va_D A [(h0, .inr (9, [.null, .int (-1), .int 0, .ref q_1, .null, .null])), (q_1, .inl (cA 0, 10, .inl (fun _ => 0)))] := hD
  refine lv_aload_n hx hb dX9_init_22 rfl (lv_at hl 0 rfl) ?_
  refine lv_bipush (v := 20) hx hb dX9_init_23 (by decide) ?_
  refine z_newa (cA := cA) (atype := .long) (ty := .long) (N' := 20) (a0 := (20, .inr (.inl (fun _ => 0)))) hx hb (hts _ tw_341) rfl 1 rfl (fun _ h9 => by cases h9) hK hP hD hS hA (fun _ => rfl) (by decide +kernel) (by decide +kernel) (Nat.le_of_ble_eq_true rfl) (Nat.le_of_ble_eq_true rfl) (Nat.le_of_ble_eq_true rfl) dX9_init_25 (fun q_2 H hP hD hS => ?_)
  have hP : va_P G vwCl [(h0, .inr (9, [.null, .int (-1), .int 0, .ref q_1, .null, .null])), (q_1, .inl (cA 0, 10, .inl (fun _ => 0))), (q_2, .inl (cA 1, 20, .inr (.inl (fun _ => 0))))] H := hP
  have hD : va_D A [(h0, .inr (9, [.null, .int (-1), .int 0, .ref q_1, .null, .null])), (q_1, .inl (cA 0, 10, .inl (fun _ => 0))), (q_2, .inl (cA 1, 20, .inr (.inl (fun _ => 0))))] := hD
  refine va_putF (D := G) (ci := 9) (v := .ref q_2) (ty := (.array .long)) (C := RX9) (T := TX9) (N := 6) hx hb hts inT9 tyX9 tyX9_ok nmX9 hown hK hP hD hS 0 rfl rfl 4 (by decide) (hts _ tw_357) (fun _ h9 => h9) rfl hin rfl (tyX9_ok 4 (by decide)) rfl rfl (Nat.le_of_ble_eq_true rfl) dX9_init_27 (fun H locs hP hD hS => ?_)
  have hP : va_P G vwCl [(h0, .inr (9, [.null, .int (-1), .int 0, .ref q_1, .ref q_2, .null])), (q_1, .inl (cA 0, 10, .inl (fun _ => 0))), (q_2, .inl (cA 1, 20, .inr (.inl (fun _ => 0))))] H := hP
  have hD : va_D A [(h0, .inr (9, [.null, .int (-1), .int 0, .ref q_1, .ref q_2, .null])), (q_1, .inl (cA 0, 10, .inl (fun _ => 0))), (q_2, .inl (cA 1, 20, .inr (.inl (fun _ => 0))))] := hD
  refine lv_aload_n hx hb dX9_init_30 rfl (lv_at hl 0 rfl) ?_
  refine lv_bipush (v := 20) hx hb dX9_init_31 (by decide) ?_
  refine z_newa (cA := cA) (atype := .long) (ty := .long) (N' := 20) (a0 := (20, .inr (.inl (fun _ => 0)))) hx hb (hts _ tw_341) rfl 1 rfl (fun _ h9 => by cases h9) hK hP hD hS hA (fun _ => rfl) (by decide +kernel) (by decide +kernel) (Nat.le_of_ble_eq_true rfl) (Nat.le_of_ble_eq_true rfl) (Nat.le_of_ble_eq_true rfl) dX9_init_33 (fun q_3 H hP hD hS => ?_)
  have hP : va_P G vwCl [(h0, .inr (9, [.null, .int (-1), .int 0, .ref q_1, .ref q_2, .null])), (q_1, .inl (cA 0, 10, .inl (fun _ => 0))), (q_2, .inl (cA 1, 20, .inr (.inl (fun _ => 0)))), (q_3, .inl (cA 1, 20, .inr (.inl (fun _ => 0))))] H := hP
  have hD : va_D A [(h0, .inr (9, [.null, .int (-1), .int 0, .ref q_1, .ref q_2, .null])), (q_1, .inl (cA 0, 10, .inl (fun _ => 0))), (q_2, .inl (cA 1, 20, .inr (.inl (fun _ => 0)))), (q_3, .inl (cA 1, 20, .inr (.inl (fun _ => 0))))] := hD
  refine va_putF (D := G) (ci := 9) (v := .ref q_3) (ty := (.array .long)) (C := RX9) (T := TX9) (N := 6) hx hb hts inT9 tyX9 tyX9_ok nmX9 hown hK hP hD hS 0 rfl rfl 5 (by decide) (hts _ tw_358) (fun _ h9 => h9) rfl hin rfl (tyX9_ok 5 (by decide)) rfl rfl (Nat.le_of_ble_eq_true rfl) dX9_init_35 (fun H locs hP hD hS => ?_)
  have hP : va_P G vwCl [(h0, .inr (9, [.null, .int (-1), .int 0, .ref q_1, .ref q_2, .ref q_3])), (q_1, .inl (cA 0, 10, .inl (fun _ => 0))), (q_2, .inl (cA 1, 20, .inr (.inl (fun _ => 0)))), (q_3, .inl (cA 1, 20, .inr (.inl (fun _ => 0))))] H := hP
  have hD : va_D A [(h0, .inr (9, [.null, .int (-1), .int 0, .ref q_1, .ref q_2, .ref q_3])), (q_1, .inl (cA 0, 10, .inl (fun _ => 0))), (q_2, .inl (cA 1, 20, .inr (.inl (fun _ => 0)))), (q_3, .inl (cA 1, 20, .inr (.inl (fun _ => 0))))] := hD
  refine lv_aload_n hx hb dX9_init_38 rfl (lv_at hl 0 rfl) ?_
  refine lv_aload_n hx hb dX9_init_39 rfl (lv_at hl 1 rfl) ?_
  refine va_putF (D := G) (ci := 9) (v := .ref h1) (ty := (.object "DarkRing$House")) (C := RX9) (T := TX9) (N := 6) hx hb hts inT9 tyX9 tyX9_ok nmX9 hown hK hP hD hS 0 rfl rfl 0 (by decide) (hts _ tw_349) (fun _ h9 => h9) rfl hin rfl (tyX9_ok 0 (by decide)) rfl rfl (Nat.le_of_ble_eq_true rfl) dX9_init_40 (fun H locs hP hD hS => ?_)
  have hP : va_P G vwCl [(h0, .inr (9, [.ref h1, .int (-1), .int 0, .ref q_1, .ref q_2, .ref q_3])), (q_1, .inl (cA 0, 10, .inl (fun _ => 0))), (q_2, .inl (cA 1, 20, .inr (.inl (fun _ => 0)))), (q_3, .inl (cA 1, 20, .inr (.inl (fun _ => 0))))] H := hP
  have hD : va_D A [(h0, .inr (9, [.ref h1, .int (-1), .int 0, .ref q_1, .ref q_2, .ref q_3])), (q_1, .inl (cA 0, 10, .inl (fun _ => 0))), (q_2, .inl (cA 1, 20, .inr (.inl (fun _ => 0)))), (q_3, .inl (cA 1, 20, .inr (.inl (fun _ => 0))))] := hD
  refine W.widen (k := 3) (n := 50) (Nat.le_of_ble_eq_true rfl) (Nat.le_of_ble_eq_true rfl) ?_
  exact z_retv hx hb hr hlocks hP hD hS (q_1, q_2, q_3) [0, 1, 2] rfl (by decide) dX9_init_43 trivial
set_option maxHeartbeats 4000000 in
set_option maxRecDepth 100000 in
theorem c_R_init (l : Launch) (G : va_G) (cA : Nat → ClassId) (h0 : Nat) : zCv l yX5_init cX5_init 1 none ({ frames := 1, cells := 5, slots := 300, locals := 20 }) G cA [.ref h0] [(h0, .inr (5, [.int 0, .int 0, .int 0, .null, .null, .null, .null, .null]))] (S := Nat × Nat × Nat × Nat × Nat) (fun (u : Nat × Nat × Nat × Nat × Nat) => True) (fun (u : Nat × Nat × Nat × Nat × Nat) => [(h0, .inr (5, [.int 0, .int 0, .int 0, .ref u.1, .ref u.2.1, .ref u.2.2.1, .ref u.2.2.2.1, .ref u.2.2.2.2])), (u.1, .inl (cA 0, 60, .inl (fun _ => 0))), (u.2.1, .inl (cA 0, 60, .inl (fun _ => 0))), (u.2.2.1, .inl (cA 0, 60, .inl (fun _ => 0))), (u.2.2.2.1, .inl (cA 0, 60, .inl (fun _ => 0))), (u.2.2.2.2, .inl (cA 0, 60, .inl (fun _ => 0)))]) 5 300 := by
  refine z_startv (own := RX5) (by decide) (Nat.le_of_ble_eq_true rfl) rfl ?_
  intro p e s m below meth c A ls hx hb hr hlocks hml hts hown hin hK hE hP hD hS hA hl
  have hl : lv_has ls 1 [(0, .ref h0)] := hl
  refine lv_aload_n hx hb dX5_init_0 rfl (lv_at hl 0 rfl) ?_
  refine W.objInit hx hb hown (hts _ tw_377) (hts _ tw_195) (hts _ tw_196) rfl (by rw [hml]; exact hl.1) rfl dX5_init_1 (Nat.le_of_ble_eq_true rfl) (Nat.le_of_ble_eq_true rfl) ?_
  refine W.eq (g2 := F0 m 4 ls []) rfl ?_
  refine lv_aload_n hx hb dX5_init_4 rfl (lv_at hl 0 rfl) ?_
  refine lv_iconst (v := 0) hx hb dX5_init_5 (by decide) ?_
  refine va_put (D := G) (ci := 5) (v := .int 0) (ty := .int) (C := RX5) (T := TX5) (N := 8) hx hb hts inT5 tyX5 tyX5_ok nmX5 hown hK hP hD hS 0 rfl rfl 0 (by decide) (hts _ tw_378) (fun _ h9 => h9) rfl (tyX5_ok 0 (by decide)) rfl rfl (Nat.le_of_ble_eq_true rfl) dX5_init_6 (fun H locs hP hD hS => ?_)
  have hP : va_P G vwCl [(h0, .inr (5, [.int 0, .int 0, .int 0, .null, .null, .null, .null, .null]))] H := hP
  have hD : va_D A [(h0, .inr (5, [.int 0, .int 0, .int 0, .null, .null, .null, .null, .null]))] := hD
  refine lv_aload_n hx hb dX5_init_9 rfl (lv_at hl 0 rfl) ?_
  refine lv_iconst (v := 0) hx hb dX5_init_10 (by decide) ?_
  refine va_put (D := G) (ci := 5) (v := .int 0) (ty := .int) (C := RX5) (T := TX5) (N := 8) hx hb hts inT5 tyX5 tyX5_ok nmX5 hown hK hP hD hS 0 rfl rfl 1 (by decide) (hts _ tw_381) (fun _ h9 => h9) rfl (tyX5_ok 1 (by decide)) rfl rfl (Nat.le_of_ble_eq_true rfl) dX5_init_11 (fun H locs hP hD hS => ?_)
  have hP : va_P G vwCl [(h0, .inr (5, [.int 0, .int 0, .int 0, .null, .null, .null, .null, .null]))] H := hP
  have hD : va_D A [(h0, .inr (5, [.int 0, .int 0, .int 0, .null, .null, .null, .null, .null]))] := hD
  refine lv_aload_n hx hb dX5_init_14 rfl (lv_at hl 0 rfl) ?_
  refine lv_iconst (v := 0) hx hb dX5_init_15 (by decide) ?_
  refine va_put (D := G) (ci := 5) (v := .int 0) (ty := .boolean) (C := RX5) (T := TX5) (N := 8) hx hb hts inT5 tyX5 tyX5_ok nmX5 hown hK hP hD hS 0 rfl rfl 2 (by decide) (hts _ tw_384) (fun _ h9 => h9) rfl (tyX5_ok 2 (by decide)) rfl rfl (Nat.le_of_ble_eq_true rfl) dX5_init_16 (fun H locs hP hD hS => ?_)
  have hP : va_P G vwCl [(h0, .inr (5, [.int 0, .int 0, .int 0, .null, .null, .null, .null, .null]))] H := hP
  have hD : va_D A [(h0, .inr (5, [.int 0, .int 0, .int 0, .null, .null, .null, .null, .null]))] := hD
  refine lv_aload_n hx hb dX5_init_19 rfl (lv_at hl 0 rfl) ?_
  refine lv_bipush (v := 60) hx hb dX5_init_20 (by decide) ?_
  refine z_newa (cA := cA) (atype := .int) (ty := .int) (N' := 60) (a0 := (60, .inl (fun _ => 0))) hx hb (hts _ tw_342) rfl 0 rfl (fun _ h9 => by cases h9) hK hP hD hS hA (fun _ => rfl) (by decide +kernel) (by decide +kernel) (Nat.le_of_ble_eq_true rfl) (Nat.le_of_ble_eq_true rfl) (Nat.le_of_ble_eq_true rfl) dX5_init_22 (fun q_1 H hP hD hS => ?_)
  have hP : va_P G vwCl [(h0, .inr (5, [.int 0, .int 0, .int 0, .null, .null, .null, .null, .null])), (q_1, .inl (cA 0, 60, .inl (fun _ => 0)))] H := hP
  have hD : va_D A [(h0, .inr (5, [.int 0, .int 0, .int 0, .null, .null, .null, .null, .null])), (q_1, .inl (cA 0, 60, .inl (fun _ => 0)))] := hD
  refine va_putF (D := G) (ci := 5) (v := .ref q_1) (ty := (.array .int)) (C := RX5) (T := TX5) (N := 8) hx hb hts inT5 tyX5 tyX5_ok nmX5 hown hK hP hD hS 0 rfl rfl 3 (by decide) (hts _ tw_386) (fun _ h9 => h9) rfl hin rfl (tyX5_ok 3 (by decide)) rfl rfl (Nat.le_of_ble_eq_true rfl) dX5_init_24 (fun H locs hP hD hS => ?_)
  have hP : va_P G vwCl [(h0, .inr (5, [.int 0, .int 0, .int 0, .ref q_1, .null, .null, .null, .null])), (q_1, .inl (cA 0, 60, .inl (fun _ => 0)))] H := hP
  have hD : va_D A [(h0, .inr (5, [.int 0, .int 0, .int 0, .ref q_1, .null, .null, .null, .null])), (q_1, .inl (cA 0, 60, .inl (fun _ => 0)))] := hD
  refine lv_aload_n hx hb dX5_init_27 rfl (lv_at hl 0 rfl) ?_
  refine lv_bipush (v := 60) hx hb dX5_init_28 (by decide) ?_
  refine z_newa (cA := cA) (atype := .int) (ty := .int) (N' := 60) (a0 := (60, .inl (fun _ => 0))) hx hb (hts _ tw_342) rfl 0 rfl (fun _ h9 => by cases h9) hK hP hD hS hA (fun _ => rfl) (by decide +kernel) (by decide +kernel) (Nat.le_of_ble_eq_true rfl) (Nat.le_of_ble_eq_true rfl) (Nat.le_of_ble_eq_true rfl) dX5_init_30 (fun q_2 H hP hD hS => ?_)
  have hP : va_P G vwCl [(h0, .inr (5, [.int 0, .int 0, .int 0, .ref q_1, .null, .null, .null, .null])), (q_1, .inl (cA 0, 60, .inl (fun _ => 0))), (q_2, .inl (cA 0, 60, .inl (fun _ => 0)))] H := hP
  have hD : va_D A [(h0, .inr (5, [.int 0, .int 0, .int 0, .ref q_1, .null, .null, .null, .null])), (q_1, .inl (cA 0, 60, .inl (fun _ => 0))), (q_2, .inl (cA 0, 60, .inl (fun _ => 0)))] := hD
  refine va_putF (D := G) (ci := 5) (v := .ref q_2) (ty := (.array .int)) (C := RX5) (T := TX5) (N := 8) hx hb hts inT5 tyX5 tyX5_ok nmX5 hown hK hP hD hS 0 rfl rfl 4 (by decide) (hts _ tw_387) (fun _ h9 => h9) rfl hin rfl (tyX5_ok 4 (by decide)) rfl rfl (Nat.le_of_ble_eq_true rfl) dX5_init_32 (fun H locs hP hD hS => ?_)
  have hP : va_P G vwCl [(h0, .inr (5, [.int 0, .int 0, .int 0, .ref q_1, .ref q_2, .null, .null, .null])), (q_1, .inl (cA 0, 60, .inl (fun _ => 0))), (q_2, .inl (cA 0, 60, .inl (fun _ => 0)))] H := hP
  have hD : va_D A [(h0, .inr (5, [.int 0, .int 0, .int 0, .ref q_1, .ref q_2, .null, .null, .null])), (q_1, .inl (cA 0, 60, .inl (fun _ => 0))), (q_2, .inl (cA 0, 60, .inl (fun _ => 0)))] := hD
  refine lv_aload_n hx hb dX5_init_35 rfl (lv_at hl 0 rfl) ?_
  refine lv_bipush (v := 60) hx hb dX5_init_36 (by decide) ?_
  refine z_newa (cA := cA) (atype := .int) (ty := .int) (N' := 60) (a0 := (60, .inl (fun _ => 0))) hx hb (hts _ tw_342) rfl 0 rfl (fun _ h9 => by cases h9) hK hP hD hS hA (fun _ => rfl) (by decide +kernel) (by decide +kernel) (Nat.le_of_ble_eq_true rfl) (Nat.le_of_ble_eq_true rfl) (Nat.le_of_ble_eq_true rfl) dX5_init_38 (fun q_3 H hP hD hS => ?_)
  have hP : va_P G vwCl [(h0, .inr (5, [.int 0, .int 0, .int 0, .ref q_1, .ref q_2, .null, .null, .null])), (q_1, .inl (cA 0, 60, .inl (fun _ => 0))), (q_2, .inl (cA 0, 60, .inl (fun _ => 0))), (q_3, .inl (cA 0, 60, .inl (fun _ => 0)))] H := hP
  have hD : va_D A [(h0, .inr (5, [.int 0, .int 0, .int 0, .ref q_1, .ref q_2, .null, .null, .null])), (q_1, .inl (cA 0, 60, .inl (fun _ => 0))), (q_2, .inl (cA 0, 60, .inl (fun _ => 0))), (q_3, .inl (cA 0, 60, .inl (fun _ => 0)))] := hD
  refine va_putF (D := G) (ci := 5) (v := .ref q_3) (ty := (.array .int)) (C := RX5) (T := TX5) (N := 8) hx hb hts inT5 tyX5 tyX5_ok nmX5 hown hK hP hD hS 0 rfl rfl 5 (by decide) (hts _ tw_388) (fun _ h9 => h9) rfl hin rfl (tyX5_ok 5 (by decide)) rfl rfl (Nat.le_of_ble_eq_true rfl) dX5_init_40 (fun H locs hP hD hS => ?_)
  have hP : va_P G vwCl [(h0, .inr (5, [.int 0, .int 0, .int 0, .ref q_1, .ref q_2, .ref q_3, .null, .null])), (q_1, .inl (cA 0, 60, .inl (fun _ => 0))), (q_2, .inl (cA 0, 60, .inl (fun _ => 0))), (q_3, .inl (cA 0, 60, .inl (fun _ => 0)))] H := hP
  have hD : va_D A [(h0, .inr (5, [.int 0, .int 0, .int 0, .ref q_1, .ref q_2, .ref q_3, .null, .null])), (q_1, .inl (cA 0, 60, .inl (fun _ => 0))), (q_2, .inl (cA 0, 60, .inl (fun _ => 0))), (q_3, .inl (cA 0, 60, .inl (fun _ => 0)))] := hD
  refine lv_aload_n hx hb dX5_init_43 rfl (lv_at hl 0 rfl) ?_
  refine lv_bipush (v := 60) hx hb dX5_init_44 (by decide) ?_
  refine z_newa (cA := cA) (atype := .int) (ty := .int) (N' := 60) (a0 := (60, .inl (fun _ => 0))) hx hb (hts _ tw_342) rfl 0 rfl (fun _ h9 => by cases h9) hK hP hD hS hA (fun _ => rfl) (by decide +kernel) (by decide +kernel) (Nat.le_of_ble_eq_true rfl) (Nat.le_of_ble_eq_true rfl) (Nat.le_of_ble_eq_true rfl) dX5_init_46 (fun q_4 H hP hD hS => ?_)
  have hP : va_P G vwCl [(h0, .inr (5, [.int 0, .int 0, .int 0, .ref q_1, .ref q_2, .ref q_3, .null, .null])), (q_1, .inl (cA 0, 60, .inl (fun _ => 0))), (q_2, .inl (cA 0, 60, .inl (fun _ => 0))), (q_3, .inl (cA 0, 60, .inl (fun _ => 0))), (q_4, .inl (cA 0, 60, .inl (fun _ => 0)))] H := hP
  have hD : va_D A [(h0, .inr (5, [.int 0, .int 0, .int 0, .ref q_1, .ref q_2, .ref q_3, .null, .null])), (q_1, .inl (cA 0, 60, .inl (fun _ => 0))), (q_2, .inl (cA 0, 60, .inl (fun _ => 0))), (q_3, .inl (cA 0, 60, .inl (fun _ => 0))), (q_4, .inl (cA 0, 60, .inl (fun _ => 0)))] := hD
  refine va_putF (D := G) (ci := 5) (v := .ref q_4) (ty := (.array .int)) (C := RX5) (T := TX5) (N := 8) hx hb hts inT5 tyX5 tyX5_ok nmX5 hown hK hP hD hS 0 rfl rfl 6 (by decide) (hts _ tw_389) (fun _ h9 => h9) rfl hin rfl (tyX5_ok 6 (by decide)) rfl rfl (Nat.le_of_ble_eq_true rfl) dX5_init_48 (fun H locs hP hD hS => ?_)
  have hP : va_P G vwCl [(h0, .inr (5, [.int 0, .int 0, .int 0, .ref q_1, .ref q_2, .ref q_3, .ref q_4, .null])), (q_1, .inl (cA 0, 60, .inl (fun _ => 0))), (q_2, .inl (cA 0, 60, .inl (fun _ => 0))), (q_3, .inl (cA 0, 60, .inl (fun _ => 0))), (q_4, .inl (cA 0, 60, .inl (fun _ => 0)))] H := hP
  have hD : va_D A [(h0, .inr (5, [.int 0, .int 0, .int 0, .ref q_1, .ref q_2, .ref q_3, .ref q_4, .null])), (q_1, .inl (cA 0, 60, .inl (fun _ => 0))), (q_2, .inl (cA 0, 60, .inl (fun _ => 0))), (q_3, .inl (cA 0, 60, .inl (fun _ => 0))), (q_4, .inl (cA 0, 60, .inl (fun _ => 0)))] := hD
  refine lv_aload_n hx hb dX5_init_51 rfl (lv_at hl 0 rfl) ?_
  refine lv_bipush (v := 60) hx hb dX5_init_52 (by decide) ?_
  refine z_newa (cA := cA) (atype := .int) (ty := .int) (N' := 60) (a0 := (60, .inl (fun _ => 0))) hx hb (hts _ tw_342) rfl 0 rfl (fun _ h9 => by cases h9) hK hP hD hS hA (fun _ => rfl) (by decide +kernel) (by decide +kernel) (Nat.le_of_ble_eq_true rfl) (Nat.le_of_ble_eq_true rfl) (Nat.le_of_ble_eq_true rfl) dX5_init_54 (fun q_5 H hP hD hS => ?_)
  have hP : va_P G vwCl [(h0, .inr (5, [.int 0, .int 0, .int 0, .ref q_1, .ref q_2, .ref q_3, .ref q_4, .null])), (q_1, .inl (cA 0, 60, .inl (fun _ => 0))), (q_2, .inl (cA 0, 60, .inl (fun _ => 0))), (q_3, .inl (cA 0, 60, .inl (fun _ => 0))), (q_4, .inl (cA 0, 60, .inl (fun _ => 0))), (q_5, .inl (cA 0, 60, .inl (fun _ => 0)))] H := hP
  have hD : va_D A [(h0, .inr (5, [.int 0, .int 0, .int 0, .ref q_1, .ref q_2, .ref q_3, .ref q_4, .null])), (q_1, .inl (cA 0, 60, .inl (fun _ => 0))), (q_2, .inl (cA 0, 60, .inl (fun _ => 0))), (q_3, .inl (cA 0, 60, .inl (fun _ => 0))), (q_4, .inl (cA 0, 60, .inl (fun _ => 0))), (q_5, .inl (cA 0, 60, .inl (fun _ => 0)))] := hD
  refine va_putF (D := G) (ci := 5) (v := .ref q_5) (ty := (.array .int)) (C := RX5) (T := TX5) (N := 8) hx hb hts inT5 tyX5 tyX5_ok nmX5 hown hK hP hD hS 0 rfl rfl 7 (by decide) (hts _ tw_390) (fun _ h9 => h9) rfl hin rfl (tyX5_ok 7 (by decide)) rfl rfl (Nat.le_of_ble_eq_true rfl) dX5_init_56 (fun H locs hP hD hS => ?_)
  have hP : va_P G vwCl [(h0, .inr (5, [.int 0, .int 0, .int 0, .ref q_1, .ref q_2, .ref q_3, .ref q_4, .ref q_5])), (q_1, .inl (cA 0, 60, .inl (fun _ => 0))), (q_2, .inl (cA 0, 60, .inl (fun _ => 0))), (q_3, .inl (cA 0, 60, .inl (fun _ => 0))), (q_4, .inl (cA 0, 60, .inl (fun _ => 0))), (q_5, .inl (cA 0, 60, .inl (fun _ => 0)))] H := hP
  have hD : va_D A [(h0, .inr (5, [.int 0, .int 0, .int 0, .ref q_1, .ref q_2, .ref q_3, .ref q_4, .ref q_5])), (q_1, .inl (cA 0, 60, .inl (fun _ => 0))), (q_2, .inl (cA 0, 60, .inl (fun _ => 0))), (q_3, .inl (cA 0, 60, .inl (fun _ => 0))), (q_4, .inl (cA 0, 60, .inl (fun _ => 0))), (q_5, .inl (cA 0, 60, .inl (fun _ => 0)))] := hD
  refine W.widen (k := 5) (n := 300) (Nat.le_of_ble_eq_true rfl) (Nat.le_of_ble_eq_true rfl) ?_
  exact z_retv hx hb hr hlocks hP hD hS (q_1, q_2, q_3, q_4, q_5) [0, 1, 2, 3, 4, 5] rfl (by decide) dX5_init_59 trivial
set_option maxHeartbeats 4000000 in
set_option maxRecDepth 100000 in
theorem c_HR_init (l : Launch) (G : va_G) (cA : Nat → ClassId) (h0 : Nat) (h1 : Nat) : zCv l yX3_init cX3_init 2 none ({ frames := 4, cells := 16, slots := 185, locals := 84 }) G cA [.ref h0, .ref h1] [(h0, .inr (3, [.null, .null, .null, .null, .null, .null, .int 0, .int 0, .int 0, .int 0]))] (S := Nat × Nat × Nat × Nat × Nat × Nat × Nat × Nat × Nat × Nat × Nat × Nat × (Nat → Int32) × Nat × Nat × Nat × Nat) (fun (u : Nat × Nat × Nat × Nat × Nat × Nat × Nat × Nat × Nat × Nat × Nat × Nat × (Nat → Int32) × Nat × Nat × Nat × Nat) => True) (fun (u : Nat × Nat × Nat × Nat × Nat × Nat × Nat × Nat × Nat × Nat × Nat × Nat × (Nat → Int32) × Nat × Nat × Nat × Nat) => [(h0, .inr (3, [.ref h1, .ref u.1, .ref u.2.2.2.2.2.2.2.2.2.2.2.2.2.1, .ref u.2.2.2.2.2.2.2.2.2.2.2.2.2.2.1, .ref u.2.2.2.2.2.2.2.2.2.2.2.2.2.2.2.1, .ref u.2.2.2.2.2.2.2.2.2.2.2.2.2.2.2.2, .int 0, .int 0, .int 0, .int 0])), (u.1, .inr (2, [.int 0, .ref u.2.1, .ref u.2.2.1, .ref u.2.2.2.1, .ref u.2.2.2.2.1, .int 0, .ref u.2.2.2.2.2.1, .int 0, .int 0, .ref u.2.2.2.2.2.2.1, .ref u.2.2.2.2.2.2.2.1, .int 0, .ref u.2.2.2.2.2.2.2.2.1, .ref u.2.2.2.2.2.2.2.2.2.1, .ref u.2.2.2.2.2.2.2.2.2.2.1, .int 8, .int 0, .ref u.2.2.2.2.2.2.2.2.2.2.2.1])), (u.2.1, .inl (cA 1, 3, .inr (.inl (fun _ => 0)))), (u.2.2.1, .inl (cA 0, 3, .inl (fun _ => 0))), (u.2.2.2.1, .inl (cA 0, 3, .inl (fun _ => 0))), (u.2.2.2.2.1, .inl (cA 0, 48, .inl (fun _ => 0))), (u.2.2.2.2.2.1, .inl (cA 0, 30, .inl (fun _ => 0))), (u.2.2.2.2.2.2.1, .inl (cA 0, 30, .inl (fun _ => 0))), (u.2.2.2.2.2.2.2.1, .inl (cA 0, 3, .inl (fun _ => 0))), (u.2.2.2.2.2.2.2.2.1, .inl (cA 0, 5, .inl (fun _ => 0))), (u.2.2.2.2.2.2.2.2.2.1, .inl (cA 0, 5, .inl (fun _ => 0))), (u.2.2.2.2.2.2.2.2.2.2.1, .inl (cA 0, 4, .inl u.2.2.2.2.2.2.2.2.2.2.2.2.1)), (u.2.2.2.2.2.2.2.2.2.2.2.1, .inl (cA 0, 12, .inl (fun _ => 0)))]) 16 185 := by
  refine z_startv (own := RX3) (by decide) (Nat.le_of_ble_eq_true rfl) rfl ?_
  intro p e s m below meth c A ls hx hb hr hlocks hml hts hown hin hK hE hP hD hS hA hl
  have hl : lv_has ls 2 [(0, .ref h0), (1, .ref h1)] := hl
  refine lv_aload_n hx hb dX3_init_0 rfl (lv_at hl 0 rfl) ?_
  refine W.objInit hx hb hown (hts _ tw_413) (hts _ tw_195) (hts _ tw_196) rfl (by rw [hml]; exact hl.1) rfl dX3_init_1 (Nat.le_of_ble_eq_true rfl) (Nat.le_of_ble_eq_true rfl) ?_
  refine W.eq (g2 := F0 m 4 ls []) rfl ?_
  refine lv_aload_n hx hb dX3_init_4 rfl (lv_at hl 0 rfl) ?_
  refine va_new (ci := 2) (fs := [.int 0, .null, .null, .null, .null, .int 0, .null, .int 0, .int 0, .null, .null, .int 0, .null, .null, .null, .int 0, .int 0, .null]) (C := RX2) (T := TX2) (N := 18) hx hb hts inT2 tyX2 tyX2_ok hown (hts _ tw_414) (hts _ tw_249) (hts _ tw_170) hK hP hD hS hA rfl (by decide +kernel) (Nat.le_of_ble_eq_true rfl) (Nat.le_of_ble_eq_true rfl) dX3_init_5 (fun q_1 H hP hD hS => ?_)
  have hP : va_P G vwCl [(h0, .inr (3, [.null, .null, .null, .null, .null, .null, .int 0, .int 0, .int 0, .int 0])), (q_1, .inr (2, [.int 0, .null, .null, .null, .null, .int 0, .null, .int 0, .int 0, .null, .null, .int 0, .null, .null, .null, .int 0, .int 0, .null]))] H := hP
  have hD : va_D A [(h0, .inr (3, [.null, .null, .null, .null, .null, .null, .int 0, .int 0, .int 0, .int 0])), (q_1, .inr (2, [.int 0, .null, .null, .null, .null, .int 0, .null, .int 0, .int 0, .null, .null, .int 0, .null, .null, .null, .int 0, .int 0, .null]))] := hD
  refine lv_dup hx hb dX3_init_8 rfl ?_
  refine z_callIv (As := []) (rest := [.ref q_1, .ref h0]) (wr := [(h0, .inr (3, [.null, .null, .null, .null, .null, .null, .int 0, .int 0, .int 0, .int 0]))]) ⟨hx, hb, hml, hown, hts⟩ hK hE hP hD hS hA (c_H_init l G cA q_1) lk_RX3_11 ⟨rfl, rfl⟩ ⟨Nat.le_of_ble_eq_true rfl, Nat.le_of_ble_eq_true rfl⟩ [1] [0] rfl rfl (by decide) rfl hl.1 rfl (lv_room (Nat.le_of_ble_eq_true rfl)) dX3_init_9 ⟨Nat.le_of_ble_eq_true rfl, Nat.le_of_ble_eq_true rfl⟩ (fun u_15 H locs hw hP hD hS => ?_)
  obtain ⟨q0_2, q1_3, q2_4, q3_5, q4_6, q5_7, q6_8, q7_9, q8_10, q9_11, q10_12, sf_13⟩ := u_15
  have hP : va_P G vwCl [(h0, .inr (3, [.null, .null, .null, .null, .null, .null, .int 0, .int 0, .int 0, .int 0])), (q_1, .inr (2, [.int 0, .ref q0_2, .ref q1_3, .ref q2_4, .ref q3_5, .int 0, .ref q4_6, .int 0, .int 0, .ref q5_7, .ref q6_8, .int 0, .ref q7_9, .ref q8_10, .ref q9_11, .int 8, .int 0, .ref q10_12])), (q0_2, .inl (cA 1, 3, .inr (.inl (fun _ => 0)))), (q1_3, .inl (cA 0, 3, .inl (fun _ => 0))), (q2_4, .inl (cA 0, 3, .inl (fun _ => 0))), (q3_5, .inl (cA 0, 48, .inl (fun _ => 0))), (q4_6, .inl (cA 0, 30, .inl (fun _ => 0))), (q5_7, .inl (cA 0, 30, .inl (fun _ => 0))), (q6_8, .inl (cA 0, 3, .inl (fun _ => 0))), (q7_9, .inl (cA 0, 5, .inl (fun _ => 0))), (q8_10, .inl (cA 0, 5, .inl (fun _ => 0))), (q9_11, .inl (cA 0, 4, .inl sf_13)), (q10_12, .inl (cA 0, 12, .inl (fun _ => 0)))] H := hP
  have hD : va_D A [(h0, .inr (3, [.null, .null, .null, .null, .null, .null, .int 0, .int 0, .int 0, .int 0])), (q_1, .inr (2, [.int 0, .ref q0_2, .ref q1_3, .ref q2_4, .ref q3_5, .int 0, .ref q4_6, .int 0, .int 0, .ref q5_7, .ref q6_8, .int 0, .ref q7_9, .ref q8_10, .ref q9_11, .int 8, .int 0, .ref q10_12])), (q0_2, .inl (cA 1, 3, .inr (.inl (fun _ => 0)))), (q1_3, .inl (cA 0, 3, .inl (fun _ => 0))), (q2_4, .inl (cA 0, 3, .inl (fun _ => 0))), (q3_5, .inl (cA 0, 48, .inl (fun _ => 0))), (q4_6, .inl (cA 0, 30, .inl (fun _ => 0))), (q5_7, .inl (cA 0, 30, .inl (fun _ => 0))), (q6_8, .inl (cA 0, 3, .inl (fun _ => 0))), (q7_9, .inl (cA 0, 5, .inl (fun _ => 0))), (q8_10, .inl (cA 0, 5, .inl (fun _ => 0))), (q9_11, .inl (cA 0, 4, .inl sf_13)), (q10_12, .inl (cA 0, 12, .inl (fun _ => 0)))] := hD
  have hs_sf_13 : zSec sf_13 := hw
  refine va_putF (D := G) (ci := 3) (v := .ref q_1) (ty := (.object "DarkRing$House")) (C := RX3) (T := TX3) (N := 10) hx hb hts inT3 tyX3 tyX3_ok nmX3 hown hK hP hD hS 0 rfl rfl 1 (by decide) (hts _ tw_417) (fun _ h9 => h9) rfl hin rfl (tyX3_ok 1 (by decide)) rfl rfl (Nat.le_of_ble_eq_true rfl) dX3_init_12 (fun H locs hP hD hS => ?_)
  have hP : va_P G vwCl [(h0, .inr (3, [.null, .ref q_1, .null, .null, .null, .null, .int 0, .int 0, .int 0, .int 0])), (q_1, .inr (2, [.int 0, .ref q0_2, .ref q1_3, .ref q2_4, .ref q3_5, .int 0, .ref q4_6, .int 0, .int 0, .ref q5_7, .ref q6_8, .int 0, .ref q7_9, .ref q8_10, .ref q9_11, .int 8, .int 0, .ref q10_12])), (q0_2, .inl (cA 1, 3, .inr (.inl (fun _ => 0)))), (q1_3, .inl (cA 0, 3, .inl (fun _ => 0))), (q2_4, .inl (cA 0, 3, .inl (fun _ => 0))), (q3_5, .inl (cA 0, 48, .inl (fun _ => 0))), (q4_6, .inl (cA 0, 30, .inl (fun _ => 0))), (q5_7, .inl (cA 0, 30, .inl (fun _ => 0))), (q6_8, .inl (cA 0, 3, .inl (fun _ => 0))), (q7_9, .inl (cA 0, 5, .inl (fun _ => 0))), (q8_10, .inl (cA 0, 5, .inl (fun _ => 0))), (q9_11, .inl (cA 0, 4, .inl sf_13)), (q10_12, .inl (cA 0, 12, .inl (fun _ => 0)))] H := hP
  have hD : va_D A [(h0, .inr (3, [.null, .ref q_1, .null, .null, .null, .null, .int 0, .int 0, .int 0, .int 0])), (q_1, .inr (2, [.int 0, .ref q0_2, .ref q1_3, .ref q2_4, .ref q3_5, .int 0, .ref q4_6, .int 0, .int 0, .ref q5_7, .ref q6_8, .int 0, .ref q7_9, .ref q8_10, .ref q9_11, .int 8, .int 0, .ref q10_12])), (q0_2, .inl (cA 1, 3, .inr (.inl (fun _ => 0)))), (q1_3, .inl (cA 0, 3, .inl (fun _ => 0))), (q2_4, .inl (cA 0, 3, .inl (fun _ => 0))), (q3_5, .inl (cA 0, 48, .inl (fun _ => 0))), (q4_6, .inl (cA 0, 30, .inl (fun _ => 0))), (q5_7, .inl (cA 0, 30, .inl (fun _ => 0))), (q6_8, .inl (cA 0, 3, .inl (fun _ => 0))), (q7_9, .inl (cA 0, 5, .inl (fun _ => 0))), (q8_10, .inl (cA 0, 5, .inl (fun _ => 0))), (q9_11, .inl (cA 0, 4, .inl sf_13)), (q10_12, .inl (cA 0, 12, .inl (fun _ => 0)))] := hD
  refine lv_aload_n hx hb dX3_init_15 rfl (lv_at hl 0 rfl) ?_
  refine lv_iconst (v := 3) hx hb dX3_init_16 (by decide) ?_
  refine z_newa (cA := cA) (atype := .long) (ty := .long) (N' := 3) (a0 := (3, .inr (.inl (fun _ => 0)))) hx hb (hts _ tw_341) rfl 1 rfl (fun _ h9 => by cases h9) hK hP hD hS hA (fun _ => rfl) (by decide +kernel) (by decide +kernel) (Nat.le_of_ble_eq_true rfl) (Nat.le_of_ble_eq_true rfl) (Nat.le_of_ble_eq_true rfl) dX3_init_17 (fun q_16 H hP hD hS => ?_)
  have hP : va_P G vwCl [(h0, .inr (3, [.null, .ref q_1, .null, .null, .null, .null, .int 0, .int 0, .int 0, .int 0])), (q_1, .inr (2, [.int 0, .ref q0_2, .ref q1_3, .ref q2_4, .ref q3_5, .int 0, .ref q4_6, .int 0, .int 0, .ref q5_7, .ref q6_8, .int 0, .ref q7_9, .ref q8_10, .ref q9_11, .int 8, .int 0, .ref q10_12])), (q0_2, .inl (cA 1, 3, .inr (.inl (fun _ => 0)))), (q1_3, .inl (cA 0, 3, .inl (fun _ => 0))), (q2_4, .inl (cA 0, 3, .inl (fun _ => 0))), (q3_5, .inl (cA 0, 48, .inl (fun _ => 0))), (q4_6, .inl (cA 0, 30, .inl (fun _ => 0))), (q5_7, .inl (cA 0, 30, .inl (fun _ => 0))), (q6_8, .inl (cA 0, 3, .inl (fun _ => 0))), (q7_9, .inl (cA 0, 5, .inl (fun _ => 0))), (q8_10, .inl (cA 0, 5, .inl (fun _ => 0))), (q9_11, .inl (cA 0, 4, .inl sf_13)), (q10_12, .inl (cA 0, 12, .inl (fun _ => 0))), (q_16, .inl (cA 1, 3, .inr (.inl (fun _ => 0))))] H := hP
  have hD : va_D A [(h0, .inr (3, [.null, .ref q_1, .null, .null, .null, .null, .int 0, .int 0, .int 0, .int 0])), (q_1, .inr (2, [.int 0, .ref q0_2, .ref q1_3, .ref q2_4, .ref q3_5, .int 0, .ref q4_6, .int 0, .int 0, .ref q5_7, .ref q6_8, .int 0, .ref q7_9, .ref q8_10, .ref q9_11, .int 8, .int 0, .ref q10_12])), (q0_2, .inl (cA 1, 3, .inr (.inl (fun _ => 0)))), (q1_3, .inl (cA 0, 3, .inl (fun _ => 0))), (q2_4, .inl (cA 0, 3, .inl (fun _ => 0))), (q3_5, .inl (cA 0, 48, .inl (fun _ => 0))), (q4_6, .inl (cA 0, 30, .inl (fun _ => 0))), (q5_7, .inl (cA 0, 30, .inl (fun _ => 0))), (q6_8, .inl (cA 0, 3, .inl (fun _ => 0))), (q7_9, .inl (cA 0, 5, .inl (fun _ => 0))), (q8_10, .inl (cA 0, 5, .inl (fun _ => 0))), (q9_11, .inl (cA 0, 4, .inl sf_13)), (q10_12, .inl (cA 0, 12, .inl (fun _ => 0))), (q_16, .inl (cA 1, 3, .inr (.inl (fun _ => 0))))] := hD
  refine va_putF (D := G) (ci := 3) (v := .ref q_16) (ty := (.array .long)) (C := RX3) (T := TX3) (N := 10) hx hb hts inT3 tyX3 tyX3_ok nmX3 hown hK hP hD hS 0 rfl rfl 2 (by decide) (hts _ tw_419) (fun _ h9 => h9) rfl hin rfl (tyX3_ok 2 (by decide)) rfl rfl (Nat.le_of_ble_eq_true rfl) dX3_init_19 (fun H locs hP hD hS => ?_)
  have hP : va_P G vwCl [(h0, .inr (3, [.null, .ref q_1, .ref q_16, .null, .null, .null, .int 0, .int 0, .int 0, .int 0])), (q_1, .inr (2, [.int 0, .ref q0_2, .ref q1_3, .ref q2_4, .ref q3_5, .int 0, .ref q4_6, .int 0, .int 0, .ref q5_7, .ref q6_8, .int 0, .ref q7_9, .ref q8_10, .ref q9_11, .int 8, .int 0, .ref q10_12])), (q0_2, .inl (cA 1, 3, .inr (.inl (fun _ => 0)))), (q1_3, .inl (cA 0, 3, .inl (fun _ => 0))), (q2_4, .inl (cA 0, 3, .inl (fun _ => 0))), (q3_5, .inl (cA 0, 48, .inl (fun _ => 0))), (q4_6, .inl (cA 0, 30, .inl (fun _ => 0))), (q5_7, .inl (cA 0, 30, .inl (fun _ => 0))), (q6_8, .inl (cA 0, 3, .inl (fun _ => 0))), (q7_9, .inl (cA 0, 5, .inl (fun _ => 0))), (q8_10, .inl (cA 0, 5, .inl (fun _ => 0))), (q9_11, .inl (cA 0, 4, .inl sf_13)), (q10_12, .inl (cA 0, 12, .inl (fun _ => 0))), (q_16, .inl (cA 1, 3, .inr (.inl (fun _ => 0))))] H := hP
  have hD : va_D A [(h0, .inr (3, [.null, .ref q_1, .ref q_16, .null, .null, .null, .int 0, .int 0, .int 0, .int 0])), (q_1, .inr (2, [.int 0, .ref q0_2, .ref q1_3, .ref q2_4, .ref q3_5, .int 0, .ref q4_6, .int 0, .int 0, .ref q5_7, .ref q6_8, .int 0, .ref q7_9, .ref q8_10, .ref q9_11, .int 8, .int 0, .ref q10_12])), (q0_2, .inl (cA 1, 3, .inr (.inl (fun _ => 0)))), (q1_3, .inl (cA 0, 3, .inl (fun _ => 0))), (q2_4, .inl (cA 0, 3, .inl (fun _ => 0))), (q3_5, .inl (cA 0, 48, .inl (fun _ => 0))), (q4_6, .inl (cA 0, 30, .inl (fun _ => 0))), (q5_7, .inl (cA 0, 30, .inl (fun _ => 0))), (q6_8, .inl (cA 0, 3, .inl (fun _ => 0))), (q7_9, .inl (cA 0, 5, .inl (fun _ => 0))), (q8_10, .inl (cA 0, 5, .inl (fun _ => 0))), (q9_11, .inl (cA 0, 4, .inl sf_13)), (q10_12, .inl (cA 0, 12, .inl (fun _ => 0))), (q_16, .inl (cA 1, 3, .inr (.inl (fun _ => 0))))] := hD
  refine lv_aload_n hx hb dX3_init_22 rfl (lv_at hl 0 rfl) ?_
  refine lv_bipush (v := 10) hx hb dX3_init_23 (by decide) ?_
  refine z_newa (cA := cA) (atype := .long) (ty := .long) (N' := 10) (a0 := (10, .inr (.inl (fun _ => 0)))) hx hb (hts _ tw_341) rfl 1 rfl (fun _ h9 => by cases h9) hK hP hD hS hA (fun _ => rfl) (by decide +kernel) (by decide +kernel) (Nat.le_of_ble_eq_true rfl) (Nat.le_of_ble_eq_true rfl) (Nat.le_of_ble_eq_true rfl) dX3_init_25 (fun q_17 H hP hD hS => ?_)
  have hP : va_P G vwCl [(h0, .inr (3, [.null, .ref q_1, .ref q_16, .null, .null, .null, .int 0, .int 0, .int 0, .int 0])), (q_1, .inr (2, [.int 0, .ref q0_2, .ref q1_3, .ref q2_4, .ref q3_5, .int 0, .ref q4_6, .int 0, .int 0, .ref q5_7, .ref q6_8, .int 0, .ref q7_9, .ref q8_10, .ref q9_11, .int 8, .int 0, .ref q10_12])), (q0_2, .inl (cA 1, 3, .inr (.inl (fun _ => 0)))), (q1_3, .inl (cA 0, 3, .inl (fun _ => 0))), (q2_4, .inl (cA 0, 3, .inl (fun _ => 0))), (q3_5, .inl (cA 0, 48, .inl (fun _ => 0))), (q4_6, .inl (cA 0, 30, .inl (fun _ => 0))), (q5_7, .inl (cA 0, 30, .inl (fun _ => 0))), (q6_8, .inl (cA 0, 3, .inl (fun _ => 0))), (q7_9, .inl (cA 0, 5, .inl (fun _ => 0))), (q8_10, .inl (cA 0, 5, .inl (fun _ => 0))), (q9_11, .inl (cA 0, 4, .inl sf_13)), (q10_12, .inl (cA 0, 12, .inl (fun _ => 0))), (q_16, .inl (cA 1, 3, .inr (.inl (fun _ => 0)))), (q_17, .inl (cA 1, 10, .inr (.inl (fun _ => 0))))] H := hP
  have hD : va_D A [(h0, .inr (3, [.null, .ref q_1, .ref q_16, .null, .null, .null, .int 0, .int 0, .int 0, .int 0])), (q_1, .inr (2, [.int 0, .ref q0_2, .ref q1_3, .ref q2_4, .ref q3_5, .int 0, .ref q4_6, .int 0, .int 0, .ref q5_7, .ref q6_8, .int 0, .ref q7_9, .ref q8_10, .ref q9_11, .int 8, .int 0, .ref q10_12])), (q0_2, .inl (cA 1, 3, .inr (.inl (fun _ => 0)))), (q1_3, .inl (cA 0, 3, .inl (fun _ => 0))), (q2_4, .inl (cA 0, 3, .inl (fun _ => 0))), (q3_5, .inl (cA 0, 48, .inl (fun _ => 0))), (q4_6, .inl (cA 0, 30, .inl (fun _ => 0))), (q5_7, .inl (cA 0, 30, .inl (fun _ => 0))), (q6_8, .inl (cA 0, 3, .inl (fun _ => 0))), (q7_9, .inl (cA 0, 5, .inl (fun _ => 0))), (q8_10, .inl (cA 0, 5, .inl (fun _ => 0))), (q9_11, .inl (cA 0, 4, .inl sf_13)), (q10_12, .inl (cA 0, 12, .inl (fun _ => 0))), (q_16, .inl (cA 1, 3, .inr (.inl (fun _ => 0)))), (q_17, .inl (cA 1, 10, .inr (.inl (fun _ => 0))))] := hD
  refine va_putF (D := G) (ci := 3) (v := .ref q_17) (ty := (.array .long)) (C := RX3) (T := TX3) (N := 10) hx hb hts inT3 tyX3 tyX3_ok nmX3 hown hK hP hD hS 0 rfl rfl 3 (by decide) (hts _ tw_420) (fun _ h9 => h9) rfl hin rfl (tyX3_ok 3 (by decide)) rfl rfl (Nat.le_of_ble_eq_true rfl) dX3_init_27 (fun H locs hP hD hS => ?_)
  have hP : va_P G vwCl [(h0, .inr (3, [.null, .ref q_1, .ref q_16, .ref q_17, .null, .null, .int 0, .int 0, .int 0, .int 0])), (q_1, .inr (2, [.int 0, .ref q0_2, .ref q1_3, .ref q2_4, .ref q3_5, .int 0, .ref q4_6, .int 0, .int 0, .ref q5_7, .ref q6_8, .int 0, .ref q7_9, .ref q8_10, .ref q9_11, .int 8, .int 0, .ref q10_12])), (q0_2, .inl (cA 1, 3, .inr (.inl (fun _ => 0)))), (q1_3, .inl (cA 0, 3, .inl (fun _ => 0))), (q2_4, .inl (cA 0, 3, .inl (fun _ => 0))), (q3_5, .inl (cA 0, 48, .inl (fun _ => 0))), (q4_6, .inl (cA 0, 30, .inl (fun _ => 0))), (q5_7, .inl (cA 0, 30, .inl (fun _ => 0))), (q6_8, .inl (cA 0, 3, .inl (fun _ => 0))), (q7_9, .inl (cA 0, 5, .inl (fun _ => 0))), (q8_10, .inl (cA 0, 5, .inl (fun _ => 0))), (q9_11, .inl (cA 0, 4, .inl sf_13)), (q10_12, .inl (cA 0, 12, .inl (fun _ => 0))), (q_16, .inl (cA 1, 3, .inr (.inl (fun _ => 0)))), (q_17, .inl (cA 1, 10, .inr (.inl (fun _ => 0))))] H := hP
  have hD : va_D A [(h0, .inr (3, [.null, .ref q_1, .ref q_16, .ref q_17, .null, .null, .int 0, .int 0, .int 0, .int 0])), (q_1, .inr (2, [.int 0, .ref q0_2, .ref q1_3, .ref q2_4, .ref q3_5, .int 0, .ref q4_6, .int 0, .int 0, .ref q5_7, .ref q6_8, .int 0, .ref q7_9, .ref q8_10, .ref q9_11, .int 8, .int 0, .ref q10_12])), (q0_2, .inl (cA 1, 3, .inr (.inl (fun _ => 0)))), (q1_3, .inl (cA 0, 3, .inl (fun _ => 0))), (q2_4, .inl (cA 0, 3, .inl (fun _ => 0))), (q3_5, .inl (cA 0, 48, .inl (fun _ => 0))), (q4_6, .inl (cA 0, 30, .inl (fun _ => 0))), (q5_7, .inl (cA 0, 30, .inl (fun _ => 0))), (q6_8, .inl (cA 0, 3, .inl (fun _ => 0))), (q7_9, .inl (cA 0, 5, .inl (fun _ => 0))), (q8_10, .inl (cA 0, 5, .inl (fun _ => 0))), (q9_11, .inl (cA 0, 4, .inl sf_13)), (q10_12, .inl (cA 0, 12, .inl (fun _ => 0))), (q_16, .inl (cA 1, 3, .inr (.inl (fun _ => 0)))), (q_17, .inl (cA 1, 10, .inr (.inl (fun _ => 0))))] := hD
  refine lv_aload_n hx hb dX3_init_30 rfl (lv_at hl 0 rfl) ?_
  refine lv_iconst (v := 3) hx hb dX3_init_31 (by decide) ?_
  refine z_newa (cA := cA) (atype := .long) (ty := .long) (N' := 3) (a0 := (3, .inr (.inl (fun _ => 0)))) hx hb (hts _ tw_341) rfl 1 rfl (fun _ h9 => by cases h9) hK hP hD hS hA (fun _ => rfl) (by decide +kernel) (by decide +kernel) (Nat.le_of_ble_eq_true rfl) (Nat.le_of_ble_eq_true rfl) (Nat.le_of_ble_eq_true rfl) dX3_init_32 (fun q_18 H hP hD hS => ?_)
  have hP : va_P G vwCl [(h0, .inr (3, [.null, .ref q_1, .ref q_16, .ref q_17, .null, .null, .int 0, .int 0, .int 0, .int 0])), (q_1, .inr (2, [.int 0, .ref q0_2, .ref q1_3, .ref q2_4, .ref q3_5, .int 0, .ref q4_6, .int 0, .int 0, .ref q5_7, .ref q6_8, .int 0, .ref q7_9, .ref q8_10, .ref q9_11, .int 8, .int 0, .ref q10_12])), (q0_2, .inl (cA 1, 3, .inr (.inl (fun _ => 0)))), (q1_3, .inl (cA 0, 3, .inl (fun _ => 0))), (q2_4, .inl (cA 0, 3, .inl (fun _ => 0))), (q3_5, .inl (cA 0, 48, .inl (fun _ => 0))), (q4_6, .inl (cA 0, 30, .inl (fun _ => 0))), (q5_7, .inl (cA 0, 30, .inl (fun _ => 0))), (q6_8, .inl (cA 0, 3, .inl (fun _ => 0))), (q7_9, .inl (cA 0, 5, .inl (fun _ => 0))), (q8_10, .inl (cA 0, 5, .inl (fun _ => 0))), (q9_11, .inl (cA 0, 4, .inl sf_13)), (q10_12, .inl (cA 0, 12, .inl (fun _ => 0))), (q_16, .inl (cA 1, 3, .inr (.inl (fun _ => 0)))), (q_17, .inl (cA 1, 10, .inr (.inl (fun _ => 0)))), (q_18, .inl (cA 1, 3, .inr (.inl (fun _ => 0))))] H := hP
  have hD : va_D A [(h0, .inr (3, [.null, .ref q_1, .ref q_16, .ref q_17, .null, .null, .int 0, .int 0, .int 0, .int 0])), (q_1, .inr (2, [.int 0, .ref q0_2, .ref q1_3, .ref q2_4, .ref q3_5, .int 0, .ref q4_6, .int 0, .int 0, .ref q5_7, .ref q6_8, .int 0, .ref q7_9, .ref q8_10, .ref q9_11, .int 8, .int 0, .ref q10_12])), (q0_2, .inl (cA 1, 3, .inr (.inl (fun _ => 0)))), (q1_3, .inl (cA 0, 3, .inl (fun _ => 0))), (q2_4, .inl (cA 0, 3, .inl (fun _ => 0))), (q3_5, .inl (cA 0, 48, .inl (fun _ => 0))), (q4_6, .inl (cA 0, 30, .inl (fun _ => 0))), (q5_7, .inl (cA 0, 30, .inl (fun _ => 0))), (q6_8, .inl (cA 0, 3, .inl (fun _ => 0))), (q7_9, .inl (cA 0, 5, .inl (fun _ => 0))), (q8_10, .inl (cA 0, 5, .inl (fun _ => 0))), (q9_11, .inl (cA 0, 4, .inl sf_13)), (q10_12, .inl (cA 0, 12, .inl (fun _ => 0))), (q_16, .inl (cA 1, 3, .inr (.inl (fun _ => 0)))), (q_17, .inl (cA 1, 10, .inr (.inl (fun _ => 0)))), (q_18, .inl (cA 1, 3, .inr (.inl (fun _ => 0))))] := hD
  refine va_putF (D := G) (ci := 3) (v := .ref q_18) (ty := (.array .long)) (C := RX3) (T := TX3) (N := 10) hx hb hts inT3 tyX3 tyX3_ok nmX3 hown hK hP hD hS 0 rfl rfl 4 (by decide) (hts _ tw_421) (fun _ h9 => h9) rfl hin rfl (tyX3_ok 4 (by decide)) rfl rfl (Nat.le_of_ble_eq_true rfl) dX3_init_34 (fun H locs hP hD hS => ?_)
  have hP : va_P G vwCl [(h0, .inr (3, [.null, .ref q_1, .ref q_16, .ref q_17, .ref q_18, .null, .int 0, .int 0, .int 0, .int 0])), (q_1, .inr (2, [.int 0, .ref q0_2, .ref q1_3, .ref q2_4, .ref q3_5, .int 0, .ref q4_6, .int 0, .int 0, .ref q5_7, .ref q6_8, .int 0, .ref q7_9, .ref q8_10, .ref q9_11, .int 8, .int 0, .ref q10_12])), (q0_2, .inl (cA 1, 3, .inr (.inl (fun _ => 0)))), (q1_3, .inl (cA 0, 3, .inl (fun _ => 0))), (q2_4, .inl (cA 0, 3, .inl (fun _ => 0))), (q3_5, .inl (cA 0, 48, .inl (fun _ => 0))), (q4_6, .inl (cA 0, 30, .inl (fun _ => 0))), (q5_7, .inl (cA 0, 30, .inl (fun _ => 0))), (q6_8, .inl (cA 0, 3, .inl (fun _ => 0))), (q7_9, .inl (cA 0, 5, .inl (fun _ => 0))), (q8_10, .inl (cA 0, 5, .inl (fun _ => 0))), (q9_11, .inl (cA 0, 4, .inl sf_13)), (q10_12, .inl (cA 0, 12, .inl (fun _ => 0))), (q_16, .inl (cA 1, 3, .inr (.inl (fun _ => 0)))), (q_17, .inl (cA 1, 10, .inr (.inl (fun _ => 0)))), (q_18, .inl (cA 1, 3, .inr (.inl (fun _ => 0))))] H := hP
  have hD : va_D A [(h0, .inr (3, [.null, .ref q_1, .ref q_16, .ref q_17, .ref q_18, .null, .int 0, .int 0, .int 0, .int 0])), (q_1, .inr (2, [.int 0, .ref q0_2, .ref q1_3, .ref q2_4, .ref q3_5, .int 0, .ref q4_6, .int 0, .int 0, .ref q5_7, .ref q6_8, .int 0, .ref q7_9, .ref q8_10, .ref q9_11, .int 8, .int 0, .ref q10_12])), (q0_2, .inl (cA 1, 3, .inr (.inl (fun _ => 0)))), (q1_3, .inl (cA 0, 3, .inl (fun _ => 0))), (q2_4, .inl (cA 0, 3, .inl (fun _ => 0))), (q3_5, .inl (cA 0, 48, .inl (fun _ => 0))), (q4_6, .inl (cA 0, 30, .inl (fun _ => 0))), (q5_7, .inl (cA 0, 30, .inl (fun _ => 0))), (q6_8, .inl (cA 0, 3, .inl (fun _ => 0))), (q7_9, .inl (cA 0, 5, .inl (fun _ => 0))), (q8_10, .inl (cA 0, 5, .inl (fun _ => 0))), (q9_11, .inl (cA 0, 4, .inl sf_13)), (q10_12, .inl (cA 0, 12, .inl (fun _ => 0))), (q_16, .inl (cA 1, 3, .inr (.inl (fun _ => 0)))), (q_17, .inl (cA 1, 10, .inr (.inl (fun _ => 0)))), (q_18, .inl (cA 1, 3, .inr (.inl (fun _ => 0))))] := hD
  refine lv_aload_n hx hb dX3_init_37 rfl (lv_at hl 0 rfl) ?_
  refine lv_iconst (v := 5) hx hb dX3_init_38 (by decide) ?_
  refine z_newa (cA := cA) (atype := .long) (ty := .long) (N' := 5) (a0 := (5, .inr (.inl (fun _ => 0)))) hx hb (hts _ tw_341) rfl 1 rfl (fun _ h9 => by cases h9) hK hP hD hS hA (fun _ => rfl) (by decide +kernel) (by decide +kernel) (Nat.le_of_ble_eq_true rfl) (Nat.le_of_ble_eq_true rfl) (Nat.le_of_ble_eq_true rfl) dX3_init_39 (fun q_19 H hP hD hS => ?_)
  have hP : va_P G vwCl [(h0, .inr (3, [.null, .ref q_1, .ref q_16, .ref q_17, .ref q_18, .null, .int 0, .int 0, .int 0, .int 0])), (q_1, .inr (2, [.int 0, .ref q0_2, .ref q1_3, .ref q2_4, .ref q3_5, .int 0, .ref q4_6, .int 0, .int 0, .ref q5_7, .ref q6_8, .int 0, .ref q7_9, .ref q8_10, .ref q9_11, .int 8, .int 0, .ref q10_12])), (q0_2, .inl (cA 1, 3, .inr (.inl (fun _ => 0)))), (q1_3, .inl (cA 0, 3, .inl (fun _ => 0))), (q2_4, .inl (cA 0, 3, .inl (fun _ => 0))), (q3_5, .inl (cA 0, 48, .inl (fun _ => 0))), (q4_6, .inl (cA 0, 30, .inl (fun _ => 0))), (q5_7, .inl (cA 0, 30, .inl (fun _ => 0))), (q6_8, .inl (cA 0, 3, .inl (fun _ => 0))), (q7_9, .inl (cA 0, 5, .inl (fun _ => 0))), (q8_10, .inl (cA 0, 5, .inl (fun _ => 0))), (q9_11, .inl (cA 0, 4, .inl sf_13)), (q10_12, .inl (cA 0, 12, .inl (fun _ => 0))), (q_16, .inl (cA 1, 3, .inr (.inl (fun _ => 0)))), (q_17, .inl (cA 1, 10, .inr (.inl (fun _ => 0)))), (q_18, .inl (cA 1, 3, .inr (.inl (fun _ => 0)))), (q_19, .inl (cA 1, 5, .inr (.inl (fun _ => 0))))] H := hP
  have hD : va_D A [(h0, .inr (3, [.null, .ref q_1, .ref q_16, .ref q_17, .ref q_18, .null, .int 0, .int 0, .int 0, .int 0])), (q_1, .inr (2, [.int 0, .ref q0_2, .ref q1_3, .ref q2_4, .ref q3_5, .int 0, .ref q4_6, .int 0, .int 0, .ref q5_7, .ref q6_8, .int 0, .ref q7_9, .ref q8_10, .ref q9_11, .int 8, .int 0, .ref q10_12])), (q0_2, .inl (cA 1, 3, .inr (.inl (fun _ => 0)))), (q1_3, .inl (cA 0, 3, .inl (fun _ => 0))), (q2_4, .inl (cA 0, 3, .inl (fun _ => 0))), (q3_5, .inl (cA 0, 48, .inl (fun _ => 0))), (q4_6, .inl (cA 0, 30, .inl (fun _ => 0))), (q5_7, .inl (cA 0, 30, .inl (fun _ => 0))), (q6_8, .inl (cA 0, 3, .inl (fun _ => 0))), (q7_9, .inl (cA 0, 5, .inl (fun _ => 0))), (q8_10, .inl (cA 0, 5, .inl (fun _ => 0))), (q9_11, .inl (cA 0, 4, .inl sf_13)), (q10_12, .inl (cA 0, 12, .inl (fun _ => 0))), (q_16, .inl (cA 1, 3, .inr (.inl (fun _ => 0)))), (q_17, .inl (cA 1, 10, .inr (.inl (fun _ => 0)))), (q_18, .inl (cA 1, 3, .inr (.inl (fun _ => 0)))), (q_19, .inl (cA 1, 5, .inr (.inl (fun _ => 0))))] := hD
  refine va_putF (D := G) (ci := 3) (v := .ref q_19) (ty := (.array .long)) (C := RX3) (T := TX3) (N := 10) hx hb hts inT3 tyX3 tyX3_ok nmX3 hown hK hP hD hS 0 rfl rfl 5 (by decide) (hts _ tw_422) (fun _ h9 => h9) rfl hin rfl (tyX3_ok 5 (by decide)) rfl rfl (Nat.le_of_ble_eq_true rfl) dX3_init_41 (fun H locs hP hD hS => ?_)
  have hP : va_P G vwCl [(h0, .inr (3, [.null, .ref q_1, .ref q_16, .ref q_17, .ref q_18, .ref q_19, .int 0, .int 0, .int 0, .int 0])), (q_1, .inr (2, [.int 0, .ref q0_2, .ref q1_3, .ref q2_4, .ref q3_5, .int 0, .ref q4_6, .int 0, .int 0, .ref q5_7, .ref q6_8, .int 0, .ref q7_9, .ref q8_10, .ref q9_11, .int 8, .int 0, .ref q10_12])), (q0_2, .inl (cA 1, 3, .inr (.inl (fun _ => 0)))), (q1_3, .inl (cA 0, 3, .inl (fun _ => 0))), (q2_4, .inl (cA 0, 3, .inl (fun _ => 0))), (q3_5, .inl (cA 0, 48, .inl (fun _ => 0))), (q4_6, .inl (cA 0, 30, .inl (fun _ => 0))), (q5_7, .inl (cA 0, 30, .inl (fun _ => 0))), (q6_8, .inl (cA 0, 3, .inl (fun _ => 0))), (q7_9, .inl (cA 0, 5, .inl (fun _ => 0))), (q8_10, .inl (cA 0, 5, .inl (fun _ => 0))), (q9_11, .inl (cA 0, 4, .inl sf_13)), (q10_12, .inl (cA 0, 12, .inl (fun _ => 0))), (q_16, .inl (cA 1, 3, .inr (.inl (fun _ => 0)))), (q_17, .inl (cA 1, 10, .inr (.inl (fun _ => 0)))), (q_18, .inl (cA 1, 3, .inr (.inl (fun _ => 0)))), (q_19, .inl (cA 1, 5, .inr (.inl (fun _ => 0))))] H := hP
  have hD : va_D A [(h0, .inr (3, [.null, .ref q_1, .ref q_16, .ref q_17, .ref q_18, .ref q_19, .int 0, .int 0, .int 0, .int 0])), (q_1, .inr (2, [.int 0, .ref q0_2, .ref q1_3, .ref q2_4, .ref q3_5, .int 0, .ref q4_6, .int 0, .int 0, .ref q5_7, .ref q6_8, .int 0, .ref q7_9, .ref q8_10, .ref q9_11, .int 8, .int 0, .ref q10_12])), (q0_2, .inl (cA 1, 3, .inr (.inl (fun _ => 0)))), (q1_3, .inl (cA 0, 3, .inl (fun _ => 0))), (q2_4, .inl (cA 0, 3, .inl (fun _ => 0))), (q3_5, .inl (cA 0, 48, .inl (fun _ => 0))), (q4_6, .inl (cA 0, 30, .inl (fun _ => 0))), (q5_7, .inl (cA 0, 30, .inl (fun _ => 0))), (q6_8, .inl (cA 0, 3, .inl (fun _ => 0))), (q7_9, .inl (cA 0, 5, .inl (fun _ => 0))), (q8_10, .inl (cA 0, 5, .inl (fun _ => 0))), (q9_11, .inl (cA 0, 4, .inl sf_13)), (q10_12, .inl (cA 0, 12, .inl (fun _ => 0))), (q_16, .inl (cA 1, 3, .inr (.inl (fun _ => 0)))), (q_17, .inl (cA 1, 10, .inr (.inl (fun _ => 0)))), (q_18, .inl (cA 1, 3, .inr (.inl (fun _ => 0)))), (q_19, .inl (cA 1, 5, .inr (.inl (fun _ => 0))))] := hD
  refine lv_aload_n hx hb dX3_init_44 rfl (lv_at hl 0 rfl) ?_
  refine lv_aload_n hx hb dX3_init_45 rfl (lv_at hl 1 rfl) ?_
  refine va_putF (D := G) (ci := 3) (v := .ref h1) (ty := (.object "DarkRing$Text")) (C := RX3) (T := TX3) (N := 10) hx hb hts inT3 tyX3 tyX3_ok nmX3 hown hK hP hD hS 0 rfl rfl 0 (by decide) (hts _ tw_416) (fun _ h9 => h9) rfl hin rfl (tyX3_ok 0 (by decide)) rfl rfl (Nat.le_of_ble_eq_true rfl) dX3_init_46 (fun H locs hP hD hS => ?_)
  have hP : va_P G vwCl [(h0, .inr (3, [.ref h1, .ref q_1, .ref q_16, .ref q_17, .ref q_18, .ref q_19, .int 0, .int 0, .int 0, .int 0])), (q_1, .inr (2, [.int 0, .ref q0_2, .ref q1_3, .ref q2_4, .ref q3_5, .int 0, .ref q4_6, .int 0, .int 0, .ref q5_7, .ref q6_8, .int 0, .ref q7_9, .ref q8_10, .ref q9_11, .int 8, .int 0, .ref q10_12])), (q0_2, .inl (cA 1, 3, .inr (.inl (fun _ => 0)))), (q1_3, .inl (cA 0, 3, .inl (fun _ => 0))), (q2_4, .inl (cA 0, 3, .inl (fun _ => 0))), (q3_5, .inl (cA 0, 48, .inl (fun _ => 0))), (q4_6, .inl (cA 0, 30, .inl (fun _ => 0))), (q5_7, .inl (cA 0, 30, .inl (fun _ => 0))), (q6_8, .inl (cA 0, 3, .inl (fun _ => 0))), (q7_9, .inl (cA 0, 5, .inl (fun _ => 0))), (q8_10, .inl (cA 0, 5, .inl (fun _ => 0))), (q9_11, .inl (cA 0, 4, .inl sf_13)), (q10_12, .inl (cA 0, 12, .inl (fun _ => 0))), (q_16, .inl (cA 1, 3, .inr (.inl (fun _ => 0)))), (q_17, .inl (cA 1, 10, .inr (.inl (fun _ => 0)))), (q_18, .inl (cA 1, 3, .inr (.inl (fun _ => 0)))), (q_19, .inl (cA 1, 5, .inr (.inl (fun _ => 0))))] H := hP
  have hD : va_D A [(h0, .inr (3, [.ref h1, .ref q_1, .ref q_16, .ref q_17, .ref q_18, .ref q_19, .int 0, .int 0, .int 0, .int 0])), (q_1, .inr (2, [.int 0, .ref q0_2, .ref q1_3, .ref q2_4, .ref q3_5, .int 0, .ref q4_6, .int 0, .int 0, .ref q5_7, .ref q6_8, .int 0, .ref q7_9, .ref q8_10, .ref q9_11, .int 8, .int 0, .ref q10_12])), (q0_2, .inl (cA 1, 3, .inr (.inl (fun _ => 0)))), (q1_3, .inl (cA 0, 3, .inl (fun _ => 0))), (q2_4, .inl (cA 0, 3, .inl (fun _ => 0))), (q3_5, .inl (cA 0, 48, .inl (fun _ => 0))), (q4_6, .inl (cA 0, 30, .inl (fun _ => 0))), (q5_7, .inl (cA 0, 30, .inl (fun _ => 0))), (q6_8, .inl (cA 0, 3, .inl (fun _ => 0))), (q7_9, .inl (cA 0, 5, .inl (fun _ => 0))), (q8_10, .inl (cA 0, 5, .inl (fun _ => 0))), (q9_11, .inl (cA 0, 4, .inl sf_13)), (q10_12, .inl (cA 0, 12, .inl (fun _ => 0))), (q_16, .inl (cA 1, 3, .inr (.inl (fun _ => 0)))), (q_17, .inl (cA 1, 10, .inr (.inl (fun _ => 0)))), (q_18, .inl (cA 1, 3, .inr (.inl (fun _ => 0)))), (q_19, .inl (cA 1, 5, .inr (.inl (fun _ => 0))))] := hD
  refine W.widen (k := 16) (n := 185) (Nat.le_of_ble_eq_true rfl) (Nat.le_of_ble_eq_true rfl) ?_
  exact z_retv hx hb hr hlocks hP hD hS (q_1, q0_2, q1_3, q2_4, q3_5, q4_6, q5_7, q6_8, q7_9, q8_10, q9_11, q10_12, sf_13, q_16, q_17, q_18, q_19) [0, 1, 2, 3, 4, 5, 6, 7, 8, 9, 10, 11, 12] rfl (by decide) dX3_init_49 trivial
set_option maxHeartbeats 4000000 in
set_option maxRecDepth 100000 in
theorem c_RR_init (l : Launch) (G : va_G) (cA : Nat → ClassId) (h0 : Nat) (h1 : Nat) (h2 : Nat) : zCv l yX6_init cX6_init 3 none ({ frames := 2, cells := 7, slots := 311, locals := 40 }) G cA [.ref h0, .ref h1, .ref h2] [(h0, .inr (6, [.null, .null, .null, .null, .int 0]))] (S := Nat × Nat × Nat × Nat × Nat × Nat × Nat) (fun (u : Nat × Nat × Nat × Nat × Nat × Nat × Nat) => True) (fun (u : Nat × Nat × Nat × Nat × Nat × Nat × Nat) => [(h0, .inr (6, [.ref h1, .ref h2, .ref u.1, .ref u.2.2.2.2.2.2, .int 0])), (u.1, .inr (5, [.int 0, .int 0, .int 0, .ref u.2.1, .ref u.2.2.1, .ref u.2.2.2.1, .ref u.2.2.2.2.1, .ref u.2.2.2.2.2.1])), (u.2.1, .inl (cA 0, 60, .inl (fun _ => 0))), (u.2.2.1, .inl (cA 0, 60, .inl (fun _ => 0))), (u.2.2.2.1, .inl (cA 0, 60, .inl (fun _ => 0))), (u.2.2.2.2.1, .inl (cA 0, 60, .inl (fun _ => 0))), (u.2.2.2.2.2.1, .inl (cA 0, 60, .inl (fun _ => 0)))]) 7 311 := by
  refine z_startv (own := RX6) (by decide) (Nat.le_of_ble_eq_true rfl) rfl ?_
  intro p e s m below meth c A ls hx hb hr hlocks hml hts hown hin hK hE hP hD hS hA hl
  have hl : lv_has ls 3 [(0, .ref h0), (1, .ref h1), (2, .ref h2)] := hl
  refine lv_aload_n hx hb dX6_init_0 rfl (lv_at hl 0 rfl) ?_
  refine W.objInit hx hb hown (hts _ tw_453) (hts _ tw_195) (hts _ tw_196) rfl (by rw [hml]; exact hl.1) rfl dX6_init_1 (Nat.le_of_ble_eq_true rfl) (Nat.le_of_ble_eq_true rfl) ?_
  refine W.eq (g2 := F0 m 4 ls []) rfl ?_
  refine lv_aload_n hx hb dX6_init_4 rfl (lv_at hl 0 rfl) ?_
  refine va_new (ci := 5) (fs := [.int 0, .int 0, .int 0, .null, .null, .null, .null, .null]) (C := RX5) (T := TX5) (N := 8) hx hb hts inT5 tyX5 tyX5_ok hown (hts _ tw_454) (hts _ tw_373) (hts _ tw_172) hK hP hD hS hA rfl (by decide +kernel) (Nat.le_of_ble_eq_true rfl) (Nat.le_of_ble_eq_true rfl) dX6_init_5 (fun q_1 H hP hD hS => ?_)
  have hP : va_P G vwCl [(h0, .inr (6, [.null, .null, .null, .null, .int 0])), (q_1, .inr (5, [.int 0, .int 0, .int 0, .null, .null, .null, .null, .null]))] H := hP
  have hD : va_D A [(h0, .inr (6, [.null, .null, .null, .null, .int 0])), (q_1, .inr (5, [.int 0, .int 0, .int 0, .null, .null, .null, .null, .null]))] := hD
  refine lv_dup hx hb dX6_init_8 rfl ?_
  refine z_callINv (As := []) (rest := [.ref q_1, .ref h0]) (wr := [(h0, .inr (6, [.null, .null, .null, .null, .int 0]))]) ⟨hx, hb, hml, hown, hts⟩ hK hE hP hD hS hA (c_R_init l G cA q_1) lk_RX6_11 ⟨rfl, rfl⟩ ⟨Nat.le_of_ble_eq_true rfl, Nat.le_of_ble_eq_true rfl⟩ [1] [0] rfl rfl (by decide) rfl hl.1 rfl (lv_room (Nat.le_of_ble_eq_true rfl)) dX6_init_9 ⟨Nat.le_of_ble_eq_true rfl, Nat.le_of_ble_eq_true rfl⟩ (fun u_8 H locs hw hP hD hS => ?_)
  obtain ⟨q0_2, q1_3, q2_4, q3_5, q4_6⟩ := u_8
  have hP : va_P G vwCl [(h0, .inr (6, [.null, .null, .null, .null, .int 0])), (q_1, .inr (5, [.int 0, .int 0, .int 0, .ref q0_2, .ref q1_3, .ref q2_4, .ref q3_5, .ref q4_6])), (q0_2, .inl (cA 0, 60, .inl (fun _ => 0))), (q1_3, .inl (cA 0, 60, .inl (fun _ => 0))), (q2_4, .inl (cA 0, 60, .inl (fun _ => 0))), (q3_5, .inl (cA 0, 60, .inl (fun _ => 0))), (q4_6, .inl (cA 0, 60, .inl (fun _ => 0)))] H := hP
  have hD : va_D A [(h0, .inr (6, [.null, .null, .null, .null, .int 0])), (q_1, .inr (5, [.int 0, .int 0, .int 0, .ref q0_2, .ref q1_3, .ref q2_4, .ref q3_5, .ref q4_6])), (q0_2, .inl (cA 0, 60, .inl (fun _ => 0))), (q1_3, .inl (cA 0, 60, .inl (fun _ => 0))), (q2_4, .inl (cA 0, 60, .inl (fun _ => 0))), (q3_5, .inl (cA 0, 60, .inl (fun _ => 0))), (q4_6, .inl (cA 0, 60, .inl (fun _ => 0)))] := hD
  refine va_putF (D := G) (ci := 6) (v := .ref q_1) (ty := (.object "DarkRing$Rule")) (C := RX6) (T := TX6) (N := 5) hx hb hts inT6 tyX6 tyX6_ok nmX6 hown hK hP hD hS 0 rfl rfl 2 (by decide) (hts _ tw_458) (fun _ h9 => h9) rfl hin rfl (tyX6_ok 2 (by decide)) rfl rfl (Nat.le_of_ble_eq_true rfl) dX6_init_12 (fun H locs hP hD hS => ?_)
  have hP : va_P G vwCl [(h0, .inr (6, [.null, .null, .ref q_1, .null, .int 0])), (q_1, .inr (5, [.int 0, .int 0, .int 0, .ref q0_2, .ref q1_3, .ref q2_4, .ref q3_5, .ref q4_6])), (q0_2, .inl (cA 0, 60, .inl (fun _ => 0))), (q1_3, .inl (cA 0, 60, .inl (fun _ => 0))), (q2_4, .inl (cA 0, 60, .inl (fun _ => 0))), (q3_5, .inl (cA 0, 60, .inl (fun _ => 0))), (q4_6, .inl (cA 0, 60, .inl (fun _ => 0)))] H := hP
  have hD : va_D A [(h0, .inr (6, [.null, .null, .ref q_1, .null, .int 0])), (q_1, .inr (5, [.int 0, .int 0, .int 0, .ref q0_2, .ref q1_3, .ref q2_4, .ref q3_5, .ref q4_6])), (q0_2, .inl (cA 0, 60, .inl (fun _ => 0))), (q1_3, .inl (cA 0, 60, .inl (fun _ => 0))), (q2_4, .inl (cA 0, 60, .inl (fun _ => 0))), (q3_5, .inl (cA 0, 60, .inl (fun _ => 0))), (q4_6, .inl (cA 0, 60, .inl (fun _ => 0)))] := hD
  refine lv_aload_n hx hb dX6_init_15 rfl (lv_at hl 0 rfl) ?_
  refine lv_iconst (v := 3) hx hb dX6_init_16 (by decide) ?_
  refine z_newa (cA := cA) (atype := .int) (ty := .int) (N' := 3) (a0 := (3, .inl (fun _ => 0))) hx hb (hts _ tw_342) rfl 0 rfl (fun _ h9 => by cases h9) hK hP hD hS hA (fun _ => rfl) (by decide +kernel) (by decide +kernel) (Nat.le_of_ble_eq_true rfl) (Nat.le_of_ble_eq_true rfl) (Nat.le_of_ble_eq_true rfl) dX6_init_17 (fun q_9 H hP hD hS => ?_)
  have hP : va_P G vwCl [(h0, .inr (6, [.null, .null, .ref q_1, .null, .int 0])), (q_1, .inr (5, [.int 0, .int 0, .int 0, .ref q0_2, .ref q1_3, .ref q2_4, .ref q3_5, .ref q4_6])), (q0_2, .inl (cA 0, 60, .inl (fun _ => 0))), (q1_3, .inl (cA 0, 60, .inl (fun _ => 0))), (q2_4, .inl (cA 0, 60, .inl (fun _ => 0))), (q3_5, .inl (cA 0, 60, .inl (fun _ => 0))), (q4_6, .inl (cA 0, 60, .inl (fun _ => 0))), (q_9, .inl (cA 0, 3, .inl (fun _ => 0)))] H := hP
  have hD : va_D A [(h0, .inr (6, [.null, .null, .ref q_1, .null, .int 0])), (q_1, .inr (5, [.int 0, .int 0, .int 0, .ref q0_2, .ref q1_3, .ref q2_4, .ref q3_5, .ref q4_6])), (q0_2, .inl (cA 0, 60, .inl (fun _ => 0))), (q1_3, .inl (cA 0, 60, .inl (fun _ => 0))), (q2_4, .inl (cA 0, 60, .inl (fun _ => 0))), (q3_5, .inl (cA 0, 60, .inl (fun _ => 0))), (q4_6, .inl (cA 0, 60, .inl (fun _ => 0))), (q_9, .inl (cA 0, 3, .inl (fun _ => 0)))] := hD
  refine va_putF (D := G) (ci := 6) (v := .ref q_9) (ty := (.array .int)) (C := RX6) (T := TX6) (N := 5) hx hb hts inT6 tyX6 tyX6_ok nmX6 hown hK hP hD hS 0 rfl rfl 3 (by decide) (hts _ tw_460) (fun _ h9 => h9) rfl hin rfl (tyX6_ok 3 (by decide)) rfl rfl (Nat.le_of_ble_eq_true rfl) dX6_init_19 (fun H locs hP hD hS => ?_)
  have hP : va_P G vwCl [(h0, .inr (6, [.null, .null, .ref q_1, .ref q_9, .int 0])), (q_1, .inr (5, [.int 0, .int 0, .int 0, .ref q0_2, .ref q1_3, .ref q2_4, .ref q3_5, .ref q4_6])), (q0_2, .inl (cA 0, 60, .inl (fun _ => 0))), (q1_3, .inl (cA 0, 60, .inl (fun _ => 0))), (q2_4, .inl (cA 0, 60, .inl (fun _ => 0))), (q3_5, .inl (cA 0, 60, .inl (fun _ => 0))), (q4_6, .inl (cA 0, 60, .inl (fun _ => 0))), (q_9, .inl (cA 0, 3, .inl (fun _ => 0)))] H := hP
  have hD : va_D A [(h0, .inr (6, [.null, .null, .ref q_1, .ref q_9, .int 0])), (q_1, .inr (5, [.int 0, .int 0, .int 0, .ref q0_2, .ref q1_3, .ref q2_4, .ref q3_5, .ref q4_6])), (q0_2, .inl (cA 0, 60, .inl (fun _ => 0))), (q1_3, .inl (cA 0, 60, .inl (fun _ => 0))), (q2_4, .inl (cA 0, 60, .inl (fun _ => 0))), (q3_5, .inl (cA 0, 60, .inl (fun _ => 0))), (q4_6, .inl (cA 0, 60, .inl (fun _ => 0))), (q_9, .inl (cA 0, 3, .inl (fun _ => 0)))] := hD
  refine lv_aload_n hx hb dX6_init_22 rfl (lv_at hl 0 rfl) ?_
  refine lv_aload_n hx hb dX6_init_23 rfl (lv_at hl 1 rfl) ?_
  refine va_putF (D := G) (ci := 6) (v := .ref h1) (ty := (.object "DarkRing$Text")) (C := RX6) (T := TX6) (N := 5) hx hb hts inT6 tyX6 tyX6_ok nmX6 hown hK hP hD hS 0 rfl rfl 0 (by decide) (hts _ tw_456) (fun _ h9 => h9) rfl hin rfl (tyX6_ok 0 (by decide)) rfl rfl (Nat.le_of_ble_eq_true rfl) dX6_init_24 (fun H locs hP hD hS => ?_)
  have hP : va_P G vwCl [(h0, .inr (6, [.ref h1, .null, .ref q_1, .ref q_9, .int 0])), (q_1, .inr (5, [.int 0, .int 0, .int 0, .ref q0_2, .ref q1_3, .ref q2_4, .ref q3_5, .ref q4_6])), (q0_2, .inl (cA 0, 60, .inl (fun _ => 0))), (q1_3, .inl (cA 0, 60, .inl (fun _ => 0))), (q2_4, .inl (cA 0, 60, .inl (fun _ => 0))), (q3_5, .inl (cA 0, 60, .inl (fun _ => 0))), (q4_6, .inl (cA 0, 60, .inl (fun _ => 0))), (q_9, .inl (cA 0, 3, .inl (fun _ => 0)))] H := hP
  have hD : va_D A [(h0, .inr (6, [.ref h1, .null, .ref q_1, .ref q_9, .int 0])), (q_1, .inr (5, [.int 0, .int 0, .int 0, .ref q0_2, .ref q1_3, .ref q2_4, .ref q3_5, .ref q4_6])), (q0_2, .inl (cA 0, 60, .inl (fun _ => 0))), (q1_3, .inl (cA 0, 60, .inl (fun _ => 0))), (q2_4, .inl (cA 0, 60, .inl (fun _ => 0))), (q3_5, .inl (cA 0, 60, .inl (fun _ => 0))), (q4_6, .inl (cA 0, 60, .inl (fun _ => 0))), (q_9, .inl (cA 0, 3, .inl (fun _ => 0)))] := hD
  refine lv_aload_n hx hb dX6_init_27 rfl (lv_at hl 0 rfl) ?_
  refine lv_aload_n hx hb dX6_init_28 rfl (lv_at hl 2 rfl) ?_
  refine va_putF (D := G) (ci := 6) (v := .ref h2) (ty := (.object "DarkRing$House")) (C := RX6) (T := TX6) (N := 5) hx hb hts inT6 tyX6 tyX6_ok nmX6 hown hK hP hD hS 0 rfl rfl 1 (by decide) (hts _ tw_457) (fun _ h9 => h9) rfl hin rfl (tyX6_ok 1 (by decide)) rfl rfl (Nat.le_of_ble_eq_true rfl) dX6_init_29 (fun H locs hP hD hS => ?_)
  have hP : va_P G vwCl [(h0, .inr (6, [.ref h1, .ref h2, .ref q_1, .ref q_9, .int 0])), (q_1, .inr (5, [.int 0, .int 0, .int 0, .ref q0_2, .ref q1_3, .ref q2_4, .ref q3_5, .ref q4_6])), (q0_2, .inl (cA 0, 60, .inl (fun _ => 0))), (q1_3, .inl (cA 0, 60, .inl (fun _ => 0))), (q2_4, .inl (cA 0, 60, .inl (fun _ => 0))), (q3_5, .inl (cA 0, 60, .inl (fun _ => 0))), (q4_6, .inl (cA 0, 60, .inl (fun _ => 0))), (q_9, .inl (cA 0, 3, .inl (fun _ => 0)))] H := hP
  have hD : va_D A [(h0, .inr (6, [.ref h1, .ref h2, .ref q_1, .ref q_9, .int 0])), (q_1, .inr (5, [.int 0, .int 0, .int 0, .ref q0_2, .ref q1_3, .ref q2_4, .ref q3_5, .ref q4_6])), (q0_2, .inl (cA 0, 60, .inl (fun _ => 0))), (q1_3, .inl (cA 0, 60, .inl (fun _ => 0))), (q2_4, .inl (cA 0, 60, .inl (fun _ => 0))), (q3_5, .inl (cA 0, 60, .inl (fun _ => 0))), (q4_6, .inl (cA 0, 60, .inl (fun _ => 0))), (q_9, .inl (cA 0, 3, .inl (fun _ => 0)))] := hD
  refine W.widen (k := 7) (n := 311) (Nat.le_of_ble_eq_true rfl) (Nat.le_of_ble_eq_true rfl) ?_
  exact z_retv hx hb hr hlocks hP hD hS (q_1, q0_2, q1_3, q2_4, q3_5, q4_6, q_9) [0, 1, 2, 3, 4, 5, 6] rfl (by decide) dX6_init_32 trivial
set_option maxHeartbeats 4000000 in
set_option maxRecDepth 100000 in
theorem c_S_init (l : Launch) (G : va_G) (cA : Nat → ClassId) (h0 : Nat) (h1 : Nat) : zCv l yX7_init cX7_init 2 none ({ frames := 1, cells := 6, slots := 32, locals := 20 }) G cA [.ref h0, .ref h1] [(h0, .inr (7, [.null, .null, .int 0, .null, .int 0, .null, .null, .null, .null, .long 0, .long 0]))] (S := Nat × Nat × Nat × Nat × Nat × Nat) (fun (u : Nat × Nat × Nat × Nat × Nat × Nat) => True) (fun (u : Nat × Nat × Nat × Nat × Nat × Nat) => [(h0, .inr (7, [.ref h1, .ref u.1, .int 0, .ref u.2.1, .int 0, .ref u.2.2.1, .ref u.2.2.2.1, .ref u.2.2.2.2.1, .ref u.2.2.2.2.2, .long 0, .long 1]))]) 6 32 := by
  refine z_startv (own := RX7) (by decide) (Nat.le_of_ble_eq_true rfl) rfl ?_
  intro p e s m below meth c A ls hx hb hr hlocks hml hts hown hin hK hE hP hD hS hA hl
  have hl : lv_has ls 2 [(0, .ref h0), (1, .ref h1)] := hl
  refine lv_aload_n hx hb dX7_init_0 rfl (lv_at hl 0 rfl) ?_
  refine W.objInit hx hb hown (hts _ tw_478) (hts _ tw_195) (hts _ tw_196) rfl (by rw [hml]; exact hl.1) rfl dX7_init_1 (Nat.le_of_ble_eq_true rfl) (Nat.le_of_ble_eq_true rfl) ?_
  refine W.eq (g2 := F0 m 4 ls []) rfl ?_
  refine lv_aload_n hx hb dX7_init_4 rfl (lv_at hl 0 rfl) ?_
  refine lv_bipush (v := 10) hx hb dX7_init_5 (by decide) ?_
  refine z_newa (cA := cA) (atype := .int) (ty := .int) (N' := 10) (a0 := (10, .inl (fun _ => 0))) hx hb (hts _ tw_342) rfl 0 rfl (fun _ h9 => by cases h9) hK hP hD hS hA (fun _ => rfl) (by decide +kernel) (by decide +kernel) (Nat.le_of_ble_eq_true rfl) (Nat.le_of_ble_eq_true rfl) (Nat.le_of_ble_eq_true rfl) dX7_init_7 (fun q_1 H hP hD hS => ?_)
  have hP : va_P G vwCl [(h0, .inr (7, [.null, .null, .int 0, .null, .int 0, .null, .null, .null, .null, .long 0, .long 0])), (q_1, .inl (cA 0, 10, .inl (fun _ => 0)))] H := hP
  have hD : va_D A [(h0, .inr (7, [.null, .null, .int 0, .null, .int 0, .null, .null, .null, .null, .long 0, .long 0])), (q_1, .inl (cA 0, 10, .inl (fun _ => 0)))] := hD
  refine va_putF (D := G) (ci := 7) (v := .ref q_1) (ty := (.array .int)) (C := RX7) (T := TX7) (N := 11) hx hb hts inT7 tyX7 tyX7_ok nmX7 hown hK hP hD hS 0 rfl rfl 1 (by decide) (hts _ tw_480) (fun _ h9 => h9) rfl hin rfl (tyX7_ok 1 (by decide)) rfl rfl (Nat.le_of_ble_eq_true rfl) dX7_init_9 (fun H locs hP hD hS => ?_)
  have hP : va_P G vwCl [(h0, .inr (7, [.null, .ref q_1, .int 0, .null, .int 0, .null, .null, .null, .null, .long 0, .long 0])), (q_1, .inl (cA 0, 10, .inl (fun _ => 0)))] H := hP
  have hD : va_D A [(h0, .inr (7, [.null, .ref q_1, .int 0, .null, .int 0, .null, .null, .null, .null, .long 0, .long 0])), (q_1, .inl (cA 0, 10, .inl (fun _ => 0)))] := hD
  refine lv_aload_n hx hb dX7_init_12 rfl (lv_at hl 0 rfl) ?_
  refine lv_bipush (v := 10) hx hb dX7_init_13 (by decide) ?_
  refine z_newa (cA := cA) (atype := .int) (ty := .int) (N' := 10) (a0 := (10, .inl (fun _ => 0))) hx hb (hts _ tw_342) rfl 0 rfl (fun _ h9 => by cases h9) hK hP hD hS hA (fun _ => rfl) (by decide +kernel) (by decide +kernel) (Nat.le_of_ble_eq_true rfl) (Nat.le_of_ble_eq_true rfl) (Nat.le_of_ble_eq_true rfl) dX7_init_15 (fun q_2 H hP hD hS => ?_)
  have hP : va_P G vwCl [(h0, .inr (7, [.null, .ref q_1, .int 0, .null, .int 0, .null, .null, .null, .null, .long 0, .long 0])), (q_1, .inl (cA 0, 10, .inl (fun _ => 0))), (q_2, .inl (cA 0, 10, .inl (fun _ => 0)))] H := hP
  have hD : va_D A [(h0, .inr (7, [.null, .ref q_1, .int 0, .null, .int 0, .null, .null, .null, .null, .long 0, .long 0])), (q_1, .inl (cA 0, 10, .inl (fun _ => 0))), (q_2, .inl (cA 0, 10, .inl (fun _ => 0)))] := hD
  refine va_putF (D := G) (ci := 7) (v := .ref q_2) (ty := (.array .int)) (C := RX7) (T := TX7) (N := 11) hx hb hts inT7 tyX7 tyX7_ok nmX7 hown hK hP hD hS 0 rfl rfl 3 (by decide) (hts _ tw_483) (fun _ h9 => h9) rfl hin rfl (tyX7_ok 3 (by decide)) rfl rfl (Nat.le_of_ble_eq_true rfl) dX7_init_17 (fun H locs hP hD hS => ?_)
  have hP : va_P G vwCl [(h0, .inr (7, [.null, .ref q_1, .int 0, .ref q_2, .int 0, .null, .null, .null, .null, .long 0, .long 0])), (q_1, .inl (cA 0, 10, .inl (fun _ => 0))), (q_2, .inl (cA 0, 10, .inl (fun _ => 0)))] H := hP
  have hD : va_D A [(h0, .inr (7, [.null, .ref q_1, .int 0, .ref q_2, .int 0, .null, .null, .null, .null, .long 0, .long 0])), (q_1, .inl (cA 0, 10, .inl (fun _ => 0))), (q_2, .inl (cA 0, 10, .inl (fun _ => 0)))] := hD
  refine lv_aload_n hx hb dX7_init_20 rfl (lv_at hl 0 rfl) ?_
  refine lv_iconst (v := 0) hx hb dX7_init_21 (by decide) ?_
  refine va_put (D := G) (ci := 7) (v := .int 0) (ty := .int) (C := RX7) (T := TX7) (N := 11) hx hb hts inT7 tyX7 tyX7_ok nmX7 hown hK hP hD hS 0 rfl rfl 4 (by decide) (hts _ tw_484) (fun _ h9 => h9) rfl (tyX7_ok 4 (by decide)) rfl rfl (Nat.le_of_ble_eq_true rfl) dX7_init_22 (fun H locs hP hD hS => ?_)
  have hP : va_P G vwCl [(h0, .inr (7, [.null, .ref q_1, .int 0, .ref q_2, .int 0, .null, .null, .null, .null, .long 0, .long 0])), (q_1, .inl (cA 0, 10, .inl (fun _ => 0))), (q_2, .inl (cA 0, 10, .inl (fun _ => 0)))] H := hP
  have hD : va_D A [(h0, .inr (7, [.null, .ref q_1, .int 0, .ref q_2, .int 0, .null, .null, .null, .null, .long 0, .long 0])), (q_1, .inl (cA 0, 10, .inl (fun _ => 0))), (q_2, .inl (cA 0, 10, .inl (fun _ => 0)))] := hD
  refine lv_aload_n hx hb dX7_init_25 rfl (lv_at hl 0 rfl) ?_
  refine lv_iconst (v := 3) hx hb dX7_init_26 (by decide) ?_
  refine z_newa (cA := cA) (atype := .int) (ty := .int) (N' := 3) (a0 := (3, .inl (fun _ => 0))) hx hb (hts _ tw_342) rfl 0 rfl (fun _ h9 => by cases h9) hK hP hD hS hA (fun _ => rfl) (by decide +kernel) (by decide +kernel) (Nat.le_of_ble_eq_true rfl) (Nat.le_of_ble_eq_true rfl) (Nat.le_of_ble_eq_true rfl) dX7_init_27 (fun q_3 H hP hD hS => ?_)
  have hP : va_P G vwCl [(h0, .inr (7, [.null, .ref q_1, .int 0, .ref q_2, .int 0, .null, .null, .null, .null, .long 0, .long 0])), (q_1, .inl (cA 0, 10, .inl (fun _ => 0))), (q_2, .inl (cA 0, 10, .inl (fun _ => 0))), (q_3, .inl (cA 0, 3, .inl (fun _ => 0)))] H := hP
  have hD : va_D A [(h0, .inr (7, [.null, .ref q_1, .int 0, .ref q_2, .int 0, .null, .null, .null, .null, .long 0, .long 0])), (q_1, .inl (cA 0, 10, .inl (fun _ => 0))), (q_2, .inl (cA 0, 10, .inl (fun _ => 0))), (q_3, .inl (cA 0, 3, .inl (fun _ => 0)))] := hD
  refine va_putF (D := G) (ci := 7) (v := .ref q_3) (ty := (.array .int)) (C := RX7) (T := TX7) (N := 11) hx hb hts inT7 tyX7 tyX7_ok nmX7 hown hK hP hD hS 0 rfl rfl 5 (by decide) (hts _ tw_486) (fun _ h9 => h9) rfl hin rfl (tyX7_ok 5 (by decide)) rfl rfl (Nat.le_of_ble_eq_true rfl) dX7_init_29 (fun H locs hP hD hS => ?_)
  have hP : va_P G vwCl [(h0, .inr (7, [.null, .ref q_1, .int 0, .ref q_2, .int 0, .ref q_3, .null, .null, .null, .long 0, .long 0])), (q_1, .inl (cA 0, 10, .inl (fun _ => 0))), (q_2, .inl (cA 0, 10, .inl (fun _ => 0))), (q_3, .inl (cA 0, 3, .inl (fun _ => 0)))] H := hP
  have hD : va_D A [(h0, .inr (7, [.null, .ref q_1, .int 0, .ref q_2, .int 0, .ref q_3, .null, .null, .null, .long 0, .long 0])), (q_1, .inl (cA 0, 10, .inl (fun _ => 0))), (q_2, .inl (cA 0, 10, .inl (fun _ => 0))), (q_3, .inl (cA 0, 3, .inl (fun _ => 0)))] := hD
  refine lv_aload_n hx hb dX7_init_32 rfl (lv_at hl 0 rfl) ?_
  refine lv_iconst (v := 3) hx hb dX7_init_33 (by decide) ?_
  refine z_newa (cA := cA) (atype := .int) (ty := .int) (N' := 3) (a0 := (3, .inl (fun _ => 0))) hx hb (hts _ tw_342) rfl 0 rfl (fun _ h9 => by cases h9) hK hP hD hS hA (fun _ => rfl) (by decide +kernel) (by decide +kernel) (Nat.le_of_ble_eq_true rfl) (Nat.le_of_ble_eq_true rfl) (Nat.le_of_ble_eq_true rfl) dX7_init_34 (fun q_4 H hP hD hS => ?_)
  have hP : va_P G vwCl [(h0, .inr (7, [.null, .ref q_1, .int 0, .ref q_2, .int 0, .ref q_3, .null, .null, .null, .long 0, .long 0])), (q_1, .inl (cA 0, 10, .inl (fun _ => 0))), (q_2, .inl (cA 0, 10, .inl (fun _ => 0))), (q_3, .inl (cA 0, 3, .inl (fun _ => 0))), (q_4, .inl (cA 0, 3, .inl (fun _ => 0)))] H := hP
  have hD : va_D A [(h0, .inr (7, [.null, .ref q_1, .int 0, .ref q_2, .int 0, .ref q_3, .null, .null, .null, .long 0, .long 0])), (q_1, .inl (cA 0, 10, .inl (fun _ => 0))), (q_2, .inl (cA 0, 10, .inl (fun _ => 0))), (q_3, .inl (cA 0, 3, .inl (fun _ => 0))), (q_4, .inl (cA 0, 3, .inl (fun _ => 0)))] := hD
  refine va_putF (D := G) (ci := 7) (v := .ref q_4) (ty := (.array .int)) (C := RX7) (T := TX7) (N := 11) hx hb hts inT7 tyX7 tyX7_ok nmX7 hown hK hP hD hS 0 rfl rfl 6 (by decide) (hts _ tw_487) (fun _ h9 => h9) rfl hin rfl (tyX7_ok 6 (by decide)) rfl rfl (Nat.le_of_ble_eq_true rfl) dX7_init_36 (fun H locs hP hD hS => ?_)
  have hP : va_P G vwCl [(h0, .inr (7, [.null, .ref q_1, .int 0, .ref q_2, .int 0, .ref q_3, .ref q_4, .null, .null, .long 0, .long 0])), (q_1, .inl (cA 0, 10, .inl (fun _ => 0))), (q_2, .inl (cA 0, 10, .inl (fun _ => 0))), (q_3, .inl (cA 0, 3, .inl (fun _ => 0))), (q_4, .inl (cA 0, 3, .inl (fun _ => 0)))] H := hP
  have hD : va_D A [(h0, .inr (7, [.null, .ref q_1, .int 0, .ref q_2, .int 0, .ref q_3, .ref q_4, .null, .null, .long 0, .long 0])), (q_1, .inl (cA 0, 10, .inl (fun _ => 0))), (q_2, .inl (cA 0, 10, .inl (fun _ => 0))), (q_3, .inl (cA 0, 3, .inl (fun _ => 0))), (q_4, .inl (cA 0, 3, .inl (fun _ => 0)))] := hD
  refine lv_aload_n hx hb dX7_init_39 rfl (lv_at hl 0 rfl) ?_
  refine lv_iconst (v := 3) hx hb dX7_init_40 (by decide) ?_
  refine z_newa (cA := cA) (atype := .int) (ty := .int) (N' := 3) (a0 := (3, .inl (fun _ => 0))) hx hb (hts _ tw_342) rfl 0 rfl (fun _ h9 => by cases h9) hK hP hD hS hA (fun _ => rfl) (by decide +kernel) (by decide +kernel) (Nat.le_of_ble_eq_true rfl) (Nat.le_of_ble_eq_true rfl) (Nat.le_of_ble_eq_true rfl) dX7_init_41 (fun q_5 H hP hD hS => ?_)
  have hP : va_P G vwCl [(h0, .inr (7, [.null, .ref q_1, .int 0, .ref q_2, .int 0, .ref q_3, .ref q_4, .null, .null, .long 0, .long 0])), (q_1, .inl (cA 0, 10, .inl (fun _ => 0))), (q_2, .inl (cA 0, 10, .inl (fun _ => 0))), (q_3, .inl (cA 0, 3, .inl (fun _ => 0))), (q_4, .inl (cA 0, 3, .inl (fun _ => 0))), (q_5, .inl (cA 0, 3, .inl (fun _ => 0)))] H := hP
  have hD : va_D A [(h0, .inr (7, [.null, .ref q_1, .int 0, .ref q_2, .int 0, .ref q_3, .ref q_4, .null, .null, .long 0, .long 0])), (q_1, .inl (cA 0, 10, .inl (fun _ => 0))), (q_2, .inl (cA 0, 10, .inl (fun _ => 0))), (q_3, .inl (cA 0, 3, .inl (fun _ => 0))), (q_4, .inl (cA 0, 3, .inl (fun _ => 0))), (q_5, .inl (cA 0, 3, .inl (fun _ => 0)))] := hD
  refine va_putF (D := G) (ci := 7) (v := .ref q_5) (ty := (.array .int)) (C := RX7) (T := TX7) (N := 11) hx hb hts inT7 tyX7 tyX7_ok nmX7 hown hK hP hD hS 0 rfl rfl 7 (by decide) (hts _ tw_488) (fun _ h9 => h9) rfl hin rfl (tyX7_ok 7 (by decide)) rfl rfl (Nat.le_of_ble_eq_true rfl) dX7_init_43 (fun H locs hP hD hS => ?_)
  have hP : va_P G vwCl [(h0, .inr (7, [.null, .ref q_1, .int 0, .ref q_2, .int 0, .ref q_3, .ref q_4, .ref q_5, .null, .long 0, .long 0])), (q_1, .inl (cA 0, 10, .inl (fun _ => 0))), (q_2, .inl (cA 0, 10, .inl (fun _ => 0))), (q_3, .inl (cA 0, 3, .inl (fun _ => 0))), (q_4, .inl (cA 0, 3, .inl (fun _ => 0))), (q_5, .inl (cA 0, 3, .inl (fun _ => 0)))] H := hP
  have hD : va_D A [(h0, .inr (7, [.null, .ref q_1, .int 0, .ref q_2, .int 0, .ref q_3, .ref q_4, .ref q_5, .null, .long 0, .long 0])), (q_1, .inl (cA 0, 10, .inl (fun _ => 0))), (q_2, .inl (cA 0, 10, .inl (fun _ => 0))), (q_3, .inl (cA 0, 3, .inl (fun _ => 0))), (q_4, .inl (cA 0, 3, .inl (fun _ => 0))), (q_5, .inl (cA 0, 3, .inl (fun _ => 0)))] := hD
  refine lv_aload_n hx hb dX7_init_46 rfl (lv_at hl 0 rfl) ?_
  refine lv_iconst (v := 3) hx hb dX7_init_47 (by decide) ?_
  refine z_newa (cA := cA) (atype := .boolean) (ty := .boolean) (N' := 3) (a0 := (3, .inl (fun _ => 0))) hx hb (hts _ tw_517) rfl 3 rfl (fun _ h9 => by cases h9) hK hP hD hS hA (fun _ => rfl) (by decide +kernel) (by decide +kernel) (Nat.le_of_ble_eq_true rfl) (Nat.le_of_ble_eq_true rfl) (Nat.le_of_ble_eq_true rfl) dX7_init_48 (fun q_6 H hP hD hS => ?_)
  have hP : va_P G vwCl [(h0, .inr (7, [.null, .ref q_1, .int 0, .ref q_2, .int 0, .ref q_3, .ref q_4, .ref q_5, .null, .long 0, .long 0])), (q_1, .inl (cA 0, 10, .inl (fun _ => 0))), (q_2, .inl (cA 0, 10, .inl (fun _ => 0))), (q_3, .inl (cA 0, 3, .inl (fun _ => 0))), (q_4, .inl (cA 0, 3, .inl (fun _ => 0))), (q_5, .inl (cA 0, 3, .inl (fun _ => 0))), (q_6, .inl (cA 3, 3, .inl (fun _ => 0)))] H := hP
  have hD : va_D A [(h0, .inr (7, [.null, .ref q_1, .int 0, .ref q_2, .int 0, .ref q_3, .ref q_4, .ref q_5, .null, .long 0, .long 0])), (q_1, .inl (cA 0, 10, .inl (fun _ => 0))), (q_2, .inl (cA 0, 10, .inl (fun _ => 0))), (q_3, .inl (cA 0, 3, .inl (fun _ => 0))), (q_4, .inl (cA 0, 3, .inl (fun _ => 0))), (q_5, .inl (cA 0, 3, .inl (fun _ => 0))), (q_6, .inl (cA 3, 3, .inl (fun _ => 0)))] := hD
  refine va_putF (D := G) (ci := 7) (v := .ref q_6) (ty := (.array .boolean)) (C := RX7) (T := TX7) (N := 11) hx hb hts inT7 tyX7 tyX7_ok nmX7 hown hK hP hD hS 0 rfl rfl 8 (by decide) (hts _ tw_489) (fun _ h9 => h9) rfl hin rfl (tyX7_ok 8 (by decide)) rfl rfl (Nat.le_of_ble_eq_true rfl) dX7_init_50 (fun H locs hP hD hS => ?_)
  have hP : va_P G vwCl [(h0, .inr (7, [.null, .ref q_1, .int 0, .ref q_2, .int 0, .ref q_3, .ref q_4, .ref q_5, .ref q_6, .long 0, .long 0])), (q_1, .inl (cA 0, 10, .inl (fun _ => 0))), (q_2, .inl (cA 0, 10, .inl (fun _ => 0))), (q_3, .inl (cA 0, 3, .inl (fun _ => 0))), (q_4, .inl (cA 0, 3, .inl (fun _ => 0))), (q_5, .inl (cA 0, 3, .inl (fun _ => 0))), (q_6, .inl (cA 3, 3, .inl (fun _ => 0)))] H := hP
  have hD : va_D A [(h0, .inr (7, [.null, .ref q_1, .int 0, .ref q_2, .int 0, .ref q_3, .ref q_4, .ref q_5, .ref q_6, .long 0, .long 0])), (q_1, .inl (cA 0, 10, .inl (fun _ => 0))), (q_2, .inl (cA 0, 10, .inl (fun _ => 0))), (q_3, .inl (cA 0, 3, .inl (fun _ => 0))), (q_4, .inl (cA 0, 3, .inl (fun _ => 0))), (q_5, .inl (cA 0, 3, .inl (fun _ => 0))), (q_6, .inl (cA 3, 3, .inl (fun _ => 0)))] := hD
  refine lv_aload_n hx hb dX7_init_53 rfl (lv_at hl 0 rfl) ?_
  refine lv_lconst (v := 0) hx hb dX7_init_54 (by decide) ?_
  refine va_put (D := G) (ci := 7) (v := .long 0) (ty := .long) (C := RX7) (T := TX7) (N := 11) hx hb hts inT7 tyX7 tyX7_ok nmX7 hown hK hP hD hS 0 rfl rfl 9 (by decide) (hts _ tw_490) (fun _ h9 => h9) rfl (tyX7_ok 9 (by decide)) rfl rfl (Nat.le_of_ble_eq_true rfl) dX7_init_55 (fun H locs hP hD hS => ?_)
  have hP : va_P G vwCl [(h0, .inr (7, [.null, .ref q_1, .int 0, .ref q_2, .int 0, .ref q_3, .ref q_4, .ref q_5, .ref q_6, .long 0, .long 0])), (q_1, .inl (cA 0, 10, .inl (fun _ => 0))), (q_2, .inl (cA 0, 10, .inl (fun _ => 0))), (q_3, .inl (cA 0, 3, .inl (fun _ => 0))), (q_4, .inl (cA 0, 3, .inl (fun _ => 0))), (q_5, .inl (cA 0, 3, .inl (fun _ => 0))), (q_6, .inl (cA 3, 3, .inl (fun _ => 0)))] H := hP
  have hD : va_D A [(h0, .inr (7, [.null, .ref q_1, .int 0, .ref q_2, .int 0, .ref q_3, .ref q_4, .ref q_5, .ref q_6, .long 0, .long 0])), (q_1, .inl (cA 0, 10, .inl (fun _ => 0))), (q_2, .inl (cA 0, 10, .inl (fun _ => 0))), (q_3, .inl (cA 0, 3, .inl (fun _ => 0))), (q_4, .inl (cA 0, 3, .inl (fun _ => 0))), (q_5, .inl (cA 0, 3, .inl (fun _ => 0))), (q_6, .inl (cA 3, 3, .inl (fun _ => 0)))] := hD
  refine lv_aload_n hx hb dX7_init_58 rfl (lv_at hl 0 rfl) ?_
  refine lv_lconst (v := 1) hx hb dX7_init_59 (by decide) ?_
  refine va_put (D := G) (ci := 7) (v := .long 1) (ty := .long) (C := RX7) (T := TX7) (N := 11) hx hb hts inT7 tyX7 tyX7_ok nmX7 hown hK hP hD hS 0 rfl rfl 10 (by decide) (hts _ tw_492) (fun _ h9 => h9) rfl (tyX7_ok 10 (by decide)) rfl rfl (Nat.le_of_ble_eq_true rfl) dX7_init_60 (fun H locs hP hD hS => ?_)
  have hP : va_P G vwCl [(h0, .inr (7, [.null, .ref q_1, .int 0, .ref q_2, .int 0, .ref q_3, .ref q_4, .ref q_5, .ref q_6, .long 0, .long 1])), (q_1, .inl (cA 0, 10, .inl (fun _ => 0))), (q_2, .inl (cA 0, 10, .inl (fun _ => 0))), (q_3, .inl (cA 0, 3, .inl (fun _ => 0))), (q_4, .inl (cA 0, 3, .inl (fun _ => 0))), (q_5, .inl (cA 0, 3, .inl (fun _ => 0))), (q_6, .inl (cA 3, 3, .inl (fun _ => 0)))] H := hP
  have hD : va_D A [(h0, .inr (7, [.null, .ref q_1, .int 0, .ref q_2, .int 0, .ref q_3, .ref q_4, .ref q_5, .ref q_6, .long 0, .long 1])), (q_1, .inl (cA 0, 10, .inl (fun _ => 0))), (q_2, .inl (cA 0, 10, .inl (fun _ => 0))), (q_3, .inl (cA 0, 3, .inl (fun _ => 0))), (q_4, .inl (cA 0, 3, .inl (fun _ => 0))), (q_5, .inl (cA 0, 3, .inl (fun _ => 0))), (q_6, .inl (cA 3, 3, .inl (fun _ => 0)))] := hD
  refine lv_aload_n hx hb dX7_init_63 rfl (lv_at hl 0 rfl) ?_
  refine lv_aload_n hx hb dX7_init_64 rfl (lv_at hl 1 rfl) ?_
  refine va_putF (D := G) (ci := 7) (v := .ref h1) (ty := (.object "DarkRing$House")) (C := RX7) (T := TX7) (N := 11) hx hb hts inT7 tyX7 tyX7_ok nmX7 hown hK hP hD hS 0 rfl rfl 0 (by decide) (hts _ tw_479) (fun _ h9 => h9) rfl hin rfl (tyX7_ok 0 (by decide)) rfl rfl (Nat.le_of_ble_eq_true rfl) dX7_init_65 (fun H locs hP hD hS => ?_)
  have hP : va_P G vwCl [(h0, .inr (7, [.ref h1, .ref q_1, .int 0, .ref q_2, .int 0, .ref q_3, .ref q_4, .ref q_5, .ref q_6, .long 0, .long 1])), (q_1, .inl (cA 0, 10, .inl (fun _ => 0))), (q_2, .inl (cA 0, 10, .inl (fun _ => 0))), (q_3, .inl (cA 0, 3, .inl (fun _ => 0))), (q_4, .inl (cA 0, 3, .inl (fun _ => 0))), (q_5, .inl (cA 0, 3, .inl (fun _ => 0))), (q_6, .inl (cA 3, 3, .inl (fun _ => 0)))] H := hP
  have hD : va_D A [(h0, .inr (7, [.ref h1, .ref q_1, .int 0, .ref q_2, .int 0, .ref q_3, .ref q_4, .ref q_5, .ref q_6, .long 0, .long 1])), (q_1, .inl (cA 0, 10, .inl (fun _ => 0))), (q_2, .inl (cA 0, 10, .inl (fun _ => 0))), (q_3, .inl (cA 0, 3, .inl (fun _ => 0))), (q_4, .inl (cA 0, 3, .inl (fun _ => 0))), (q_5, .inl (cA 0, 3, .inl (fun _ => 0))), (q_6, .inl (cA 3, 3, .inl (fun _ => 0)))] := hD
  refine W.widen (k := 6) (n := 32) (Nat.le_of_ble_eq_true rfl) (Nat.le_of_ble_eq_true rfl) ?_
  exact z_retv hx hb hr hlocks hP hD hS (q_1, q_2, q_3, q_4, q_5, q_6) [0] rfl (by decide) dX7_init_68 trivial
set_option maxHeartbeats 4000000 in
set_option maxRecDepth 100000 in
theorem c_L_init (l : Launch) (G : va_G) (cA : Nat → ClassId) (h0 : Nat) (h1 : Nat) : zCv l yX4_init cX4_init 2 none ({ frames := 1, cells := 1, slots := 10, locals := 20 }) G cA [.ref h0, .ref h1] [(h0, .inr (4, [.null, .null, .int 0]))] (S := Unit) (fun (u : Unit) => True) (fun (u : Unit) => []) 1 10 := by
  refine z_startv (own := RX4) (by decide) (Nat.le_of_ble_eq_true rfl) rfl ?_
  intro p e s m below meth c A ls hx hb hr hlocks hml hts hown hin hK hE hP hD hS hA hl
  have hl : lv_has ls 2 [(0, .ref h0), (1, .ref h1)] := hl
  refine lv_aload_n hx hb dX4_init_0 rfl (lv_at hl 0 rfl) ?_
  refine W.objInit hx hb hown (hts _ tw_523) (hts _ tw_195) (hts _ tw_196) rfl (by rw [hml]; exact hl.1) rfl dX4_init_1 (Nat.le_of_ble_eq_true rfl) (Nat.le_of_ble_eq_true rfl) ?_
  refine W.eq (g2 := F0 m 4 ls []) rfl ?_
  refine lv_aload_n hx hb dX4_init_4 rfl (lv_at hl 0 rfl) ?_
  refine lv_bipush (v := 10) hx hb dX4_init_5 (by decide) ?_
  refine z_newa (cA := cA) (atype := .int) (ty := .int) (N' := 10) (a0 := (10, .inl (fun _ => 0))) hx hb (hts _ tw_342) rfl 0 rfl (fun _ h9 => by cases h9) hK hP hD hS hA (fun _ => rfl) (by decide +kernel) (by decide +kernel) (Nat.le_of_ble_eq_true rfl) (Nat.le_of_ble_eq_true rfl) (Nat.le_of_ble_eq_true rfl) dX4_init_7 (fun q_1 H hP hD hS => ?_)
  have hP : va_P G vwCl [(h0, .inr (4, [.null, .null, .int 0])), (q_1, .inl (cA 0, 10, .inl (fun _ => 0)))] H := hP
  have hD : va_D A [(h0, .inr (4, [.null, .null, .int 0])), (q_1, .inl (cA 0, 10, .inl (fun _ => 0)))] := hD
  refine va_putF (D := G) (ci := 4) (v := .ref q_1) (ty := (.array .int)) (C := RX4) (T := TX4) (N := 3) hx hb hts inT4 tyX4 tyX4_ok nmX4 hown hK hP hD hS 0 rfl rfl 1 (by decide) (hts _ tw_525) (fun _ h9 => h9) rfl hin rfl (tyX4_ok 1 (by decide)) rfl rfl (Nat.le_of_ble_eq_true rfl) dX4_init_9 (fun H locs hP hD hS => ?_)
  have hP : va_P G vwCl [(h0, .inr (4, [.null, .ref q_1, .int 0])), (q_1, .inl (cA 0, 10, .inl (fun _ => 0)))] H := hP
  have hD : va_D A [(h0, .inr (4, [.null, .ref q_1, .int 0])), (q_1, .inl (cA 0, 10, .inl (fun _ => 0)))] := hD
  refine lv_aload_n hx hb dX4_init_12 rfl (lv_at hl 0 rfl) ?_
  refine lv_aload_n hx hb dX4_init_13 rfl (lv_at hl 1 rfl) ?_
  refine va_putF (D := G) (ci := 4) (v := .ref h1) (ty := (.object "DarkRing$House")) (C := RX4) (T := TX4) (N := 3) hx hb hts inT4 tyX4 tyX4_ok nmX4 hown hK hP hD hS 0 rfl rfl 0 (by decide) (hts _ tw_524) (fun _ h9 => h9) rfl hin rfl (tyX4_ok 0 (by decide)) rfl rfl (Nat.le_of_ble_eq_true rfl) dX4_init_14 (fun H locs hP hD hS => ?_)
  have hP : va_P G vwCl [(h0, .inr (4, [.ref h1, .ref q_1, .int 0])), (q_1, .inl (cA 0, 10, .inl (fun _ => 0)))] H := hP
  have hD : va_D A [(h0, .inr (4, [.ref h1, .ref q_1, .int 0])), (q_1, .inl (cA 0, 10, .inl (fun _ => 0)))] := hD
  refine W.widen (k := 1) (n := 10) (Nat.le_of_ble_eq_true rfl) (Nat.le_of_ble_eq_true rfl) ?_
  exact z_retv hx hb hr hlocks hP hD hS () [] rfl (by decide) dX4_init_17 trivial
set_option maxHeartbeats 4000000 in
set_option maxRecDepth 100000 in
theorem c_A_init (l : Launch) (G : va_G) (cA : Nat → ClassId) (h0 : Nat) (h1 : Nat) (h2 : Nat) : zCv l yX0_init cX0_init 3 none ({ frames := 1, cells := 1, slots := 100, locals := 20 }) G cA [.ref h0, .ref h1, .ref h2] [(h0, .inr (0, [.null, .null, .null, .int 0, .int 0, .long 0, .int 0]))] (S := Unit) (fun (u : Unit) => True) (fun (u : Unit) => []) 1 100 := by
  refine z_startv (own := RX0) (by decide) (Nat.le_of_ble_eq_true rfl) rfl ?_
  intro p e s m below meth c A ls hx hb hr hlocks hml hts hown hin hK hE hP hD hS hA hl
  have hl : lv_has ls 3 [(0, .ref h0), (1, .ref h1), (2, .ref h2)] := hl
  refine lv_aload_n hx hb dX0_init_0 rfl (lv_at hl 0 rfl) ?_
  refine W.objInit hx hb hown (hts _ tw_539) (hts _ tw_195) (hts _ tw_196) rfl (by rw [hml]; exact hl.1) rfl dX0_init_1 (Nat.le_of_ble_eq_true rfl) (Nat.le_of_ble_eq_true rfl) ?_
  refine W.eq (g2 := F0 m 4 ls []) rfl ?_
  refine lv_aload_n hx hb dX0_init_4 rfl (lv_at hl 0 rfl) ?_
  refine lv_bipush (v := 100) hx hb dX0_init_5 (by decide) ?_
  refine z_newa (cA := cA) (atype := .long) (ty := .long) (N' := 100) (a0 := (100, .inr (.inl (fun _ => 0)))) hx hb (hts _ tw_341) rfl 1 rfl (fun _ h9 => by cases h9) hK hP hD hS hA (fun _ => rfl) (by decide +kernel) (by decide +kernel) (Nat.le_of_ble_eq_true rfl) (Nat.le_of_ble_eq_true rfl) (Nat.le_of_ble_eq_true rfl) dX0_init_7 (fun q_1 H hP hD hS => ?_)
  have hP : va_P G vwCl [(h0, .inr (0, [.null, .null, .null, .int 0, .int 0, .long 0, .int 0])), (q_1, .inl (cA 1, 100, .inr (.inl (fun _ => 0))))] H := hP
  have hD : va_D A [(h0, .inr (0, [.null, .null, .null, .int 0, .int 0, .long 0, .int 0])), (q_1, .inl (cA 1, 100, .inr (.inl (fun _ => 0))))] := hD
  refine va_putF (D := G) (ci := 0) (v := .ref q_1) (ty := (.array .long)) (C := RX0) (T := TX0) (N := 7) hx hb hts inT0 tyX0 tyX0_ok nmX0 hown hK hP hD hS 0 rfl rfl 2 (by decide) (hts _ tw_542) (fun _ h9 => h9) rfl hin rfl (tyX0_ok 2 (by decide)) rfl rfl (Nat.le_of_ble_eq_true rfl) dX0_init_9 (fun H locs hP hD hS => ?_)
  have hP : va_P G vwCl [(h0, .inr (0, [.null, .null, .ref q_1, .int 0, .int 0, .long 0, .int 0])), (q_1, .inl (cA 1, 100, .inr (.inl (fun _ => 0))))] H := hP
  have hD : va_D A [(h0, .inr (0, [.null, .null, .ref q_1, .int 0, .int 0, .long 0, .int 0])), (q_1, .inl (cA 1, 100, .inr (.inl (fun _ => 0))))] := hD
  refine lv_aload_n hx hb dX0_init_12 rfl (lv_at hl 0 rfl) ?_
  refine lv_aload_n hx hb dX0_init_13 rfl (lv_at hl 1 rfl) ?_
  refine va_putF (D := G) (ci := 0) (v := .ref h1) (ty := (.object "DarkRing$House")) (C := RX0) (T := TX0) (N := 7) hx hb hts inT0 tyX0 tyX0_ok nmX0 hown hK hP hD hS 0 rfl rfl 0 (by decide) (hts _ tw_540) (fun _ h9 => h9) rfl hin rfl (tyX0_ok 0 (by decide)) rfl rfl (Nat.le_of_ble_eq_true rfl) dX0_init_14 (fun H locs hP hD hS => ?_)
  have hP : va_P G vwCl [(h0, .inr (0, [.ref h1, .null, .ref q_1, .int 0, .int 0, .long 0, .int 0])), (q_1, .inl (cA 1, 100, .inr (.inl (fun _ => 0))))] H := hP
  have hD : va_D A [(h0, .inr (0, [.ref h1, .null, .ref q_1, .int 0, .int 0, .long 0, .int 0])), (q_1, .inl (cA 1, 100, .inr (.inl (fun _ => 0))))] := hD
  refine lv_aload_n hx hb dX0_init_17 rfl (lv_at hl 0 rfl) ?_
  refine lv_aload_n hx hb dX0_init_18 rfl (lv_at hl 2 rfl) ?_
  refine va_putF (D := G) (ci := 0) (v := .ref h2) (ty := (.object "DarkRing$Thought")) (C := RX0) (T := TX0) (N := 7) hx hb hts inT0 tyX0 tyX0_ok nmX0 hown hK hP hD hS 0 rfl rfl 1 (by decide) (hts _ tw_541) (fun _ h9 => h9) rfl hin rfl (tyX0_ok 1 (by decide)) rfl rfl (Nat.le_of_ble_eq_true rfl) dX0_init_19 (fun H locs hP hD hS => ?_)
  have hP : va_P G vwCl [(h0, .inr (0, [.ref h1, .ref h2, .ref q_1, .int 0, .int 0, .long 0, .int 0])), (q_1, .inl (cA 1, 100, .inr (.inl (fun _ => 0))))] H := hP
  have hD : va_D A [(h0, .inr (0, [.ref h1, .ref h2, .ref q_1, .int 0, .int 0, .long 0, .int 0])), (q_1, .inl (cA 1, 100, .inr (.inl (fun _ => 0))))] := hD
  refine W.widen (k := 1) (n := 100) (Nat.le_of_ble_eq_true rfl) (Nat.le_of_ble_eq_true rfl) ?_
  exact z_retv hx hb hr hlocks hP hD hS () [] rfl (by decide) dX0_init_22 trivial
set_option maxHeartbeats 4000000 in
set_option maxRecDepth 100000 in
theorem c_G_init (l : Launch) (G : va_G) (cA : Nat → ClassId) (h0 : Nat) (h1 : Nat) (h2 : Nat) : zCv l yX1_init cX1_init 3 none ({ frames := 2, cells := 7, slots := 126, locals := 41 }) G cA [.ref h0, .ref h1, .ref h2] [(h0, .inr (1, [.null, .null, .null, .null, .null, .int 0, .int 0, .int 0, .int 0, .int 0, .int 0, .int 0, .int 0, .long 0, .int 0, .int 0, .int 0, .int 0, .null, .int 0]))] (S := Nat × Nat × Nat × Nat) (fun (u : Nat × Nat × Nat × Nat) => True) (fun (u : Nat × Nat × Nat × Nat) => [(h0, .inr (1, [.ref h1, .ref h2, .ref u.2.2.2, .ref u.1, .ref u.2.1, .int 0, .int 0, .int 0, .int 0, .int 0, .int 0, .int 0, .int 0, .long 0, .int 0, .int 0, .int 0, .int 0, .ref u.2.2.1, .int 0])), (u.2.2.1, .inl (cA 0, 7, .inl (fun _ => 0)))]) 7 126 := by
  refine z_startv (own := RX1) (by decide) (Nat.le_of_ble_eq_true rfl) rfl ?_
  intro p e s m below meth c A ls hx hb hr hlocks hml hts hown hin hK hE hP hD hS hA hl
  have hl : lv_has ls 3 [(0, .ref h0), (1, .ref h1), (2, .ref h2)] := hl
  refine lv_aload_n hx hb dX1_init_0 rfl (lv_at hl 0 rfl) ?_
  refine W.objInit hx hb hown (hts _ tw_569) (hts _ tw_195) (hts _ tw_196) rfl (by rw [hml]; exact hl.1) rfl dX1_init_1 (Nat.le_of_ble_eq_true rfl) (Nat.le_of_ble_eq_true rfl) ?_
  refine W.eq (g2 := F0 m 4 ls []) rfl ?_
  refine lv_aload_n hx hb dX1_init_4 rfl (lv_at hl 0 rfl) ?_
  refine lv_bipush (v := 60) hx hb dX1_init_5 (by decide) ?_
  refine z_newa (cA := cA) (atype := .int) (ty := .int) (N' := 60) (a0 := (60, .inl (fun _ => 0))) hx hb (hts _ tw_342) rfl 0 rfl (fun _ h9 => by cases h9) hK hP hD hS hA (fun _ => rfl) (by decide +kernel) (by decide +kernel) (Nat.le_of_ble_eq_true rfl) (Nat.le_of_ble_eq_true rfl) (Nat.le_of_ble_eq_true rfl) dX1_init_7 (fun q_1 H hP hD hS => ?_)
  have hP : va_P G vwCl [(h0, .inr (1, [.null, .null, .null, .null, .null, .int 0, .int 0, .int 0, .int 0, .int 0, .int 0, .int 0, .int 0, .long 0, .int 0, .int 0, .int 0, .int 0, .null, .int 0])), (q_1, .inl (cA 0, 60, .inl (fun _ => 0)))] H := hP
  have hD : va_D A [(h0, .inr (1, [.null, .null, .null, .null, .null, .int 0, .int 0, .int 0, .int 0, .int 0, .int 0, .int 0, .int 0, .long 0, .int 0, .int 0, .int 0, .int 0, .null, .int 0])), (q_1, .inl (cA 0, 60, .inl (fun _ => 0)))] := hD
  refine va_putF (D := G) (ci := 1) (v := .ref q_1) (ty := (.array .int)) (C := RX1) (T := TX1) (N := 20) hx hb hts inT1 tyX1 tyX1_ok nmX1 hown hK hP hD hS 0 rfl rfl 3 (by decide) (hts _ tw_575) (fun _ h9 => h9) rfl hin rfl (tyX1_ok 3 (by decide)) rfl rfl (Nat.le_of_ble_eq_true rfl) dX1_init_9 (fun H locs hP hD hS => ?_)
  have hP : va_P G vwCl [(h0, .inr (1, [.null, .null, .null, .ref q_1, .null, .int 0, .int 0, .int 0, .int 0, .int 0, .int 0, .int 0, .int 0, .long 0, .int 0, .int 0, .int 0, .int 0, .null, .int 0])), (q_1, .inl (cA 0, 60, .inl (fun _ => 0)))] H := hP
  have hD : va_D A [(h0, .inr (1, [.null, .null, .null, .ref q_1, .null, .int 0, .int 0, .int 0, .int 0, .int 0, .int 0, .int 0, .int 0, .long 0, .int 0, .int 0, .int 0, .int 0, .null, .int 0])), (q_1, .inl (cA 0, 60, .inl (fun _ => 0)))] := hD
  refine lv_aload_n hx hb dX1_init_12 rfl (lv_at hl 0 rfl) ?_
  refine lv_iconst (v := 3) hx hb dX1_init_13 (by decide) ?_
  refine z_newa (cA := cA) (atype := .int) (ty := .int) (N' := 3) (a0 := (3, .inl (fun _ => 0))) hx hb (hts _ tw_342) rfl 0 rfl (fun _ h9 => by cases h9) hK hP hD hS hA (fun _ => rfl) (by decide +kernel) (by decide +kernel) (Nat.le_of_ble_eq_true rfl) (Nat.le_of_ble_eq_true rfl) (Nat.le_of_ble_eq_true rfl) dX1_init_14 (fun q_2 H hP hD hS => ?_)
  have hP : va_P G vwCl [(h0, .inr (1, [.null, .null, .null, .ref q_1, .null, .int 0, .int 0, .int 0, .int 0, .int 0, .int 0, .int 0, .int 0, .long 0, .int 0, .int 0, .int 0, .int 0, .null, .int 0])), (q_1, .inl (cA 0, 60, .inl (fun _ => 0))), (q_2, .inl (cA 0, 3, .inl (fun _ => 0)))] H := hP
  have hD : va_D A [(h0, .inr (1, [.null, .null, .null, .ref q_1, .null, .int 0, .int 0, .int 0, .int 0, .int 0, .int 0, .int 0, .int 0, .long 0, .int 0, .int 0, .int 0, .int 0, .null, .int 0])), (q_1, .inl (cA 0, 60, .inl (fun _ => 0))), (q_2, .inl (cA 0, 3, .inl (fun _ => 0)))] := hD
  refine va_putF (D := G) (ci := 1) (v := .ref q_2) (ty := (.array .int)) (C := RX1) (T := TX1) (N := 20) hx hb hts inT1 tyX1 tyX1_ok nmX1 hown hK hP hD hS 0 rfl rfl 4 (by decide) (hts _ tw_576) (fun _ h9 => h9) rfl hin rfl (tyX1_ok 4 (by decide)) rfl rfl (Nat.le_of_ble_eq_true rfl) dX1_init_16 (fun H locs hP hD hS => ?_)
  have hP : va_P G vwCl [(h0, .inr (1, [.null, .null, .null, .ref q_1, .ref q_2, .int 0, .int 0, .int 0, .int 0, .int 0, .int 0, .int 0, .int 0, .long 0, .int 0, .int 0, .int 0, .int 0, .null, .int 0])), (q_1, .inl (cA 0, 60, .inl (fun _ => 0))), (q_2, .inl (cA 0, 3, .inl (fun _ => 0)))] H := hP
  have hD : va_D A [(h0, .inr (1, [.null, .null, .null, .ref q_1, .ref q_2, .int 0, .int 0, .int 0, .int 0, .int 0, .int 0, .int 0, .int 0, .long 0, .int 0, .int 0, .int 0, .int 0, .null, .int 0])), (q_1, .inl (cA 0, 60, .inl (fun _ => 0))), (q_2, .inl (cA 0, 3, .inl (fun _ => 0)))] := hD
  refine lv_aload_n hx hb dX1_init_19 rfl (lv_at hl 0 rfl) ?_
  refine lv_bipush (v := 7) hx hb dX1_init_20 (by decide) ?_
  refine z_newa (cA := cA) (atype := .int) (ty := .int) (N' := 7) (a0 := (7, .inl (fun _ => 0))) hx hb (hts _ tw_342) rfl 0 rfl (fun _ h9 => by cases h9) hK hP hD hS hA (fun _ => rfl) (by decide +kernel) (by decide +kernel) (Nat.le_of_ble_eq_true rfl) (Nat.le_of_ble_eq_true rfl) (Nat.le_of_ble_eq_true rfl) dX1_init_22 (fun q_3 H hP hD hS => ?_)
  have hP : va_P G vwCl [(h0, .inr (1, [.null, .null, .null, .ref q_1, .ref q_2, .int 0, .int 0, .int 0, .int 0, .int 0, .int 0, .int 0, .int 0, .long 0, .int 0, .int 0, .int 0, .int 0, .null, .int 0])), (q_1, .inl (cA 0, 60, .inl (fun _ => 0))), (q_2, .inl (cA 0, 3, .inl (fun _ => 0))), (q_3, .inl (cA 0, 7, .inl (fun _ => 0)))] H := hP
  have hD : va_D A [(h0, .inr (1, [.null, .null, .null, .ref q_1, .ref q_2, .int 0, .int 0, .int 0, .int 0, .int 0, .int 0, .int 0, .int 0, .long 0, .int 0, .int 0, .int 0, .int 0, .null, .int 0])), (q_1, .inl (cA 0, 60, .inl (fun _ => 0))), (q_2, .inl (cA 0, 3, .inl (fun _ => 0))), (q_3, .inl (cA 0, 7, .inl (fun _ => 0)))] := hD
  refine va_putF (D := G) (ci := 1) (v := .ref q_3) (ty := (.array .int)) (C := RX1) (T := TX1) (N := 20) hx hb hts inT1 tyX1 tyX1_ok nmX1 hown hK hP hD hS 0 rfl rfl 18 (by decide) (hts _ tw_592) (fun _ h9 => h9) rfl hin rfl (tyX1_ok 18 (by decide)) rfl rfl (Nat.le_of_ble_eq_true rfl) dX1_init_24 (fun H locs hP hD hS => ?_)
  have hP : va_P G vwCl [(h0, .inr (1, [.null, .null, .null, .ref q_1, .ref q_2, .int 0, .int 0, .int 0, .int 0, .int 0, .int 0, .int 0, .int 0, .long 0, .int 0, .int 0, .int 0, .int 0, .ref q_3, .int 0])), (q_1, .inl (cA 0, 60, .inl (fun _ => 0))), (q_2, .inl (cA 0, 3, .inl (fun _ => 0))), (q_3, .inl (cA 0, 7, .inl (fun _ => 0)))] H := hP
  have hD : va_D A [(h0, .inr (1, [.null, .null, .null, .ref q_1, .ref q_2, .int 0, .int 0, .int 0, .int 0, .int 0, .int 0, .int 0, .int 0, .long 0, .int 0, .int 0, .int 0, .int 0, .ref q_3, .int 0])), (q_1, .inl (cA 0, 60, .inl (fun _ => 0))), (q_2, .inl (cA 0, 3, .inl (fun _ => 0))), (q_3, .inl (cA 0, 7, .inl (fun _ => 0)))] := hD
  refine lv_aload_n hx hb dX1_init_27 rfl (lv_at hl 0 rfl) ?_
  refine lv_iconst (v := 0) hx hb dX1_init_28 (by decide) ?_
  refine va_put (D := G) (ci := 1) (v := .int 0) (ty := .boolean) (C := RX1) (T := TX1) (N := 20) hx hb hts inT1 tyX1 tyX1_ok nmX1 hown hK hP hD hS 0 rfl rfl 19 (by decide) (hts _ tw_593) (fun _ h9 => h9) rfl (tyX1_ok 19 (by decide)) rfl rfl (Nat.le_of_ble_eq_true rfl) dX1_init_29 (fun H locs hP hD hS => ?_)
  have hP : va_P G vwCl [(h0, .inr (1, [.null, .null, .null, .ref q_1, .ref q_2, .int 0, .int 0, .int 0, .int 0, .int 0, .int 0, .int 0, .int 0, .long 0, .int 0, .int 0, .int 0, .int 0, .ref q_3, .int 0])), (q_1, .inl (cA 0, 60, .inl (fun _ => 0))), (q_2, .inl (cA 0, 3, .inl (fun _ => 0))), (q_3, .inl (cA 0, 7, .inl (fun _ => 0)))] H := hP
  have hD : va_D A [(h0, .inr (1, [.null, .null, .null, .ref q_1, .ref q_2, .int 0, .int 0, .int 0, .int 0, .int 0, .int 0, .int 0, .int 0, .long 0, .int 0, .int 0, .int 0, .int 0, .ref q_3, .int 0])), (q_1, .inl (cA 0, 60, .inl (fun _ => 0))), (q_2, .inl (cA 0, 3, .inl (fun _ => 0))), (q_3, .inl (cA 0, 7, .inl (fun _ => 0)))] := hD
  refine lv_aload_n hx hb dX1_init_32 rfl (lv_at hl 0 rfl) ?_
  refine lv_aload_n hx hb dX1_init_33 rfl (lv_at hl 1 rfl) ?_
  refine va_putF (D := G) (ci := 1) (v := .ref h1) (ty := (.object "DarkRing$House")) (C := RX1) (T := TX1) (N := 20) hx hb hts inT1 tyX1 tyX1_ok nmX1 hown hK hP hD hS 0 rfl rfl 0 (by decide) (hts _ tw_572) (fun _ h9 => h9) rfl hin rfl (tyX1_ok 0 (by decide)) rfl rfl (Nat.le_of_ble_eq_true rfl) dX1_init_34 (fun H locs hP hD hS => ?_)
  have hP : va_P G vwCl [(h0, .inr (1, [.ref h1, .null, .null, .ref q_1, .ref q_2, .int 0, .int 0, .int 0, .int 0, .int 0, .int 0, .int 0, .int 0, .long 0, .int 0, .int 0, .int 0, .int 0, .ref q_3, .int 0])), (q_1, .inl (cA 0, 60, .inl (fun _ => 0))), (q_2, .inl (cA 0, 3, .inl (fun _ => 0))), (q_3, .inl (cA 0, 7, .inl (fun _ => 0)))] H := hP
  have hD : va_D A [(h0, .inr (1, [.ref h1, .null, .null, .ref q_1, .ref q_2, .int 0, .int 0, .int 0, .int 0, .int 0, .int 0, .int 0, .int 0, .long 0, .int 0, .int 0, .int 0, .int 0, .ref q_3, .int 0])), (q_1, .inl (cA 0, 60, .inl (fun _ => 0))), (q_2, .inl (cA 0, 3, .inl (fun _ => 0))), (q_3, .inl (cA 0, 7, .inl (fun _ => 0)))] := hD
  refine lv_aload_n hx hb dX1_init_37 rfl (lv_at hl 0 rfl) ?_
  refine lv_aload_n hx hb dX1_init_38 rfl (lv_at hl 2 rfl) ?_
  refine va_putF (D := G) (ci := 1) (v := .ref h2) (ty := (.object "DarkRing$Rule")) (C := RX1) (T := TX1) (N := 20) hx hb hts inT1 tyX1 tyX1_ok nmX1 hown hK hP hD hS 0 rfl rfl 1 (by decide) (hts _ tw_573) (fun _ h9 => h9) rfl hin rfl (tyX1_ok 1 (by decide)) rfl rfl (Nat.le_of_ble_eq_true rfl) dX1_init_39 (fun H locs hP hD hS => ?_)
  have hP : va_P G vwCl [(h0, .inr (1, [.ref h1, .ref h2, .null, .ref q_1, .ref q_2, .int 0, .int 0, .int 0, .int 0, .int 0, .int 0, .int 0, .int 0, .long 0, .int 0, .int 0, .int 0, .int 0, .ref q_3, .int 0])), (q_1, .inl (cA 0, 60, .inl (fun _ => 0))), (q_2, .inl (cA 0, 3, .inl (fun _ => 0))), (q_3, .inl (cA 0, 7, .inl (fun _ => 0)))] H := hP
  have hD : va_D A [(h0, .inr (1, [.ref h1, .ref h2, .null, .ref q_1, .ref q_2, .int 0, .int 0, .int 0, .int 0, .int 0, .int 0, .int 0, .int 0, .long 0, .int 0, .int 0, .int 0, .int 0, .ref q_3, .int 0])), (q_1, .inl (cA 0, 60, .inl (fun _ => 0))), (q_2, .inl (cA 0, 3, .inl (fun _ => 0))), (q_3, .inl (cA 0, 7, .inl (fun _ => 0)))] := hD
  refine lv_aload_n hx hb dX1_init_42 rfl (lv_at hl 0 rfl) ?_
  refine va_new (ci := 9) (fs := [.null, .int 0, .int 0, .null, .null, .null]) (C := RX9) (T := TX9) (N := 6) hx hb hts inT9 tyX9 tyX9_ok hown (hts _ tw_570) (hts _ tw_344) (hts _ tw_171) hK hP hD hS hA rfl (by decide +kernel) (Nat.le_of_ble_eq_true rfl) (Nat.le_of_ble_eq_true rfl) dX1_init_43 (fun q_4 H hP hD hS => ?_)
  have hP : va_P G vwCl [(h0, .inr (1, [.ref h1, .ref h2, .null, .ref q_1, .ref q_2, .int 0, .int 0, .int 0, .int 0, .int 0, .int 0, .int 0, .int 0, .long 0, .int 0, .int 0, .int 0, .int 0, .ref q_3, .int 0])), (q_1, .inl (cA 0, 60, .inl (fun _ => 0))), (q_2, .inl (cA 0, 3, .inl (fun _ => 0))), (q_3, .inl (cA 0, 7, .inl (fun _ => 0))), (q_4, .inr (9, [.null, .int 0, .int 0, .null, .null, .null]))] H := hP
  have hD : va_D A [(h0, .inr (1, [.ref h1, .ref h2, .null, .ref q_1, .ref q_2, .int 0, .int 0, .int 0, .int 0, .int 0, .int 0, .int 0, .int 0, .long 0, .int 0, .int 0, .int 0, .int 0, .ref q_3, .int 0])), (q_1, .inl (cA 0, 60, .inl (fun _ => 0))), (q_2, .inl (cA 0, 3, .inl (fun _ => 0))), (q_3, .inl (cA 0, 7, .inl (fun _ => 0))), (q_4, .inr (9, [.null, .int 0, .int 0, .null, .null, .null]))] := hD
  refine lv_dup hx hb dX1_init_46 rfl ?_
  refine lv_aload_n hx hb dX1_init_47 rfl (lv_at hl 1 rfl) ?_
  refine z_callIv (As := [.ref h1]) (rest := [.ref q_4, .ref h0]) (wr := [(h0, .inr (1, [.ref h1, .ref h2, .null, .ref q_1, .ref q_2, .int 0, .int 0, .int 0, .int 0, .int 0, .int 0, .int 0, .int 0, .long 0, .int 0, .int 0, .int 0, .int 0, .ref q_3, .int 0])), (q_1, .inl (cA 0, 60, .inl (fun _ => 0))), (q_2, .inl (cA 0, 3, .inl (fun _ => 0))), (q_3, .inl (cA 0, 7, .inl (fun _ => 0)))]) ⟨hx, hb, hml, hown, hts⟩ hK hE hP hD hS hA (c_O_init l G cA q_4 h1) lk_RX1_37 ⟨rfl, rfl⟩ ⟨Nat.le_of_ble_eq_true rfl, Nat.le_of_ble_eq_true rfl⟩ [4] [0, 1, 2, 3] rfl rfl (by decide) rfl hl.1 rfl (lv_room (Nat.le_of_ble_eq_true rfl)) dX1_init_48 ⟨Nat.le_of_ble_eq_true rfl, Nat.le_of_ble_eq_true rfl⟩ (fun u_9 H locs hw hP hD hS => ?_)
  obtain ⟨q0_5, q1_6, q2_7⟩ := u_9
  have hP : va_P G vwCl [(h0, .inr (1, [.ref h1, .ref h2, .null, .ref q_1, .ref q_2, .int 0, .int 0, .int 0, .int 0, .int 0, .int 0, .int 0, .int 0, .long 0, .int 0, .int 0, .int 0, .int 0, .ref q_3, .int 0])), (q_1, .inl (cA 0, 60, .inl (fun _ => 0))), (q_2, .inl (cA 0, 3, .inl (fun _ => 0))), (q_3, .inl (cA 0, 7, .inl (fun _ => 0))), (q_4, .inr (9, [.ref h1, .int (-1), .int 0, .ref q0_5, .ref q1_6, .ref q2_7])), (q0_5, .inl (cA 0, 10, .inl (fun _ => 0))), (q1_6, .inl (cA 1, 20, .inr (.inl (fun _ => 0))))] H := hP
  have hD : va_D A [(h0, .inr (1, [.ref h1, .ref h2, .null, .ref q_1, .ref q_2, .int 0, .int 0, .int 0, .int 0, .int 0, .int 0, .int 0, .int 0, .long 0, .int 0, .int 0, .int 0, .int 0, .ref q_3, .int 0])), (q_1, .inl (cA 0, 60, .inl (fun _ => 0))), (q_2, .inl (cA 0, 3, .inl (fun _ => 0))), (q_3, .inl (cA 0, 7, .inl (fun _ => 0))), (q_4, .inr (9, [.ref h1, .int (-1), .int 0, .ref q0_5, .ref q1_6, .ref q2_7])), (q0_5, .inl (cA 0, 10, .inl (fun _ => 0))), (q1_6, .inl (cA 1, 20, .inr (.inl (fun _ => 0))))] := hD
  refine va_putF (D := G) (ci := 1) (v := .ref q_4) (ty := (.object "DarkRing$Thought")) (C := RX1) (T := TX1) (N := 20) hx hb hts inT1 tyX1 tyX1_ok nmX1 hown hK hP hD hS 0 rfl rfl 2 (by decide) (hts _ tw_574) (fun _ h9 => h9) rfl hin rfl (tyX1_ok 2 (by decide)) rfl rfl (Nat.le_of_ble_eq_true rfl) dX1_init_51 (fun H locs hP hD hS => ?_)
  have hP : va_P G vwCl [(h0, .inr (1, [.ref h1, .ref h2, .ref q_4, .ref q_1, .ref q_2, .int 0, .int 0, .int 0, .int 0, .int 0, .int 0, .int 0, .int 0, .long 0, .int 0, .int 0, .int 0, .int 0, .ref q_3, .int 0])), (q_1, .inl (cA 0, 60, .inl (fun _ => 0))), (q_2, .inl (cA 0, 3, .inl (fun _ => 0))), (q_3, .inl (cA 0, 7, .inl (fun _ => 0))), (q_4, .inr (9, [.ref h1, .int (-1), .int 0, .ref q0_5, .ref q1_6, .ref q2_7])), (q0_5, .inl (cA 0, 10, .inl (fun _ => 0))), (q1_6, .inl (cA 1, 20, .inr (.inl (fun _ => 0))))] H := hP
  have hD : va_D A [(h0, .inr (1, [.ref h1, .ref h2, .ref q_4, .ref q_1, .ref q_2, .int 0, .int 0, .int 0, .int 0, .int 0, .int 0, .int 0, .int 0, .long 0, .int 0, .int 0, .int 0, .int 0, .ref q_3, .int 0])), (q_1, .inl (cA 0, 60, .inl (fun _ => 0))), (q_2, .inl (cA 0, 3, .inl (fun _ => 0))), (q_3, .inl (cA 0, 7, .inl (fun _ => 0))), (q_4, .inr (9, [.ref h1, .int (-1), .int 0, .ref q0_5, .ref q1_6, .ref q2_7])), (q0_5, .inl (cA 0, 10, .inl (fun _ => 0))), (q1_6, .inl (cA 1, 20, .inr (.inl (fun _ => 0))))] := hD
  refine W.widen (k := 7) (n := 126) (Nat.le_of_ble_eq_true rfl) (Nat.le_of_ble_eq_true rfl) ?_
  exact z_retv hx hb hr hlocks hP hD hS (q_1, q_2, q_3, q_4) [0, 3] rfl (by decide) dX1_init_54 trivial
