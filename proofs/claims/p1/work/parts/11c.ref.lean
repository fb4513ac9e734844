set_option maxHeartbeats 4000000 in
set_option maxRecDepth 100000 in
theorem c_M_refuse (l : Launch) (G : va_G) (cA : Nat → ClassId) (h0 : Nat) (s0 : Int32) (k : Int32) (m4 : Value) (m5 : Value) (m6 : Value) (m7 : Value) (m20 : Value) (m21 : Value) (m23 : Value) (m24 : Value) (m25 : Value) (m26 : Value) (m35 : Value) (m36 : Value) (m51 : Value) (m52 : Value) (m53 : Value) (m57 : Value) (m58 : Value) (m62 : Value) : zCi l yX12_refuse cX12_refuse 2 (some .int) ({ frames := 0, cells := 0, slots := 0, locals := 0 }) G cA [.ref h0, .int k] [(h0, .inr (12, [.int s0, .int 0, .long 0, .long 1, m4, m5, m6, m7, .int 0, .int 0, .int (-1), .int (-1), .int 0, .int 0, .int 0, .int 0, .int 0, .int 0, .int 0, .long 0, m20, m21, .int 0, m23, m24, m25, m26, .int 0, .int 0, .int 0, .int 0, .int 0, .int 0, .long 0, .long 0, m35, m36, .int 0, .int 0, .int 0, .int 0, .int 0, .int 0, .int 0, .int 0, .int 0, .int 0, .int 0, .int 0, .int 0, .int 0, m51, m52, m53, .int 0, .int 0, .int 0, m57, m58, .int 0, .long 0, .long 0, m62, .int 0, .int 0]))] (S := Unit) (fun (r : Int32) (u : Unit) => r = (-1)) (fun (u : Unit) => [(h0, .inr (12, [.int k, .int 0, .long 0, .long 1, m4, m5, m6, m7, .int 0, .int 0, .int (-1), .int (-1), .int 0, .int 0, .int 0, .int 0, .int 0, .int 0, .int 0, .long 0, m20, m21, .int 0, m23, m24, m25, m26, .int 0, .int 0, .int 0, .int 0, .int 0, .int 0, .long 0, .long 0, m35, m36, .int 0, .int 0, .int 0, .int 0, .int 0, .int 0, .int 0, .int 0, .int 0, .int 0, .int 0, .int 0, .int 0, .int 0, m51, m52, m53, .int 0, .int 0, .int 0, m57, m58, .int 0, .long 0, .long 0, m62, .int 0, .int 0]))]) 0 0 := by
  refine z_starti (own := RX12) (by decide) (Nat.le_of_ble_eq_true rfl) rfl ?_
  intro p e s m below meth c A ls hx hb hr hlocks hml hts hown hin hK hE hP hD hS hA hl
  have hl : lv_has ls 2 [(0, .ref h0), (1, .int k)] := hl
  refine lv_aload_n hx hb dX12_refuse_0 rfl (lv_at hl 0 rfl) ?_
  refine lv_iload_n hx hb dX12_refuse_1 rfl (lv_at hl 1 rfl) ?_
  refine va_put (D := G) (ci := 12) (v := .int k) (ty := .int) (C := RX12) (T := TX12) (N := 65) hx hb hts inT12 tyX12 tyX12_ok nmX12 hown hK hP hD hS 0 rfl rfl 0 (by decide) (hts _ tw_1885) (fun _ h9 => h9) rfl (tyX12_ok 0 (by decide)) rfl rfl (Nat.le_of_ble_eq_true rfl) dX12_refuse_2 (fun H locs hP hD hS => ?_)
  have hP : va_P G vwCl [(h0, .inr (12, [.int k, .int 0, .long 0, .long 1, m4, m5, m6, m7, .int 0, .int 0, .int (-1), .int (-1), .int 0, .int 0, .int 0, .int 0, .int 0, .int 0, .int 0, .long 0, m20, m21, .int 0, m23, m24, m25, m26, .int 0, .int 0, .int 0, .int 0, .int 0, .int 0, .long 0, .long 0, m35, m36, .int 0, .int 0, .int 0, .int 0, .int 0, .int 0, .int 0, .int 0, .int 0, .int 0, .int 0, .int 0, .int 0, .int 0, m51, m52, m53, .int 0, .int 0, .int 0, m57, m58, .int 0, .long 0, .long 0, m62, .int 0, .int 0]))] H := hP
  have hD : va_D A [(h0, .inr (12, [.int k, .int 0, .long 0, .long 1, m4, m5, m6, m7, .int 0, .int 0, .int (-1), .int (-1), .int 0, .int 0, .int 0, .int 0, .int 0, .int 0, .int 0, .long 0, m20, m21, .int 0, m23, m24, m25, m26, .int 0, .int 0, .int 0, .int 0, .int 0, .int 0, .long 0, .long 0, m35, m36, .int 0, .int 0, .int 0, .int 0, .int 0, .int 0, .int 0, .int 0, .int 0, .int 0, .int 0, .int 0, .int 0, .int 0, m51, m52, m53, .int 0, .int 0, .int 0, m57, m58, .int 0, .long 0, .long 0, m62, .int 0, .int 0]))] := hD
  refine lv_iconst (v := (-1)) hx hb dX12_refuse_5 (by decide) ?_
  exact z_reti hx hb hr hlocks hP hD hS () [0] rfl (by decide) dX12_refuse_6 rfl
set_option maxHeartbeats 4000000 in
set_option maxRecDepth 100000 in
theorem c_M_no (l : Launch) (G : va_G) (cA : Nat → ClassId) (h0 : Nat) (s0 : Int32) (k : Int32) (m4 : Value) (m5 : Value) (m6 : Value) (m7 : Value) (m20 : Value) (m21 : Value) (m23 : Value) (m24 : Value) (m25 : Value) (m26 : Value) (m35 : Value) (m36 : Value) (m51 : Value) (m52 : Value) (m53 : Value) (m57 : Value) (m58 : Value) (m62 : Value) : zCi l yX12_no cX12_no 2 (some .boolean) ({ frames := 0, cells := 0, slots := 0, locals := 0 }) G cA [.ref h0, .int k] [(h0, .inr (12, [.int s0, .int 0, .long 0, .long 1, m4, m5, m6, m7, .int 0, .int 0, .int (-1), .int (-1), .int 0, .int 0, .int 0, .int 0, .int 0, .int 0, .int 0, .long 0, m20, m21, .int 0, m23, m24, m25, m26, .int 0, .int 0, .int 0, .int 0, .int 0, .int 0, .long 0, .long 0, m35, m36, .int 0, .int 0, .int 0, .int 0, .int 0, .int 0, .int 0, .int 0, .int 0, .int 0, .int 0, .int 0, .int 0, .int 0, m51, m52, m53, .int 0, .int 0, .int 0, m57, m58, .int 0, .long 0, .long 0, m62, .int 0, .int 0]))] (S := Unit) (fun (r : Int32) (u : Unit) => r = 0) (fun (u : Unit) => [(h0, .inr (12, [.int k, .int 0, .long 0, .long 1, m4, m5, m6, m7, .int 0, .int 0, .int (-1), .int (-1), .int 0, .int 0, .int 0, .int 0, .int 0, .int 0, .int 0, .long 0, m20, m21, .int 0, m23, m24, m25, m26, .int 0, .int 0, .int 0, .int 0, .int 0, .int 0, .long 0, .long 0, m35, m36, .int 0, .int 0, .int 0, .int 0, .int 0, .int 0, .int 0, .int 0, .int 0, .int 0, .int 0, .int 0, .int 0, .int 0, m51, m52, m53, .int 0, .int 0, .int 0, m57, m58, .int 0, .long 0, .long 0, m62, .int 0, .int 0]))]) 0 0 := by
  refine z_starti (own := RX12) (by decide) (Nat.le_of_ble_eq_true rfl) rfl ?_
  intro p e s m below meth c A ls hx hb hr hlocks hml hts hown hin hK hE hP hD hS hA hl
  have hl : lv_has ls 2 [(0, .ref h0), (1, .int k)] := hl
  refine lv_aload_n hx hb dX12_no_0 rfl (lv_at hl 0 rfl) ?_
  refine lv_iload_n hx hb dX12_no_1 rfl (lv_at hl 1 rfl) ?_
  refine va_put (D := G) (ci := 12) (v := .int k) (ty := .int) (C := RX12) (T := TX12) (N := 65) hx hb hts inT12 tyX12 tyX12_ok nmX12 hown hK hP hD hS 0 rfl rfl 0 (by decide) (hts _ tw_1885) (fun _ h9 => h9) rfl (tyX12_ok 0 (by decide)) rfl rfl (Nat.le_of_ble_eq_true rfl) dX12_no_2 (fun H locs hP hD hS => ?_)
  have hP : va_P G vwCl [(h0, .inr (12, [.int k, .int 0, .long 0, .long 1, m4, m5, m6, m7, .int 0, .int 0, .int (-1), .int (-1), .int 0, .int 0, .int 0, .int 0, .int 0, .int 0, .int 0, .long 0, m20, m21, .int 0, m23, m24, m25, m26, .int 0, .int 0, .int 0, .int 0, .int 0, .int 0, .long 0, .long 0, m35, m36, .int 0, .int 0, .int 0, .int 0, .int 0, .int 0, .int 0, .int 0, .int 0, .int 0, .int 0, .int 0, .int 0, .int 0, m51, m52, m53, .int 0, .int 0, .int 0, m57, m58, .int 0, .long 0, .long 0, m62, .int 0, .int 0]))] H := hP
  have hD : va_D A [(h0, .inr (12, [.int k, .int 0, .long 0, .long 1, m4, m5, m6, m7, .int 0, .int 0, .int (-1), .int (-1), .int 0, .int 0, .int 0, .int 0, .int 0, .int 0, .int 0, .long 0, m20, m21, .int 0, m23, m24, m25, m26, .int 0, .int 0, .int 0, .int 0, .int 0, .int 0, .long 0, .long 0, m35, m36, .int 0, .int 0, .int 0, .int 0, .int 0, .int 0, .int 0, .int 0, .int 0, .int 0, .int 0, .int 0, .int 0, .int 0, m51, m52, m53, .int 0, .int 0, .int 0, m57, m58, .int 0, .long 0, .long 0, m62, .int 0, .int 0]))] := hD
  refine lv_iconst (v := 0) hx hb dX12_no_5 (by decide) ?_
  exact z_retz hx hb hr hlocks hP hD hS () [0] rfl (by decide) dX12_no_6 (by decide +kernel) rfl
set_option maxHeartbeats 4000000 in
set_option maxRecDepth 100000 in
theorem c_M_isIn_m1 (l : Launch) (G : va_G) (cA : Nat → ClassId) (x : Int64) : zCi l yX12_isIn cX12_isIn 6 (some .boolean) ({ frames := 0, cells := 0, slots := 0, locals := 0 }) G cA [.long x, .long 0, .long (-1)] [] (S := Unit) (fun (r : Int32) (u : Unit) => r = 0) (fun (u : Unit) => []) 0 0 := by
  refine z_starti (own := RX12) (by decide) (Nat.le_of_ble_eq_true rfl) rfl ?_
  intro p e s m below meth c A ls hx hb hr hlocks hml hts hown hin hK hE hP hD hS hA hl
  have hl : lv_has ls 6 [(0, .long x), (2, .long 0), (4, .long (-1))] := hl
  refine lv_lload_n hx hb dX12_isIn_0 rfl (lv_at hl 0 rfl) ?_
  refine lv_lload_n hx hb dX12_isIn_1 rfl (lv_at hl 1 rfl) ?_
  refine W.lcmp hx hb dX12_isIn_2 ?_
  refine lv_if_lt (tgt := 17) hx hb dX12_isIn_3 (by decide) (fun c_1 => ?_) (fun c_1 => ?_)
  · have b_2 := z_b3 c_1 (K := 0) (by decide +kernel)
    refine lv_iconst (v := 0) hx hb dX12_isIn_17 (by decide) ?_
    exact z_retz hx hb hr hlocks hP hD hS () [] rfl (by decide) dX12_isIn_18 (by decide +kernel) rfl
  · have b_3 := z_b4 c_1 (K := 0) (by decide +kernel)
    refine lv_lload_n hx hb dX12_isIn_6 rfl (lv_at hl 0 rfl) ?_
    refine lv_lload hx hb dX12_isIn_7 (lv_at hl 2 rfl) ?_
    refine W.lcmp hx hb dX12_isIn_9 ?_
    refine lv_if_gt (tgt := 17) hx hb dX12_isIn_10 (by decide) (fun _ => ?_) (fun h9 => absurd (z_m1 c_1) h9)
    refine lv_iconst (v := 0) hx hb dX12_isIn_17 (by decide) ?_
    exact z_retz hx hb hr hlocks hP hD hS () [] rfl (by decide) dX12_isIn_18 (by decide +kernel) rfl
set_option maxHeartbeats 4000000 in
set_option maxRecDepth 100000 in
theorem c_M_isIn_3 (l : Launch) (G : va_G) (cA : Nat → ClassId) (x : Int32) : zCi l yX12_isIn cX12_isIn 6 (some .boolean) ({ frames := 0, cells := 0, slots := 0, locals := 0 }) G cA [.long ((x).toInt64), .long 0, .long 3] [] (S := Unit) (fun (r : Int32) (u : Unit) => (r = 1 ∧ 0 ≤ x.toInt ∧ x.toInt ≤ 3) ∨ (r = 0 ∧ (x.toInt < 0 ∨ 3 < x.toInt))) (fun (u : Unit) => []) 0 0 := by
  refine z_starti (own := RX12) (by decide) (Nat.le_of_ble_eq_true rfl) rfl ?_
  intro p e s m below meth c A ls hx hb hr hlocks hml hts hown hin hK hE hP hD hS hA hl
  have hl : lv_has ls 6 [(0, .long ((x).toInt64)), (2, .long 0), (4, .long 3)] := hl
  refine lv_lload_n hx hb dX12_isIn_0 rfl (lv_at hl 0 rfl) ?_
  refine lv_lload_n hx hb dX12_isIn_1 rfl (lv_at hl 1 rfl) ?_
  refine W.lcmp hx hb dX12_isIn_2 ?_
  refine lv_if_lt (tgt := 17) hx hb dX12_isIn_3 (by decide) (fun c_1 => ?_) (fun c_1 => ?_)
  · have b_2 := z_b3 c_1 (K := 0) (by decide +kernel)
    refine lv_iconst (v := 0) hx hb dX12_isIn_17 (by decide) ?_
    exact z_retz hx hb hr hlocks hP hD hS () [] rfl (by decide) dX12_isIn_18 (by decide +kernel) (Or.inr ⟨rfl, Or.inl (by have h7 := Int.not_le.mp (fun h8 => (z_lge (K := 0) (by decide +kernel)).mpr h8 c_1); rw [z_i2l] at h7; exact h7)⟩)
  · have b_3 := z_b4 c_1 (K := 0) (by decide +kernel)
    refine lv_lload_n hx hb dX12_isIn_6 rfl (lv_at hl 0 rfl) ?_
    refine lv_lload hx hb dX12_isIn_7 (lv_at hl 2 rfl) ?_
    refine W.lcmp hx hb dX12_isIn_9 ?_
    refine lv_if_gt (tgt := 17) hx hb dX12_isIn_10 (by decide) (fun c_4 => ?_) (fun c_4 => ?_)
    · have b_5 := z_b7 c_4 (K := 0) (by decide +kernel)
      refine lv_iconst (v := 0) hx hb dX12_isIn_17 (by decide) ?_
      exact z_retz hx hb hr hlocks hP hD hS () [] rfl (by decide) dX12_isIn_18 (by decide +kernel) (Or.inr ⟨rfl, Or.inr (by have h7 := Int.not_le.mp (fun h8 => (z_lle (K := 3) (by decide +kernel)).mpr h8 c_4); rw [z_i2l] at h7; exact h7)⟩)
    · have b_6 := z_b8 c_4 (K := 0) (by decide +kernel)
      refine lv_iconst (v := 1) hx hb dX12_isIn_13 (by decide) ?_
      refine lv_goto (tgt := 18) hx hb dX12_isIn_14 (by decide) ?_
      exact z_retz hx hb hr hlocks hP hD hS () [] rfl (by decide) dX12_isIn_18 (by decide +kernel) (Or.inl ⟨rfl, by have h7 := (z_lge (K := 0) (by decide +kernel)).mp c_1; rw [z_i2l] at h7; exact h7, by have h7 := (z_lle (K := 3) (by decide +kernel)).mp c_4; rw [z_i2l] at h7; exact h7⟩)
set_option maxHeartbeats 4000000 in
set_option maxRecDepth 100000 in
theorem c_M_isIn_6 (l : Launch) (G : va_G) (cA : Nat → ClassId) (x : Int32) : zCi l yX12_isIn cX12_isIn 6 (some .boolean) ({ frames := 0, cells := 0, slots := 0, locals := 0 }) G cA [.long ((x).toInt64), .long 0, .long 6] [] (S := Unit) (fun (r : Int32) (u : Unit) => (r = 1 ∧ 0 ≤ x.toInt ∧ x.toInt ≤ 6) ∨ (r = 0 ∧ (x.toInt < 0 ∨ 6 < x.toInt))) (fun (u : Unit) => []) 0 0 := by
  refine z_starti (own := RX12) (by decide) (Nat.le_of_ble_eq_true rfl) rfl ?_
  intro p e s m below meth c A ls hx hb hr hlocks hml hts hown hin hK hE hP hD hS hA hl
  have hl : lv_has ls 6 [(0, .long ((x).toInt64)), (2, .long 0), (4, .long 6)] := hl
  refine lv_lload_n hx hb dX12_isIn_0 rfl (lv_at hl 0 rfl) ?_
  refine lv_lload_n hx hb dX12_isIn_1 rfl (lv_at hl 1 rfl) ?_
  refine W.lcmp hx hb dX12_isIn_2 ?_
  refine lv_if_lt (tgt := 17) hx hb dX12_isIn_3 (by decide) (fun c_1 => ?_) (fun c_1 => ?_)
  · have b_2 := z_b3 c_1 (K := 0) (by decide +kernel)
    refine lv_iconst (v := 0) hx hb dX12_isIn_17 (by decide) ?_
    exact z_retz hx hb hr hlocks hP hD hS () [] rfl (by decide) dX12_isIn_18 (by decide +kernel) (Or.inr ⟨rfl, Or.inl (by have h7 := Int.not_le.mp (fun h8 => (z_lge (K := 0) (by decide +kernel)).mpr h8 c_1); rw [z_i2l] at h7; exact h7)⟩)
  · have b_3 := z_b4 c_1 (K := 0) (by decide +kernel)
    refine lv_lload_n hx hb dX12_isIn_6 rfl (lv_at hl 0 rfl) ?_
    refine lv_lload hx hb dX12_isIn_7 (lv_at hl 2 rfl) ?_
    refine W.lcmp hx hb dX12_isIn_9 ?_
    refine lv_if_gt (tgt := 17) hx hb dX12_isIn_10 (by decide) (fun c_4 => ?_) (fun c_4 => ?_)
    · have b_5 := z_b7 c_4 (K := 0) (by decide +kernel)
      refine lv_iconst (v := 0) hx hb dX12_isIn_17 (by decide) ?_
      exact z_retz hx hb hr hlocks hP hD hS () [] rfl (by decide) dX12_isIn_18 (by decide +kernel) (Or.inr ⟨rfl, Or.inr (by have h7 := Int.not_le.mp (fun h8 => (z_lle (K := 6) (by decide +kernel)).mpr h8 c_4); rw [z_i2l] at h7; exact h7)⟩)
    · have b_6 := z_b8 c_4 (K := 0) (by decide +kernel)
      refine lv_iconst (v := 1) hx hb dX12_isIn_13 (by decide) ?_
      refine lv_goto (tgt := 18) hx hb dX12_isIn_14 (by decide) ?_
      exact z_retz hx hb hr hlocks hP hD hS () [] rfl (by decide) dX12_isIn_18 (by decide +kernel) (Or.inl ⟨rfl, by have h7 := (z_lge (K := 0) (by decide +kernel)).mp c_1; rw [z_i2l] at h7; exact h7, by have h7 := (z_lle (K := 6) (by decide +kernel)).mp c_4; rw [z_i2l] at h7; exact h7⟩)
set_option maxHeartbeats 4000000 in
set_option maxRecDepth 100000 in
theorem c_M_isIn_10 (l : Launch) (G : va_G) (cA : Nat → ClassId) (x : Int32) : zCi l yX12_isIn cX12_isIn 6 (some .boolean) ({ frames := 0, cells := 0, slots := 0, locals := 0 }) G cA [.long ((x).toInt64), .long 0, .long 10] [] (S := Unit) (fun (r : Int32) (u : Unit) => (r = 1 ∧ 0 ≤ x.toInt ∧ x.toInt ≤ 10) ∨ (r = 0 ∧ (x.toInt < 0 ∨ 10 < x.toInt))) (fun (u : Unit) => []) 0 0 := by
  refine z_starti (own := RX12) (by decide) (Nat.le_of_ble_eq_true rfl) rfl ?_
  intro p e s m below meth c A ls hx hb hr hlocks hml hts hown hin hK hE hP hD hS hA hl
  have hl : lv_has ls 6 [(0, .long ((x).toInt64)), (2, .long 0), (4, .long 10)] := hl
  refine lv_lload_n hx hb dX12_isIn_0 rfl (lv_at hl 0 rfl) ?_
  refine lv_lload_n hx hb dX12_isIn_1 rfl (lv_at hl 1 rfl) ?_
  refine W.lcmp hx hb dX12_isIn_2 ?_
  refine lv_if_lt (tgt := 17) hx hb dX12_isIn_3 (by decide) (fun c_1 => ?_) (fun c_1 => ?_)
  · have b_2 := z_b3 c_1 (K := 0) (by decide +kernel)
    refine lv_iconst (v := 0) hx hb dX12_isIn_17 (by decide) ?_
    exact z_retz hx hb hr hlocks hP hD hS () [] rfl (by decide) dX12_isIn_18 (by decide +kernel) (Or.inr ⟨rfl, Or.inl (by have h7 := Int.not_le.mp (fun h8 => (z_lge (K := 0) (by decide +kernel)).mpr h8 c_1); rw [z_i2l] at h7; exact h7)⟩)
  · have b_3 := z_b4 c_1 (K := 0) (by decide +kernel)
    refine lv_lload_n hx hb dX12_isIn_6 rfl (lv_at hl 0 rfl) ?_
    refine lv_lload hx hb dX12_isIn_7 (lv_at hl 2 rfl) ?_
    refine W.lcmp hx hb dX12_isIn_9 ?_
    refine lv_if_gt (tgt := 17) hx hb dX12_isIn_10 (by decide) (fun c_4 => ?_) (fun c_4 => ?_)
    · have b_5 := z_b7 c_4 (K := 0) (by decide +kernel)
      refine lv_iconst (v := 0) hx hb dX12_isIn_17 (by decide) ?_
      exact z_retz hx hb hr hlocks hP hD hS () [] rfl (by decide) dX12_isIn_18 (by decide +kernel) (Or.inr ⟨rfl, Or.inr (by have h7 := Int.not_le.mp (fun h8 => (z_lle (K := 10) (by decide +kernel)).mpr h8 c_4); rw [z_i2l] at h7; exact h7)⟩)
    · have b_6 := z_b8 c_4 (K := 0) (by decide +kernel)
      refine lv_iconst (v := 1) hx hb dX12_isIn_13 (by decide) ?_
      refine lv_goto (tgt := 18) hx hb dX12_isIn_14 (by decide) ?_
      exact z_retz hx hb hr hlocks hP hD hS () [] rfl (by decide) dX12_isIn_18 (by decide +kernel) (Or.inl ⟨rfl, by have h7 := (z_lge (K := 0) (by decide +kernel)).mp c_1; rw [z_i2l] at h7; exact h7, by have h7 := (z_lle (K := 10) (by decide +kernel)).mp c_4; rw [z_i2l] at h7; exact h7⟩)
set_option maxHeartbeats 4000000 in
set_option maxRecDepth 100000 in
theorem c_M_isFeature (l : Launch) (G : va_G) (cA : Nat → ClassId) (h0 : Nat) (k : Int32) (cf : Nat → Int32) (m4 : Value) (m5 : Value) (m6 : Value) (m7 : Value) (ca : Nat) (m21 : Value) (m23 : Value) (m24 : Value) (m25 : Value) (m26 : Value) (m35 : Value) (m36 : Value) (m51 : Value) (m52 : Value) (m53 : Value) (m57 : Value) (m58 : Value) (m62 : Value) (hc : zFr cf) : zCi l yX12_isFeature cX12_isFeature 2 (some .boolean) ({ frames := 1, cells := 0, slots := 0, locals := 25 }) G cA [.ref h0, .int k] [(h0, .inr (12, [.int 0, .int 0, .long 0, .long 1, m4, m5, m6, m7, .int 0, .int 0, .int (-1), .int (-1), .int 0, .int 0, .int 0, .int 0, .int 0, .int 0, .int 0, .long 0, .ref ca, m21, .int 0, m23, m24, m25, m26, .int 0, .int 0, .int 0, .int 0, .int 0, .int 0, .long 0, .long 0, m35, m36, .int 0, .int 0, .int 0, .int 0, .int 0, .int 0, .int 0, .int 0, .int 0, .int 0, .int 0, .int 0, .int 0, .int 0, m51, m52, m53, .int 0, .int 0, .int 0, m57, m58, .int 0, .long 0, .long 0, m62, .int 0, .int 0])), (ca, .inl (cA 0, 1825, .inl cf))] (S := Unit) (fun (r : Int32) (u : Unit) => r = 0) (fun (u : Unit) => [(h0, .inr (12, [.int 0, .int 0, .long 0, .long 1, m4, m5, m6, m7, .int 0, .int 0, .int (-1), .int (-1), .int 0, .int 0, .int 0, .int 0, .int 0, .int 0, .int 0, .long 0, .ref ca, m21, .int 0, m23, m24, m25, m26, .int 0, .int 0, .int 0, .int 0, .int 0, .int 0, .long 0, .long 0, m35, m36, .int 0, .int 0, .int 0, .int 0, .int 0, .int 0, .int 0, .int 0, .int 0, .int 0, .int 0, .int 0, .int 0, .int 0, m51, m52, m53, .int 0, .int 0, .int 0, m57, m58, .int 0, .long 0, .long 0, m62, .int 0, .int 0])), (ca, .inl (cA 0, 1825, .inl cf))]) 0 0 := by
  refine z_starti (own := RX12) (by decide) (Nat.le_of_ble_eq_true rfl) rfl ?_
  intro p e s m below meth c A ls hx hb hr hlocks hml hts hown hin hK hE hP hD hS hA hl
  have hl : lv_has ls 2 [(0, .ref h0), (1, .int k)] := hl
  refine lv_iload_n hx hb dX12_isFeature_0 rfl (lv_at hl 1 rfl) ?_
  refine lv_i2l (v := (k).toInt64) hx hb dX12_isFeature_1 rfl ?_
  refine lv_lconst (v := 0) hx hb dX12_isFeature_2 (by decide) ?_
  refine lv_aload_n hx hb dX12_isFeature_3 rfl (lv_at hl 0 rfl) ?_
  refine va_get (D := G) (ci := 12) (v := .ref ca) (C := RX12) (T := TX12) (N := 65) hx hb hts inT12 hown hK hP 0 rfl rfl 20 (by decide) (hts _ tw_1905) (fun _ h9 => h9) rfl dX12_isFeature_4 ?_
  refine lv_iconst (v := 0) hx hb dX12_isFeature_7 (by decide) ?_
  refine va_iald hx hb hK hP 1 0 rfl rfl (z_in (i := 0) (n := 1825) (by decide +kernel) (by decide +kernel)) dX12_isFeature_8 ?_
  refine z_topi (y := 0) (z_fr0 hc) ?_
  refine lv_iconst (v := 1) hx hb dX12_isFeature_9 (by decide) ?_
  refine lv_isub hx hb dX12_isFeature_10 ?_
  refine z_topi (y := (-1)) (by decide +kernel) ?_
  refine lv_i2l (v := (-1)) hx hb dX12_isFeature_11 (by decide +kernel) ?_
  refine z_callSi (As := [.long ((k).toInt64), .long 0, .long (-1)]) (rest := []) (wr := [(h0, .inr (12, [.int 0, .int 0, .long 0, .long 1, m4, m5, m6, m7, .int 0, .int 0, .int (-1), .int (-1), .int 0, .int 0, .int 0, .int 0, .int 0, .int 0, .int 0, .long 0, .ref ca, m21, .int 0, m23, m24, m25, m26, .int 0, .int 0, .int 0, .int 0, .int 0, .int 0, .long 0, .long 0, m35, m36, .int 0, .int 0, .int 0, .int 0, .int 0, .int 0, .int 0, .int 0, .int 0, .int 0, .int 0, .int 0, .int 0, .int 0, m51, m52, m53, .int 0, .int 0, .int 0, m57, m58, .int 0, .long 0, .long 0, m62, .int 0, .int 0])), (ca, .inl (cA 0, 1825, .inl cf))]) ⟨hx, hb, hml, hown, hts⟩ hK hE hP hD hS hA (c_M_isIn_m1 l G cA ((k).toInt64)) lk_RX12_117 ⟨rfl, rfl⟩ ⟨Nat.le_of_ble_eq_true rfl, Nat.le_of_ble_eq_true rfl⟩ [] [0, 1] rfl rfl (by decide) rfl hl.1 rfl (lv_room (Nat.le_of_ble_eq_true rfl)) dX12_isFeature_12 ⟨Nat.le_of_ble_eq_true rfl, Nat.le_of_ble_eq_true rfl⟩ (fun r_1 u_2 H locs hw hP hD hS => ?_)
  have hP : va_P G vwCl [(h0, .inr (12, [.int 0, .int 0, .long 0, .long 1, m4, m5, m6, m7, .int 0, .int 0, .int (-1), .int (-1), .int 0, .int 0, .int 0, .int 0, .int 0, .int 0, .int 0, .long 0, .ref ca, m21, .int 0, m23, m24, m25, m26, .int 0, .int 0, .int 0, .int 0, .int 0, .int 0, .long 0, .long 0, m35, m36, .int 0, .int 0, .int 0, .int 0, .int 0, .int 0, .int 0, .int 0, .int 0, .int 0, .int 0, .int 0, .int 0, .int 0, m51, m52, m53, .int 0, .int 0, .int 0, m57, m58, .int 0, .long 0, .long 0, m62, .int 0, .int 0])), (ca, .inl (cA 0, 1825, .inl cf))] H := hP
  have hD : va_D A [(h0, .inr (12, [.int 0, .int 0, .long 0, .long 1, m4, m5, m6, m7, .int 0, .int 0, .int (-1), .int (-1), .int 0, .int 0, .int 0, .int 0, .int 0, .int 0, .int 0, .long 0, .ref ca, m21, .int 0, m23, m24, m25, m26, .int 0, .int 0, .int 0, .int 0, .int 0, .int 0, .long 0, .long 0, m35, m36, .int 0, .int 0, .int 0, .int 0, .int 0, .int 0, .int 0, .int 0, .int 0, .int 0, .int 0, .int 0, .int 0, .int 0, m51, m52, m53, .int 0, .int 0, .int 0, m57, m58, .int 0, .long 0, .long 0, m62, .int 0, .int 0])), (ca, .inl (cA 0, 1825, .inl cf))] := hD
  obtain rfl : r_1 = 0 := hw
  exact z_retz hx hb hr hlocks hP hD hS () [0, 1] rfl (by decide) dX12_isFeature_15 (by decide +kernel) rfl
set_option maxHeartbeats 4000000 in
set_option maxRecDepth 100000 in
theorem c_M_isKey (l : Launch) (G : va_G) (cA : Nat → ClassId) (h0 : Nat) (k : Int64) (cf : Nat → Int32) (m4 : Value) (m5 : Value) (m6 : Value) (m7 : Value) (ca : Nat) (m21 : Value) (m23 : Value) (m24 : Value) (m25 : Value) (m26 : Value) (m35 : Value) (m36 : Value) (m51 : Value) (m52 : Value) (m53 : Value) (m57 : Value) (m58 : Value) (m62 : Value) (hc : zFr cf) : zCi l yX12_isKey cX12_isKey 3 (some .boolean) ({ frames := 1, cells := 0, slots := 0, locals := 25 }) G cA [.ref h0, .long k] [(h0, .inr (12, [.int 0, .int 0, .long 0, .long 1, m4, m5, m6, m7, .int 0, .int 0, .int (-1), .int (-1), .int 0, .int 0, .int 0, .int 0, .int 0, .int 0, .int 0, .long 0, .ref ca, m21, .int 0, m23, m24, m25, m26, .int 0, .int 0, .int 0, .int 0, .int 0, .int 0, .long 0, .long 0, m35, m36, .int 0, .int 0, .int 0, .int 0, .int 0, .int 0, .int 0, .int 0, .int 0, .int 0, .int 0, .int 0, .int 0, .int 0, m51, m52, m53, .int 0, .int 0, .int 0, m57, m58, .int 0, .long 0, .long 0, m62, .int 0, .int 0])), (ca, .inl (cA 0, 1825, .inl cf))] (S := Unit) (fun (r : Int32) (u : Unit) => r = 0) (fun (u : Unit) => [(h0, .inr (12, [.int 0, .int 0, .long 0, .long 1, m4, m5, m6, m7, .int 0, .int 0, .int (-1), .int (-1), .int 0, .int 0, .int 0, .int 0, .int 0, .int 0, .int 0, .long 0, .ref ca, m21, .int 0, m23, m24, m25, m26, .int 0, .int 0, .int 0, .int 0, .int 0, .int 0, .long 0, .long 0, m35, m36, .int 0, .int 0, .int 0, .int 0, .int 0, .int 0, .int 0, .int 0, .int 0, .int 0, .int 0, .int 0, .int 0, .int 0, m51, m52, m53, .int 0, .int 0, .int 0, m57, m58, .int 0, .long 0, .long 0, m62, .int 0, .int 0])), (ca, .inl (cA 0, 1825, .inl cf))]) 0 0 := by
  refine z_starti (own := RX12) (by decide) (Nat.le_of_ble_eq_true rfl) rfl ?_
  intro p e s m below meth c A ls hx hb hr hlocks hml hts hown hin hK hE hP hD hS hA hl
  have hl : lv_has ls 3 [(0, .ref h0), (1, .long k)] := hl
  refine lv_lload_n hx hb dX12_isKey_0 rfl (lv_at hl 1 rfl) ?_
  refine lv_lconst (v := 0) hx hb dX12_isKey_1 (by decide) ?_
  refine lv_aload_n hx hb dX12_isKey_2 rfl (lv_at hl 0 rfl) ?_
  refine va_get (D := G) (ci := 12) (v := .ref ca) (C := RX12) (T := TX12) (N := 65) hx hb hts inT12 hown hK hP 0 rfl rfl 20 (by decide) (hts _ tw_1905) (fun _ h9 => h9) rfl dX12_isKey_3 ?_
  refine lv_iconst (v := 1) hx hb dX12_isKey_6 (by decide) ?_
  refine va_iald hx hb hK hP 1 0 rfl rfl (z_in (i := 1) (n := 1825) (by decide +kernel) (by decide +kernel)) dX12_isKey_7 ?_
  refine z_topi (y := 0) (z_fr1 hc) ?_
  refine lv_iconst (v := 1) hx hb dX12_isKey_8 (by decide) ?_
  refine lv_isub hx hb dX12_isKey_9 ?_
  refine z_topi (y := (-1)) (by decide +kernel) ?_
  refine lv_i2l (v := (-1)) hx hb dX12_isKey_10 (by decide +kernel) ?_
  refine z_callSi (As := [.long k, .long 0, .long (-1)]) (rest := []) (wr := [(h0, .inr (12, [.int 0, .int 0, .long 0, .long 1, m4, m5, m6, m7, .int 0, .int 0, .int (-1), .int (-1), .int 0, .int 0, .int 0, .int 0, .int 0, .int 0, .int 0, .long 0, .ref ca, m21, .int 0, m23, m24, m25, m26, .int 0, .int 0, .int 0, .int 0, .int 0, .int 0, .long 0, .long 0, m35, m36, .int 0, .int 0, .int 0, .int 0, .int 0, .int 0, .int 0, .int 0, .int 0, .int 0, .int 0, .int 0, .int 0, .int 0, m51, m52, m53, .int 0, .int 0, .int 0, m57, m58, .int 0, .long 0, .long 0, m62, .int 0, .int 0])), (ca, .inl (cA 0, 1825, .inl cf))]) ⟨hx, hb, hml, hown, hts⟩ hK hE hP hD hS hA (c_M_isIn_m1 l G cA k) lk_RX12_117 ⟨rfl, rfl⟩ ⟨Nat.le_of_ble_eq_true rfl, Nat.le_of_ble_eq_true rfl⟩ [] [0, 1] rfl rfl (by decide) rfl hl.1 rfl (lv_room (Nat.le_of_ble_eq_true rfl)) dX12_isKey_11 ⟨Nat.le_of_ble_eq_true rfl, Nat.le_of_ble_eq_true rfl⟩ (fun r_1 u_2 H locs hw hP hD hS => ?_)
  have hP : va_P G vwCl [(h0, .inr (12, [.int 0, .int 0, .long 0, .long 1, m4, m5, m6, m7, .int 0, .int 0, .int (-1), .int (-1), .int 0, .int 0, .int 0, .int 0, .int 0, .int 0, .int 0, .long 0, .ref ca, m21, .int 0, m23, m24, m25, m26, .int 0, .int 0, .int 0, .int 0, .int 0, .int 0, .long 0, .long 0, m35, m36, .int 0, .int 0, .int 0, .int 0, .int 0, .int 0, .int 0, .int 0, .int 0, .int 0, .int 0, .int 0, .int 0, .int 0, m51, m52, m53, .int 0, .int 0, .int 0, m57, m58, .int 0, .long 0, .long 0, m62, .int 0, .int 0])), (ca, .inl (cA 0, 1825, .inl cf))] H := hP
  have hD : va_D A [(h0, .inr (12, [.int 0, .int 0, .long 0, .long 1, m4, m5, m6, m7, .int 0, .int 0, .int (-1), .int (-1), .int 0, .int 0, .int 0, .int 0, .int 0, .int 0, .int 0, .long 0, .ref ca, m21, .int 0, m23, m24, m25, m26, .int 0, .int 0, .int 0, .int 0, .int 0, .int 0, .long 0, .long 0, m35, m36, .int 0, .int 0, .int 0, .int 0, .int 0, .int 0, .int 0, .int 0, .int 0, .int 0, .int 0, .int 0, .int 0, .int 0, m51, m52, m53, .int 0, .int 0, .int 0, m57, m58, .int 0, .long 0, .long 0, m62, .int 0, .int 0])), (ca, .inl (cA 0, 1825, .inl cf))] := hD
  obtain rfl : r_1 = 0 := hw
  exact z_retz hx hb hr hlocks hP hD hS () [0, 1] rfl (by decide) dX12_isKey_14 (by decide +kernel) rfl
set_option maxHeartbeats 4000000 in
set_option maxRecDepth 100000 in
theorem c_M_isRing (l : Launch) (G : va_G) (cA : Nat → ClassId) (h0 : Nat) (k : Int32) (cf : Nat → Int32) (m4 : Value) (m5 : Value) (m6 : Value) (m7 : Value) (ca : Nat) (m21 : Value) (m23 : Value) (m24 : Value) (m25 : Value) (m26 : Value) (m35 : Value) (m36 : Value) (m51 : Value) (m52 : Value) (m53 : Value) (m57 : Value) (m58 : Value) (m62 : Value) (hc : zFr cf) : zCi l yX12_isRing cX12_isRing 2 (some .boolean) ({ frames := 1, cells := 0, slots := 0, locals := 25 }) G cA [.ref h0, .int k] [(h0, .inr (12, [.int 0, .int 0, .long 0, .long 1, m4, m5, m6, m7, .int 0, .int 0, .int (-1), .int (-1), .int 0, .int 0, .int 0, .int 0, .int 0, .int 0, .int 0, .long 0, .ref ca, m21, .int 0, m23, m24, m25, m26, .int 0, .int 0, .int 0, .int 0, .int 0, .int 0, .long 0, .long 0, m35, m36, .int 0, .int 0, .int 0, .int 0, .int 0, .int 0, .int 0, .int 0, .int 0, .int 0, .int 0, .int 0, .int 0, .int 0, m51, m52, m53, .int 0, .int 0, .int 0, m57, m58, .int 0, .long 0, .long 0, m62, .int 0, .int 0])), (ca, .inl (cA 0, 1825, .inl cf))] (S := Unit) (fun (r : Int32) (u : Unit) => r = 0) (fun (u : Unit) => [(h0, .inr (12, [.int 0, .int 0, .long 0, .long 1, m4, m5, m6, m7, .int 0, .int 0, .int (-1), .int (-1), .int 0, .int 0, .int 0, .int 0, .int 0, .int 0, .int 0, .long 0, .ref ca, m21, .int 0, m23, m24, m25, m26, .int 0, .int 0, .int 0, .int 0, .int 0, .int 0, .long 0, .long 0, m35, m36, .int 0, .int 0, .int 0, .int 0, .int 0, .int 0, .int 0, .int 0, .int 0, .int 0, .int 0, .int 0, .int 0, .int 0, m51, m52, m53, .int 0, .int 0, .int 0, m57, m58, .int 0, .long 0, .long 0, m62, .int 0, .int 0])), (ca, .inl (cA 0, 1825, .inl cf))]) 0 0 := by
  refine z_starti (own := RX12) (by decide) (Nat.le_of_ble_eq_true rfl) rfl ?_
  intro p e s m below meth c A ls hx hb hr hlocks hml hts hown hin hK hE hP hD hS hA hl
  have hl : lv_has ls 2 [(0, .ref h0), (1, .int k)] := hl
  refine lv_iload_n hx hb dX12_isRing_0 rfl (lv_at hl 1 rfl) ?_
  refine lv_i2l (v := (k).toInt64) hx hb dX12_isRing_1 rfl ?_
  refine lv_lconst (v := 0) hx hb dX12_isRing_2 (by decide) ?_
  refine lv_aload_n hx hb dX12_isRing_3 rfl (lv_at hl 0 rfl) ?_
  refine va_get (D := G) (ci := 12) (v := .ref ca) (C := RX12) (T := TX12) (N := 65) hx hb hts inT12 hown hK hP 0 rfl rfl 20 (by decide) (hts _ tw_1905) (fun _ h9 => h9) rfl dX12_isRing_4 ?_
  refine lv_iconst (v := 2) hx hb dX12_isRing_7 (by decide) ?_
  refine va_iald hx hb hK hP 1 0 rfl rfl (z_in (i := 2) (n := 1825) (by decide +kernel) (by decide +kernel)) dX12_isRing_8 ?_
  refine z_topi (y := 0) (z_fr2 hc) ?_
  refine lv_iconst (v := 1) hx hb dX12_isRing_9 (by decide) ?_
  refine lv_isub hx hb dX12_isRing_10 ?_
  refine z_topi (y := (-1)) (by decide +kernel) ?_
  refine lv_i2l (v := (-1)) hx hb dX12_isRing_11 (by decide +kernel) ?_
  refine z_callSi (As := [.long ((k).toInt64), .long 0, .long (-1)]) (rest := []) (wr := [(h0, .inr (12, [.int 0, .int 0, .long 0, .long 1, m4, m5, m6, m7, .int 0, .int 0, .int (-1), .int (-1), .int 0, .int 0, .int 0, .int 0, .int 0, .int 0, .int 0, .long 0, .ref ca, m21, .int 0, m23, m24, m25, m26, .int 0, .int 0, .int 0, .int 0, .int 0, .int 0, .long 0, .long 0, m35, m36, .int 0, .int 0, .int 0, .int 0, .int 0, .int 0, .int 0, .int 0, .int 0, .int 0, .int 0, .int 0, .int 0, .int 0, m51, m52, m53, .int 0, .int 0, .int 0, m57, m58, .int 0, .long 0, .long 0, m62, .int 0, .int 0])), (ca, .inl (cA 0, 1825, .inl cf))]) ⟨hx, hb, hml, hown, hts⟩ hK hE hP hD hS hA (c_M_isIn_m1 l G cA ((k).toInt64)) lk_RX12_117 ⟨rfl, rfl⟩ ⟨Nat.le_of_ble_eq_true rfl, Nat.le_of_ble_eq_true rfl⟩ [] [0, 1] rfl rfl (by decide) rfl hl.1 rfl (lv_room (Nat.le_of_ble_eq_true rfl)) dX12_isRing_12 ⟨Nat.le_of_ble_eq_true rfl, Nat.le_of_ble_eq_true rfl⟩ (fun r_1 u_2 H locs hw hP hD hS => ?_)
  have hP : va_P G vwCl [(h0, .inr (12, [.int 0, .int 0, .long 0, .long 1, m4, m5, m6, m7, .int 0, .int 0, .int (-1), .int (-1), .int 0, .int 0, .int 0, .int 0, .int 0, .int 0, .int 0, .long 0, .ref ca, m21, .int 0, m23, m24, m25, m26, .int 0, .int 0, .int 0, .int 0, .int 0, .int 0, .long 0, .long 0, m35, m36, .int 0, .int 0, .int 0, .int 0, .int 0, .int 0, .int 0, .int 0, .int 0, .int 0, .int 0, .int 0, .int 0, .int 0, m51, m52, m53, .int 0, .int 0, .int 0, m57, m58, .int 0, .long 0, .long 0, m62, .int 0, .int 0])), (ca, .inl (cA 0, 1825, .inl cf))] H := hP
  have hD : va_D A [(h0, .inr (12, [.int 0, .int 0, .long 0, .long 1, m4, m5, m6, m7, .int 0, .int 0, .int (-1), .int (-1), .int 0, .int 0, .int 0, .int 0, .int 0, .int 0, .int 0, .long 0, .ref ca, m21, .int 0, m23, m24, m25, m26, .int 0, .int 0, .int 0, .int 0, .int 0, .int 0, .long 0, .long 0, m35, m36, .int 0, .int 0, .int 0, .int 0, .int 0, .int 0, .int 0, .int 0, .int 0, .int 0, .int 0, .int 0, .int 0, .int 0, m51, m52, m53, .int 0, .int 0, .int 0, m57, m58, .int 0, .long 0, .long 0, m62, .int 0, .int 0])), (ca, .inl (cA 0, 1825, .inl cf))] := hD
  obtain rfl : r_1 = 0 := hw
  exact z_retz hx hb hr hlocks hP hD hS () [0, 1] rfl (by decide) dX12_isRing_15 (by decide +kernel) rfl
