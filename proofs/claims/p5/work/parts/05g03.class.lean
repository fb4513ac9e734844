set_option maxHeartbeats 4000000 in
set_option maxRecDepth 100000 in
theorem d_St_charAt (l : Launch) (G : va_G) (cA : zCA) (i : Nat) (j : Int32) (hi_i : i < 42) (hj0 : 0 ≤ j.toInt) (hj1 : j.toInt < ((zlb i).length : Int)) : zCi l yJ0_charAt_5068e cJ0_charAt_5068e 2 (some .char) ({ frames := 3, cells := 0, slots := 0, locals := 64 }) G cA [.ref (cA.2.1 i), .int j] [] (S := Unit) (fun (r : Int32) (u : Unit) => True) (fun (u : Unit) => []) 0 0 := by
  refine z_start2c (own := RJ0) (by decide) (Nat.le_of_ble_eq_true rfl) rfl ?_
  intro p e s m args below meth c A ls Q hx hb hml hts hown hK hE hT hP hD hS hA hl hret
  have hl : lv_has ls 2 [(0, .ref (cA.2.1 i)), (1, .int j)] := hl
  refine lv_aload_n hx hb dJ0_charAt_5068e_0 rfl (lv_at hl 0 rfl) ?_
  refine z_callWi (As := []) (rest := []) (wr := []) ⟨hx, hb, hml, hown, hts⟩ hK hE hT hP hD hS hA (d_St_isLatin1 l G cA i hi_i) lk_RJ0_492 ⟨rfl, rfl⟩ ⟨Nat.le_of_ble_eq_true rfl, Nat.le_of_ble_eq_true rfl⟩ (z_rc hT hi_i hS) [] [] rfl rfl (by decide) rfl hl.1 rfl (lv_room (Nat.le_of_ble_eq_true rfl)) dJ0_charAt_5068e_1 ⟨Nat.le_of_ble_eq_true rfl, Nat.le_of_ble_eq_true rfl⟩ (fun r_1 u_2 H locs hw hP hD hS => ?_)
  have hP : va_P G vwCl [] H := hP
  have hD : va_D A [] := hD
  obtain rfl : r_1 = 1 := hw.1
  refine lv_if_eq (tgt := 16) hx hb dJ0_charAt_5068e_4 (by decide) (fun h9 => absurd h9 (by decide +kernel)) (fun _ => ?_)
  refine lv_aload_n hx hb dJ0_charAt_5068e_7 rfl (lv_at hl 0 rfl) ?_
  refine vk_getf hx hb (hT.1 i hi_i).2.2.2.1 hS hown (hts _ tw_2742) (fun _ h9 => h9) dJ0_charAt_5068e_8 ?_
  refine lv_iload_n hx hb dJ0_charAt_5068e_11 rfl (lv_at hl 1 rfl) ?_
  refine z_callSi (As := [.ref (cA.2.2 i), .int j]) (rest := []) (wr := []) ⟨hx, hb, hml, hown, hts⟩ hK hE hT hP hD hS hA (d_SL_charAt l G cA i j hi_i (by omega) (by omega)) lk_RJ0_495 ⟨rfl, rfl⟩ ⟨Nat.le_of_ble_eq_true rfl, Nat.le_of_ble_eq_true rfl⟩ [] [] rfl rfl (by decide) rfl hl.1 rfl (lv_room (Nat.le_of_ble_eq_true rfl)) dJ0_charAt_5068e_12 ⟨Nat.le_of_ble_eq_true rfl, Nat.le_of_ble_eq_true rfl⟩ (fun r_3 u_4 H locs hw hP hD hS => ?_)
  have hP : va_P G vwCl [] H := hP
  have hD : va_D A [] := hD
  exact hret _ _ _ _ _ _ () [] hP hD hS rfl (by decide) dJ0_charAt_5068e_15 hc_r_3 trivial
set_option maxHeartbeats 4000000 in
set_option maxRecDepth 100000 in
theorem d_fill_i (l : Launch) (G : va_G) (cA : zCA) (a : Nat) (c_a : Nat → Int32) (i1 : Int32) : zCv l yJ7_fill_53178 cJ7_fill_53178 4 none ({ frames := 0, cells := 0, slots := 0, locals := 0 }) G cA [.ref a, .int i1] [(a, .inl (cA.1 0, 3, .inl c_a))] (S := (Nat → Int32)) (fun (u : (Nat → Int32)) => True) (fun (u : (Nat → Int32)) => [(a, .inl (cA.1 0, 3, .inl u))]) 0 0 := by
  refine z_start2v (own := RJ7) (by decide) (Nat.le_of_ble_eq_true rfl) rfl ?_
  intro p e s m args below meth c A ls Q hx hb hml hts hown hK hE hT hP hD hS hA hl hret
  have hl : lv_has ls 4 [(0, .ref a), (1, .int i1)] := hl
  refine lv_iconst (v := 0) hx hb dJ7_fill_53178_0 (by decide) ?_
  refine lv_istore_n (lv' := [(2, .int 0), (0, .ref a), (1, .int i1)]) hx hb dJ7_fill_53178_1 rfl hl (by decide) rfl (fun ls hl => ?_)
  refine lv_aload_n hx hb dJ7_fill_53178_2 rfl (lv_at hl 1 rfl) ?_
  refine va_alen (v := 3) hx hb hK hP 0 0 rfl rfl (show Int32.ofNat 3 = 3 by decide +kernel) dJ7_fill_53178_3 ?_
  refine lv_istore_n (lv' := [(3, .int 3), (2, .int 0), (0, .ref a), (1, .int i1)]) hx hb dJ7_fill_53178_4 rfl hl (by decide) rfl (fun ls hl => ?_)
  have hlp_10 : ∀ (n : Nat) (v_8 : Int32) (g_9 : Nat → Int32) (H : Heap) (locs : List Loc) (ls : Array Slot), (2147483647 - v_8.toInt).toNat < n → (0 ≤ v_8.toInt) → va_P G vwCl [(a, .inl (cA.1 0, 3, .inl g_9))] H → va_D A [(a, .inl (cA.1 0, 3, .inl g_9))] → va_S A s.heap H locs → lv_has ls 4 [(0, .ref a), (1, .int i1), (2, .int v_8), (3, .int 3)] → W p l e ({ frames := 0, cells := 0, slots := 0, locals := 0 }) s m args below meth c H locs 0 0 Q (F0 m 5 ls []) := by
    intro n
    induction n with
    | zero =>
      intro v_8 g_9 H locs ls hmu hi_11 hP hD hS hl
      exact absurd hmu (Nat.not_lt_zero _)
    | succ n ih_12 =>
      intro v_8 g_9 H locs ls hmu hi_11 hP hD hS hl
      refine lv_iload_n hx hb dJ7_fill_53178_5 rfl (lv_at hl 2 rfl) ?_
      refine lv_iload_n hx hb dJ7_fill_53178_6 rfl (lv_at hl 3 rfl) ?_
      refine lv_icmp_ge (tgt := 20) hx hb dJ7_fill_53178_7 (by decide) (fun c_13 => ?_) (fun c_13 => ?_)
      · have b_14 := z_b1 c_13 (K := 3) (by decide +kernel)
        exact hret _ _ _ _ _ g_9 [0] hP hD hS rfl (by decide) dJ7_fill_53178_20 trivial
      · have b_15 := z_b2 c_13 (K := 3) (by decide +kernel)
        refine lv_aload_n hx hb dJ7_fill_53178_10 rfl (lv_at hl 0 rfl) ?_
        refine lv_iload_n hx hb dJ7_fill_53178_11 rfl (lv_at hl 2 rfl) ?_
        refine lv_iload_n hx hb dJ7_fill_53178_12 rfl (lv_at hl 1 rfl) ?_
        refine va_iast hx hb hK hP hD hS 0 0 rfl rfl (z_inN (by omega) (by omega)) dJ7_fill_53178_13 (fun H locs hP hD hS => ?_)
        have hP : va_P G vwCl [(a, .inl (cA.1 0, 3, .inl (upd g_9 (v_8 : Int32).toNatClampNeg i1)))] H := hP
        have hD : va_D A [(a, .inl (cA.1 0, 3, .inl (upd g_9 (v_8 : Int32).toNatClampNeg i1)))] := hD
        generalize (upd g_9 (v_8 : Int32).toNatClampNeg i1) = g_16 at hP hD
        refine lv_iinc (v := (v_8 + 1)) (lv' := [(2, .int (v_8 + 1)), (0, .ref a), (1, .int i1), (3, .int 3)]) hx hb dJ7_fill_53178_14 hl (k := 2) rfl (z_ofi (by decide +kernel)) (by decide) rfl (fun ls hl => ?_)
        refine lv_goto (tgt := 5) hx hb dJ7_fill_53178_17 (by decide) ?_
        exact ih_12 (v_8 + 1) g_16 H locs ls (z_up hmu (by omega) (by omega)) (z_upc hi_11 (by omega) (by omega)) hP hD hS (lv_sub hl [1, 2, 0, 3] rfl)
  exact hlp_10 _ 0 c_a _ _ _ (Nat.lt_succ_self _) (by first | decide +kernel | omega) hP hD hS (lv_sub hl [2, 3, 1, 0] rfl)
set_option maxHeartbeats 4000000 in
set_option maxRecDepth 100000 in
theorem d_fill_l (l : Launch) (G : va_G) (cA : zCA) (a : Nat) (c_a : Nat → Int64) (l1 : Int64) : zCv l yJ7_fill_d0a16 cJ7_fill_d0a16 5 none ({ frames := 0, cells := 0, slots := 0, locals := 0 }) G cA [.ref a, .long l1] [(a, .inl (cA.1 1, 60, .inr (.inl c_a)))] (S := (Nat → Int64)) (fun (u : (Nat → Int64)) => True) (fun (u : (Nat → Int64)) => [(a, .inl (cA.1 1, 60, .inr (.inl u)))]) 0 0 := by
  refine z_start2v (own := RJ7) (by decide) (Nat.le_of_ble_eq_true rfl) rfl ?_
  intro p e s m args below meth c A ls Q hx hb hml hts hown hK hE hT hP hD hS hA hl hret
  have hl : lv_has ls 5 [(0, .ref a), (1, .long l1)] := hl
  refine lv_iconst (v := 0) hx hb dJ7_fill_d0a16_0 (by decide) ?_
  refine lv_istore_n (lv' := [(3, .int 0), (0, .ref a), (1, .long l1)]) hx hb dJ7_fill_d0a16_1 rfl hl (by decide) rfl (fun ls hl => ?_)
  refine lv_aload_n hx hb dJ7_fill_d0a16_2 rfl (lv_at hl 1 rfl) ?_
  refine va_alen (v := 60) hx hb hK hP 0 1 rfl rfl (show Int32.ofNat 60 = 60 by decide +kernel) dJ7_fill_d0a16_3 ?_
  refine lv_istore (lv' := [(4, .int 60), (3, .int 0), (0, .ref a), (1, .long l1)]) hx hb dJ7_fill_d0a16_4 hl (by decide) rfl (fun ls hl => ?_)
  have hlp_10 : ∀ (n : Nat) (v_8 : Int32) (g_9 : Nat → Int64) (H : Heap) (locs : List Loc) (ls : Array Slot), (2147483647 - v_8.toInt).toNat < n → (0 ≤ v_8.toInt) → va_P G vwCl [(a, .inl (cA.1 1, 60, .inr (.inl g_9)))] H → va_D A [(a, .inl (cA.1 1, 60, .inr (.inl g_9)))] → va_S A s.heap H locs → lv_has ls 5 [(0, .ref a), (1, .long l1), (3, .int v_8), (4, .int 60)] → W p l e ({ frames := 0, cells := 0, slots := 0, locals := 0 }) s m args below meth c H locs 0 0 Q (F0 m 6 ls []) := by
    intro n
    induction n with
    | zero =>
      intro v_8 g_9 H locs ls hmu hi_11 hP hD hS hl
      exact absurd hmu (Nat.not_lt_zero _)
    | succ n ih_12 =>
      intro v_8 g_9 H locs ls hmu hi_11 hP hD hS hl
      refine lv_iload_n hx hb dJ7_fill_d0a16_6 rfl (lv_at hl 2 rfl) ?_
      refine lv_iload hx hb dJ7_fill_d0a16_7 (lv_at hl 3 rfl) ?_
      refine lv_icmp_ge (tgt := 22) hx hb dJ7_fill_d0a16_9 (by decide) (fun c_13 => ?_) (fun c_13 => ?_)
      · have b_14 := z_b1 c_13 (K := 60) (by decide +kernel)
        exact hret _ _ _ _ _ g_9 [0] hP hD hS rfl (by decide) dJ7_fill_d0a16_22 trivial
      · have b_15 := z_b2 c_13 (K := 60) (by decide +kernel)
        refine lv_aload_n hx hb dJ7_fill_d0a16_12 rfl (lv_at hl 0 rfl) ?_
        refine lv_iload_n hx hb dJ7_fill_d0a16_13 rfl (lv_at hl 2 rfl) ?_
        refine lv_lload_n hx hb dJ7_fill_d0a16_14 rfl (lv_at hl 1 rfl) ?_
        refine va_last hx hb hK hP hD hS 0 1 rfl rfl (z_inN (by omega) (by omega)) dJ7_fill_d0a16_15 (fun H locs hP hD hS => ?_)
        have hP : va_P G vwCl [(a, .inl (cA.1 1, 60, .inr (.inl (vp_updL g_9 (v_8 : Int32).toNatClampNeg l1))))] H := hP
        have hD : va_D A [(a, .inl (cA.1 1, 60, .inr (.inl (vp_updL g_9 (v_8 : Int32).toNatClampNeg l1))))] := hD
        generalize (vp_updL g_9 (v_8 : Int32).toNatClampNeg l1) = g_16 at hP hD
        refine lv_iinc (v := (v_8 + 1)) (lv' := [(3, .int (v_8 + 1)), (0, .ref a), (1, .long l1), (4, .int 60)]) hx hb dJ7_fill_d0a16_16 hl (k := 2) rfl (z_ofi (by decide +kernel)) (by decide) rfl (fun ls hl => ?_)
        refine lv_goto (tgt := 6) hx hb dJ7_fill_d0a16_19 (by decide) ?_
        exact ih_12 (v_8 + 1) g_16 H locs ls (z_up hmu (by omega) (by omega)) (z_upc hi_11 (by omega) (by omega)) hP hD hS (lv_sub hl [1, 2, 0, 3] rfl)
  exact hlp_10 _ 0 c_a _ _ _ (Nat.lt_succ_self _) (by first | decide +kernel | omega) hP hD hS (lv_sub hl [2, 3, 1, 0] rfl)
set_option maxHeartbeats 4000000 in
set_option maxRecDepth 100000 in
theorem d_ja_min (l : Launch) (G : va_G) (cA : zCA) (i1 : Int32) (i2 : Int32) : zCi l yJ9_min_7cf53 cJ9_min_7cf53 2 (some .int) ({ frames := 0, cells := 0, slots := 0, locals := 0 }) G cA [.int i1, .int i2] [] (S := Unit) (fun (r : Int32) (u : Unit) => True) (fun (u : Unit) => []) 0 0 := by
  refine z_start2i (own := RJ9) (by decide) (Nat.le_of_ble_eq_true rfl) rfl ?_
  intro p e s m args below meth c A ls Q hx hb hml hts hown hK hE hT hP hD hS hA hl hret
  have hl : lv_has ls 2 [(0, .int i1), (1, .int i2)] := hl
  refine lv_iload_n hx hb dJ9_min_7cf53_0 rfl (lv_at hl 0 rfl) ?_
  refine lv_iload_n hx hb dJ9_min_7cf53_1 rfl (lv_at hl 1 rfl) ?_
  refine lv_icmp_gt (tgt := 9) hx hb dJ9_min_7cf53_2 (by decide) (fun c_1 => ?_) (fun c_1 => ?_)
  · have b_2 := z_s7 c_1
    refine lv_iload_n hx hb dJ9_min_7cf53_9 rfl (lv_at hl 1 rfl) ?_
    exact hret _ _ _ _ _ _ () [] hP hD hS rfl (by decide) dJ9_min_7cf53_10 trivial
  · have b_3 := z_s8 c_1
    refine lv_iload_n hx hb dJ9_min_7cf53_5 rfl (lv_at hl 0 rfl) ?_
    refine lv_goto (tgt := 10) hx hb dJ9_min_7cf53_6 (by decide) ?_
    exact hret _ _ _ _ _ _ () [] hP hD hS rfl (by decide) dJ9_min_7cf53_10 trivial
set_option maxHeartbeats 4000000 in
set_option maxRecDepth 100000 in
theorem d_ja_max (l : Launch) (G : va_G) (cA : zCA) (l1 : Int64) (l2 : Int64) : zCl l yJ9_max_f86c9 cJ9_max_f86c9 4 (some .long) ({ frames := 0, cells := 0, slots := 0, locals := 0 }) G cA [.long l1, .long l2] [] (S := Unit) (fun (r : Int64) (u : Unit) => True) (fun (u : Unit) => []) 0 0 := by
  refine z_start2l (own := RJ9) (by decide) (Nat.le_of_ble_eq_true rfl) rfl ?_
  intro p e s m args below meth c A ls Q hx hb hml hts hown hK hE hT hP hD hS hA hl hret
  have hl : lv_has ls 4 [(0, .long l1), (2, .long l2)] := hl
  refine lv_lload_n hx hb dJ9_max_f86c9_0 rfl (lv_at hl 0 rfl) ?_
  refine lv_lload_n hx hb dJ9_max_f86c9_1 rfl (lv_at hl 1 rfl) ?_
  refine W.lcmp hx hb dJ9_max_f86c9_2 ?_
  refine lv_if_lt (tgt := 10) hx hb dJ9_max_f86c9_3 (by decide) (fun c_1 => ?_) (fun c_1 => ?_)
  · have b_2 := z_b3 c_1 (K := 0) (by decide +kernel)
    refine lv_lload_n hx hb dJ9_max_f86c9_10 rfl (lv_at hl 1 rfl) ?_
    exact hret _ _ _ _ _ _ () [] hP hD hS rfl (by decide) dJ9_max_f86c9_11 trivial
  · have b_3 := z_b4 c_1 (K := 0) (by decide +kernel)
    refine lv_lload_n hx hb dJ9_max_f86c9_6 rfl (lv_at hl 0 rfl) ?_
    refine lv_goto (tgt := 11) hx hb dJ9_max_f86c9_7 (by decide) ?_
    exact hret _ _ _ _ _ _ () [] hP hD hS rfl (by decide) dJ9_max_f86c9_11 trivial
set_option maxHeartbeats 4000000 in
set_option maxRecDepth 100000 in
theorem d_ja_abs (l : Launch) (G : va_G) (cA : zCA) (l1 : Int64) : zCl l yJ9_abs_067f4 cJ9_abs_067f4 2 (some .long) ({ frames := 0, cells := 0, slots := 0, locals := 0 }) G cA [.long l1] [] (S := Unit) (fun (r : Int64) (u : Unit) => True) (fun (u : Unit) => []) 0 0 := by
  refine z_start2l (own := RJ9) (by decide) (Nat.le_of_ble_eq_true rfl) rfl ?_
  intro p e s m args below meth c A ls Q hx hb hml hts hown hK hE hT hP hD hS hA hl hret
  have hl : lv_has ls 2 [(0, .long l1)] := hl
  refine lv_lload_n hx hb dJ9_abs_067f4_0 rfl (lv_at hl 0 rfl) ?_
  refine lv_lconst (v := 0) hx hb dJ9_abs_067f4_1 (by decide) ?_
  refine W.lcmp hx hb dJ9_abs_067f4_2 ?_
  refine lv_if_ge (tgt := 11) hx hb dJ9_abs_067f4_3 (by decide) (fun c_1 => ?_) (fun c_1 => ?_)
  · have b_2 := z_b1 c_1 (K := 0) (by decide +kernel)
    refine lv_lload_n hx hb dJ9_abs_067f4_11 rfl (lv_at hl 0 rfl) ?_
    exact hret _ _ _ _ _ _ () [] hP hD hS rfl (by decide) dJ9_abs_067f4_12 trivial
  · have b_3 := z_b2 c_1 (K := 0) (by decide +kernel)
    refine lv_lload_n hx hb dJ9_abs_067f4_6 rfl (lv_at hl 0 rfl) ?_
    refine lv_lneg hx hb dJ9_abs_067f4_7 ?_
    refine lv_topl (fun x_4 _ => ?_)
    refine lv_goto (tgt := 12) hx hb dJ9_abs_067f4_8 (by decide) ?_
    exact hret _ _ _ _ _ _ () [] hP hD hS rfl (by decide) dJ9_abs_067f4_12 trivial
set_option maxHeartbeats 4000000 in
set_option maxRecDepth 100000 in
theorem d_ja_floorMod (l : Launch) (G : va_G) (cA : zCA) (i1 : Int32) (i2 : Int32) : zCi l yJ9_floorMod_7cf53 cJ9_floorMod_7cf53 3 (some .int) ({ frames := 0, cells := 0, slots := 0, locals := 0 }) G cA [.int i1, .int i2] [] (S := Unit) (fun (r : Int32) (u : Unit) => True) (fun (u : Unit) => []) 0 0 := by
  refine z_start2i (own := RJ9) (by decide) (Nat.le_of_ble_eq_true rfl) rfl ?_
  intro p e s m args below meth c A ls Q hx hb hml hts hown hK hE hT hP hD hS hA hl hret
  have hl : lv_has ls 3 [(0, .int i1), (1, .int i2)] := hl
  refine lv_iload_n hx hb dJ9_floorMod_7cf53_0 rfl (lv_at hl 0 rfl) ?_
  refine lv_iload_n hx hb dJ9_floorMod_7cf53_1 rfl (lv_at hl 1 rfl) ?_
  refine lv_irem hx hb dJ9_floorMod_7cf53_2 (z_nz (by omega)) ?_
  refine lv_topi (fun x_1 _ => ?_)
  refine lv_istore_n (lv' := [(2, .int x_1), (0, .int i1), (1, .int i2)]) hx hb dJ9_floorMod_7cf53_3 rfl hl (by decide) rfl (fun ls hl => ?_)
  refine lv_iload_n hx hb dJ9_floorMod_7cf53_4 rfl (lv_at hl 1 rfl) ?_
  refine lv_iload_n hx hb dJ9_floorMod_7cf53_5 rfl (lv_at hl 2 rfl) ?_
  refine lv_ixor hx hb dJ9_floorMod_7cf53_6 ?_
  refine lv_topi (fun x_2 _ => ?_)
  refine lv_if_ge (tgt := 18) hx hb dJ9_floorMod_7cf53_7 (by decide) (fun c_3 => ?_) (fun c_3 => ?_)
  · have b_4 := z_b1 c_3 (K := 0) (by decide +kernel)
    refine lv_iload_n hx hb dJ9_floorMod_7cf53_18 rfl (lv_at hl 0 rfl) ?_
    exact hret _ _ _ _ _ _ () [] hP hD hS rfl (by decide) dJ9_floorMod_7cf53_19 trivial
  · have b_5 := z_b2 c_3 (K := 0) (by decide +kernel)
    refine lv_iload_n hx hb dJ9_floorMod_7cf53_10 rfl (lv_at hl 0 rfl) ?_
    refine lv_if_eq (tgt := 18) hx hb dJ9_floorMod_7cf53_11 (by decide) (fun c_6 => ?_) (fun c_6 => ?_)
    · skip
      refine lv_iload_n hx hb dJ9_floorMod_7cf53_18 rfl (lv_at hl 0 rfl) ?_
      exact hret _ _ _ _ _ _ () [] hP hD hS rfl (by decide) dJ9_floorMod_7cf53_19 trivial
    · skip
      refine lv_iload_n hx hb dJ9_floorMod_7cf53_14 rfl (lv_at hl 0 rfl) ?_
      refine lv_iload_n hx hb dJ9_floorMod_7cf53_15 rfl (lv_at hl 2 rfl) ?_
      refine lv_iadd hx hb dJ9_floorMod_7cf53_16 ?_
      refine lv_topi (fun x_9 _ => ?_)
      exact hret _ _ _ _ _ _ () [] hP hD hS rfl (by decide) dJ9_floorMod_7cf53_17 trivial
set_option maxHeartbeats 4000000 in
set_option maxRecDepth 100000 in
theorem d_Da_inRing (l : Launch) (G : va_G) (cA : zCA) (i1 : Int32) (i2 : Int32) : zCi l yX11_inRing cX11_inRing 2 (some .int) ({ frames := 1, cells := 0, slots := 0, locals := 22 }) G cA [.int i1, .int i2] [] (S := Unit) (fun (r : Int32) (u : Unit) => True) (fun (u : Unit) => []) 0 0 := by
  refine z_start2i (own := RX11) (by decide) (Nat.le_of_ble_eq_true rfl) rfl ?_
  intro p e s m args below meth c A ls Q hx hb hml hts hown hK hE hT hP hD hS hA hl hret
  have hl : lv_has ls 2 [(0, .int i1), (1, .int i2)] := hl
  refine lv_iload_n hx hb dX11_inRing_0 rfl (lv_at hl 1 rfl) ?_
  refine lv_if_le (tgt := 12) hx hb dX11_inRing_1 (by decide) (fun c_1 => ?_) (fun c_1 => ?_)
  · have b_2 := z_b5 c_1 (K := 0) (by decide +kernel)
    refine lv_iconst (v := 0) hx hb dX11_inRing_12 (by decide) ?_
    exact hret _ _ _ _ _ _ () [] hP hD hS rfl (by decide) dX11_inRing_13 trivial
  · have b_3 := z_b6 c_1 (K := 0) (by decide +kernel)
    refine lv_iload_n hx hb dX11_inRing_4 rfl (lv_at hl 0 rfl) ?_
    refine lv_iload_n hx hb dX11_inRing_5 rfl (lv_at hl 1 rfl) ?_
    refine z_callSi (As := [.int i1, .int i2]) (rest := []) (wr := []) ⟨hx, hb, hml, hown, hts⟩ hK hE hT hP hD hS hA (d_ja_floorMod l G cA i1 i2) lk_RX11_465 ⟨rfl, rfl⟩ ⟨Nat.le_of_ble_eq_true rfl, Nat.le_of_ble_eq_true rfl⟩ [] [] rfl rfl (by decide) rfl hl.1 rfl (lv_room (Nat.le_of_ble_eq_true rfl)) dX11_inRing_6 ⟨Nat.le_of_ble_eq_true rfl, Nat.le_of_ble_eq_true rfl⟩ (fun r_4 u_5 H locs hw hP hD hS => ?_)
    have hP : va_P G vwCl [] H := hP
    have hD : va_D A [] := hD
    refine lv_goto (tgt := 13) hx hb dX11_inRing_9 (by decide) ?_
    exact hret _ _ _ _ _ _ () [] hP hD hS rfl (by decide) dX11_inRing_13 trivial
set_option maxHeartbeats 4000000 in
set_option maxRecDepth 100000 in
theorem d_ja_bitCount (l : Launch) (G : va_G) (cA : zCA) (k : Int32) : zCi l yJ6_bitCount_0f7a4 cJ6_bitCount_0f7a4 1 (some .int) ({ frames := 0, cells := 0, slots := 0, locals := 0 }) G cA [.int k] [] (S := Unit) (fun (r : Int32) (u : Unit) => True) (fun (u : Unit) => []) 0 0 := by
  refine z_start2i (own := RJ6) (by decide) (Nat.le_of_ble_eq_true rfl) rfl ?_
  intro p e s m args below meth c A ls Q hx hb hml hts hown hK hE hT hP hD hS hA hl hret
  have hl : lv_has ls 1 [(0, .int k)] := hl
  refine lv_iload_n hx hb dJ6_bitCount_0f7a4_0 rfl (lv_at hl 0 rfl) ?_
  refine lv_iload_n hx hb dJ6_bitCount_0f7a4_1 rfl (lv_at hl 0 rfl) ?_
  refine lv_iconst (v := 1) hx hb dJ6_bitCount_0f7a4_2 (by decide) ?_
  refine lv_iushr hx hb dJ6_bitCount_0f7a4_3 ?_
  refine lv_topi (fun x_1 _ => ?_)
  refine lv_ldcw (v := 1431655765) hx hb hown (hts _ tw_1692) dJ6_bitCount_0f7a4_4 ?_
  refine lv_iand hx hb dJ6_bitCount_0f7a4_7 ?_
  refine lv_topi (fun x_2 _ => ?_)
  refine lv_isub hx hb dJ6_bitCount_0f7a4_8 ?_
  refine lv_topi (fun x_3 _ => ?_)
  refine lv_istore_n (lv' := [(0, .int x_3)]) hx hb dJ6_bitCount_0f7a4_9 rfl hl (by decide) rfl (fun ls hl => ?_)
  refine lv_iload_n hx hb dJ6_bitCount_0f7a4_10 rfl (lv_at hl 0 rfl) ?_
  refine lv_ldcw (v := 858993459) hx hb hown (hts _ tw_1693) dJ6_bitCount_0f7a4_11 ?_
  refine lv_iand hx hb dJ6_bitCount_0f7a4_14 ?_
  refine lv_topi (fun x_4 _ => ?_)
  refine lv_iload_n hx hb dJ6_bitCount_0f7a4_15 rfl (lv_at hl 0 rfl) ?_
  refine lv_iconst (v := 2) hx hb dJ6_bitCount_0f7a4_16 (by decide) ?_
  refine lv_iushr hx hb dJ6_bitCount_0f7a4_17 ?_
  refine lv_topi (fun x_5 _ => ?_)
  refine lv_ldcw (v := 858993459) hx hb hown (hts _ tw_1693) dJ6_bitCount_0f7a4_18 ?_
  refine lv_iand hx hb dJ6_bitCount_0f7a4_21 ?_
  refine lv_topi (fun x_6 _ => ?_)
  refine lv_iadd hx hb dJ6_bitCount_0f7a4_22 ?_
  refine lv_topi (fun x_7 _ => ?_)
  refine lv_istore_n (lv' := [(0, .int x_7)]) hx hb dJ6_bitCount_0f7a4_23 rfl hl (by decide) rfl (fun ls hl => ?_)
  refine lv_iload_n hx hb dJ6_bitCount_0f7a4_24 rfl (lv_at hl 0 rfl) ?_
  refine lv_iload_n hx hb dJ6_bitCount_0f7a4_25 rfl (lv_at hl 0 rfl) ?_
  refine lv_iconst (v := 4) hx hb dJ6_bitCount_0f7a4_26 (by decide) ?_
  refine lv_iushr hx hb dJ6_bitCount_0f7a4_27 ?_
  refine lv_topi (fun x_8 _ => ?_)
  refine lv_iadd hx hb dJ6_bitCount_0f7a4_28 ?_
  refine lv_topi (fun x_9 _ => ?_)
  refine lv_ldcw (v := 252645135) hx hb hown (hts _ tw_1694) dJ6_bitCount_0f7a4_29 ?_
  refine lv_iand hx hb dJ6_bitCount_0f7a4_32 ?_
  refine lv_topi (fun x_10 _ => ?_)
  refine lv_istore_n (lv' := [(0, .int x_10)]) hx hb dJ6_bitCount_0f7a4_33 rfl hl (by decide) rfl (fun ls hl => ?_)
  refine lv_iload_n hx hb dJ6_bitCount_0f7a4_34 rfl (lv_at hl 0 rfl) ?_
  refine lv_iload_n hx hb dJ6_bitCount_0f7a4_35 rfl (lv_at hl 0 rfl) ?_
  refine lv_bipush (v := 8) hx hb dJ6_bitCount_0f7a4_36 (by decide) ?_
  refine lv_iushr hx hb dJ6_bitCount_0f7a4_38 ?_
  refine lv_topi (fun x_11 _ => ?_)
  refine lv_iadd hx hb dJ6_bitCount_0f7a4_39 ?_
  refine lv_topi (fun x_12 _ => ?_)
  refine lv_istore_n (lv' := [(0, .int x_12)]) hx hb dJ6_bitCount_0f7a4_40 rfl hl (by decide) rfl (fun ls hl => ?_)
  refine lv_iload_n hx hb dJ6_bitCount_0f7a4_41 rfl (lv_at hl 0 rfl) ?_
  refine lv_iload_n hx hb dJ6_bitCount_0f7a4_42 rfl (lv_at hl 0 rfl) ?_
  refine lv_bipush (v := 16) hx hb dJ6_bitCount_0f7a4_43 (by decide) ?_
  refine lv_iushr hx hb dJ6_bitCount_0f7a4_45 ?_
  refine lv_topi (fun x_13 _ => ?_)
  refine lv_iadd hx hb dJ6_bitCount_0f7a4_46 ?_
  refine lv_topi (fun x_14 _ => ?_)
  refine lv_istore_n (lv' := [(0, .int x_14)]) hx hb dJ6_bitCount_0f7a4_47 rfl hl (by decide) rfl (fun ls hl => ?_)
  refine lv_iload_n hx hb dJ6_bitCount_0f7a4_48 rfl (lv_at hl 0 rfl) ?_
  refine lv_bipush (v := 63) hx hb dJ6_bitCount_0f7a4_49 (by decide) ?_
  refine lv_iand hx hb dJ6_bitCount_0f7a4_51 ?_
  refine lv_topi (fun x_15 _ => ?_)
  exact hret _ _ _ _ _ _ () [] hP hD hS rfl (by decide) dJ6_bitCount_0f7a4_52 trivial
set_option maxHeartbeats 4000000 in
set_option maxRecDepth 100000 in
theorem d_Te_byteAt (l : Launch) (G : va_G) (cA : zCA) (t : Nat) (tape : Nat) (t_fed : Int32) (t_length : Int32) (t_kind : Int32) (t_start : Int32) (t_end : Int32) (t_number : Int32) (t_sign : Int32) (t_letters : Int64) (t_fault : Int32) (t_faultPlace : Int32) (c_tape : Nat → Int32) (k : Int32) : zCi l yX8_byteAt cX8_byteAt 2 (some .int) ({ frames := 0, cells := 0, slots := 0, locals := 0 }) G cA [.ref t, .int k] [(t, .inr (8, [.ref tape, .int t_fed, .int t_length, .int t_kind, .int t_start, .int t_end, .int t_number, .int t_sign, .long t_letters, .int t_fault, .int t_faultPlace])), (tape, .inl (cA.1 2, 900, .inl c_tape))] (S := Unit) (fun (r : Int32) (u : Unit) => True) (fun (u : Unit) => [(t, .inr (8, [.ref tape, .int t_fed, .int t_length, .int t_kind, .int t_start, .int t_end, .int t_number, .int t_sign, .long t_letters, .int t_fault, .int t_faultPlace])), (tape, .inl (cA.1 2, 900, .inl c_tape))]) 0 0 := by
  refine z_start2i (own := RX8) (by decide) (Nat.le_of_ble_eq_true rfl) rfl ?_
  intro p e s m args below meth c A ls Q hx hb hml hts hown hK hE hT hP hD hS hA hl hret
  have hl : lv_has ls 2 [(0, .ref t), (1, .int k)] := hl
  refine lv_iload_n hx hb dX8_byteAt_0 rfl (lv_at hl 1 rfl) ?_
  refine lv_if_lt (tgt := 32) hx hb dX8_byteAt_1 (by decide) (fun c_1 => ?_) (fun c_1 => ?_)
  · have b_2 := z_b3 c_1 (K := 0) (by decide +kernel)
    refine lv_iconst (v := (-1)) hx hb dX8_byteAt_32 (by decide) ?_
    exact hret _ _ _ _ _ _ () [0, 1] hP hD hS rfl (by decide) dX8_byteAt_33 trivial
  · have b_3 := z_b4 c_1 (K := 0) (by decide +kernel)
    refine lv_iload_n hx hb dX8_byteAt_4 rfl (lv_at hl 1 rfl) ?_
    refine lv_aload_n hx hb dX8_byteAt_5 rfl (lv_at hl 0 rfl) ?_
    refine va_get (D := G) (ci := 8) (v := .int t_length) (C := RX8) (T := TX8) (N := 11) hx hb hts inT8 hown hK hP 0 rfl rfl 2 (by decide) (hts _ tw_208) (fun _ h9 => h9) rfl dX8_byteAt_6 ?_
    refine lv_icmp_ge (tgt := 32) hx hb dX8_byteAt_9 (by decide) (fun c_4 => ?_) (fun c_4 => ?_)
    · have b_5 := z_s1 c_4
      refine lv_iconst (v := (-1)) hx hb dX8_byteAt_32 (by decide) ?_
      exact hret _ _ _ _ _ _ () [0, 1] hP hD hS rfl (by decide) dX8_byteAt_33 trivial
    · have b_6 := z_s2 c_4
      refine lv_iload_n hx hb dX8_byteAt_12 rfl (lv_at hl 1 rfl) ?_
      refine lv_sipush (v := 900) hx hb dX8_byteAt_13 (by decide) ?_
      refine lv_icmp_ge (tgt := 32) hx hb dX8_byteAt_16 (by decide) (fun c_7 => ?_) (fun c_7 => ?_)
      · have b_8 := z_b1 c_7 (K := 900) (by decide +kernel)
        refine lv_iconst (v := (-1)) hx hb dX8_byteAt_32 (by decide) ?_
        exact hret _ _ _ _ _ _ () [0, 1] hP hD hS rfl (by decide) dX8_byteAt_33 trivial
      · have b_9 := z_b2 c_7 (K := 900) (by decide +kernel)
        refine lv_aload_n hx hb dX8_byteAt_19 rfl (lv_at hl 0 rfl) ?_
        refine va_get (D := G) (ci := 8) (v := .ref tape) (C := RX8) (T := TX8) (N := 11) hx hb hts inT8 hown hK hP 0 rfl rfl 0 (by decide) (hts _ tw_205) (fun _ h9 => h9) rfl dX8_byteAt_20 ?_
        refine lv_iload_n hx hb dX8_byteAt_23 rfl (lv_at hl 1 rfl) ?_
        refine va_bald hx hb hK hP 1 2 rfl rfl (z_inN (by omega) (by omega)) dX8_byteAt_24 ?_
        refine lv_topi (fun x_10 _ => ?_)
        refine lv_sipush (v := 255) hx hb dX8_byteAt_25 (by decide) ?_
        refine lv_iand hx hb dX8_byteAt_28 ?_
        refine lv_topi (fun x_11 _ => ?_)
        refine lv_goto (tgt := 33) hx hb dX8_byteAt_29 (by decide) ?_
        exact hret _ _ _ _ _ _ () [0, 1] hP hD hS rfl (by decide) dX8_byteAt_33 trivial
set_option maxHeartbeats 4000000 in
set_option maxRecDepth 100000 in
theorem d_Te_goesOn (l : Launch) (G : va_G) (cA : zCA) (t : Nat) (tape : Nat) (t_fed : Int32) (t_length : Int32) (t_kind : Int32) (t_start : Int32) (t_end : Int32) (t_number : Int32) (t_sign : Int32) (t_letters : Int64) (t_fault : Int32) (t_faultPlace : Int32) : zCi l yX8_goesOn cX8_goesOn 1 (some .boolean) ({ frames := 0, cells := 0, slots := 0, locals := 0 }) G cA [.ref t] [(t, .inr (8, [.ref tape, .int t_fed, .int t_length, .int t_kind, .int t_start, .int t_end, .int t_number, .int t_sign, .long t_letters, .int t_fault, .int t_faultPlace]))] (S := Unit) (fun (r : Int32) (u : Unit) => r = 0 ∨ r = 1) (fun (u : Unit) => [(t, .inr (8, [.ref tape, .int t_fed, .int t_length, .int t_kind, .int t_start, .int t_end, .int t_number, .int t_sign, .long t_letters, .int t_fault, .int t_faultPlace]))]) 0 0 := by
  refine z_start2z (own := RX8) (by decide) (Nat.le_of_ble_eq_true rfl) rfl ?_
  intro p e s m args below meth c A ls Q hx hb hml hts hown hK hE hT hP hD hS hA hl hret
  have hl : lv_has ls 1 [(0, .ref t)] := hl
  refine lv_aload_n hx hb dX8_goesOn_0 rfl (lv_at hl 0 rfl) ?_
  refine va_get (D := G) (ci := 8) (v := .int t_fault) (C := RX8) (T := TX8) (N := 11) hx hb hts inT8 hown hK hP 0 rfl rfl 9 (by decide) (hts _ tw_218) (fun _ h9 => h9) rfl dX8_goesOn_1 ?_
  refine lv_if_ne (tgt := 18) hx hb dX8_goesOn_4 (by decide) (fun c_1 => ?_) (fun c_1 => ?_)
  · skip
    refine lv_iconst (v := 0) hx hb dX8_goesOn_18 (by decide) ?_
    exact hret _ _ _ _ _ _ () [0] hP hD hS rfl (by decide) dX8_goesOn_19 (Or.inl rfl) (Or.inl rfl)
  · skip
    refine lv_aload_n hx hb dX8_goesOn_7 rfl (lv_at hl 0 rfl) ?_
    refine va_get (D := G) (ci := 8) (v := .int t_kind) (C := RX8) (T := TX8) (N := 11) hx hb hts inT8 hown hK hP 0 rfl rfl 3 (by decide) (hts _ tw_209) (fun _ h9 => h9) rfl dX8_goesOn_8 ?_
    refine lv_if_eq (tgt := 18) hx hb dX8_goesOn_11 (by decide) (fun c_4 => ?_) (fun c_4 => ?_)
    · skip
      refine lv_iconst (v := 0) hx hb dX8_goesOn_18 (by decide) ?_
      exact hret _ _ _ _ _ _ () [0] hP hD hS rfl (by decide) dX8_goesOn_19 (Or.inl rfl) (Or.inl rfl)
    · skip
      refine lv_iconst (v := 1) hx hb dX8_goesOn_14 (by decide) ?_
      refine lv_goto (tgt := 19) hx hb dX8_goesOn_15 (by decide) ?_
      exact hret _ _ _ _ _ _ () [0] hP hD hS rfl (by decide) dX8_goesOn_19 (Or.inr rfl) (Or.inr rfl)
set_option maxHeartbeats 4000000 in
set_option maxRecDepth 100000 in
theorem d_Te_hasRoom (l : Launch) (G : va_G) (cA : zCA) (t : Nat) (tape : Nat) (t_fed : Int32) (t_length : Int32) (t_kind : Int32) (t_start : Int32) (t_end : Int32) (t_number : Int32) (t_sign : Int32) (t_letters : Int64) (t_fault : Int32) (t_faultPlace : Int32) (k : Int32) : zCi l yX8_hasRoom cX8_hasRoom 2 (some .boolean) ({ frames := 0, cells := 0, slots := 0, locals := 0 }) G cA [.ref t, .int k] [(t, .inr (8, [.ref tape, .int t_fed, .int t_length, .int t_kind, .int t_start, .int t_end, .int t_number, .int t_sign, .long t_letters, .int t_fault, .int t_faultPlace]))] (S := Unit) (fun (r : Int32) (u : Unit) => r = 0 ∨ r = 1) (fun (u : Unit) => [(t, .inr (8, [.ref tape, .int t_fed, .int t_length, .int t_kind, .int t_start, .int t_end, .int t_number, .int t_sign, .long t_letters, .int t_fault, .int t_faultPlace]))]) 0 0 := by
  refine z_start2z (own := RX8) (by decide) (Nat.le_of_ble_eq_true rfl) rfl ?_
  intro p e s m args below meth c A ls Q hx hb hml hts hown hK hE hT hP hD hS hA hl hret
  have hl : lv_has ls 2 [(0, .ref t), (1, .int k)] := hl
  refine lv_aload_n hx hb dX8_hasRoom_0 rfl (lv_at hl 0 rfl) ?_
  refine va_get (D := G) (ci := 8) (v := .int t_fed) (C := RX8) (T := TX8) (N := 11) hx hb hts inT8 hown hK hP 0 rfl rfl 1 (by decide) (hts _ tw_206) (fun _ h9 => h9) rfl dX8_hasRoom_1 ?_
  refine lv_iload_n hx hb dX8_hasRoom_4 rfl (lv_at hl 1 rfl) ?_
  refine lv_iadd hx hb dX8_hasRoom_5 ?_
  refine lv_topi (fun x_1 _ => ?_)
  refine lv_sipush (v := 900) hx hb dX8_hasRoom_6 (by decide) ?_
  refine lv_icmp_gt (tgt := 16) hx hb dX8_hasRoom_9 (by decide) (fun c_2 => ?_) (fun c_2 => ?_)
  · have b_3 := z_b7 c_2 (K := 900) (by decide +kernel)
    refine lv_iconst (v := 0) hx hb dX8_hasRoom_16 (by decide) ?_
    exact hret _ _ _ _ _ _ () [0] hP hD hS rfl (by decide) dX8_hasRoom_17 (Or.inl rfl) (Or.inl rfl)
  · have b_4 := z_b8 c_2 (K := 900) (by decide +kernel)
    refine lv_iconst (v := 1) hx hb dX8_hasRoom_12 (by decide) ?_
    refine lv_goto (tgt := 17) hx hb dX8_hasRoom_13 (by decide) ?_
    exact hret _ _ _ _ _ _ () [0] hP hD hS rfl (by decide) dX8_hasRoom_17 (Or.inr rfl) (Or.inr rfl)
set_option maxHeartbeats 4000000 in
set_option maxRecDepth 100000 in
theorem d_Te_append (l : Launch) (G : va_G) (cA : zCA) (t : Nat) (tape : Nat) (t_fed : Int32) (t_length : Int32) (t_kind : Int32) (t_start : Int32) (t_end : Int32) (t_number : Int32) (t_sign : Int32) (t_letters : Int64) (t_fault : Int32) (t_faultPlace : Int32) (c_tape : Nat → Int32) (k : Int32) : zCv l yX8_append cX8_append 3 none ({ frames := 0, cells := 0, slots := 0, locals := 0 }) G cA [.ref t, .int k] [(t, .inr (8, [.ref tape, .int t_fed, .int t_length, .int t_kind, .int t_start, .int t_end, .int t_number, .int t_sign, .long t_letters, .int t_fault, .int t_faultPlace])), (tape, .inl (cA.1 2, 900, .inl c_tape))] (S := Int32 × (Nat → Int32)) (fun (u : Int32 × (Nat → Int32)) => True) (fun (u : Int32 × (Nat → Int32)) => [(t, .inr (8, [.ref tape, .int u.1, .int t_length, .int t_kind, .int t_start, .int t_end, .int t_number, .int t_sign, .long t_letters, .int t_fault, .int t_faultPlace])), (tape, .inl (cA.1 2, 900, .inl u.2))]) 0 0 := by
  refine z_start2v (own := RX8) (by decide) (Nat.le_of_ble_eq_true rfl) rfl ?_
  intro p e s m args below meth c A ls Q hx hb hml hts hown hK hE hT hP hD hS hA hl hret
  have hl : lv_has ls 3 [(0, .ref t), (1, .int k)] := hl
  refine lv_bipush (v := 24) hx hb dX8_append_0 (by decide) ?_
  refine lv_istore_n (lv' := [(2, .int 24), (0, .ref t), (1, .int k)]) hx hb dX8_append_2 rfl hl (by decide) rfl (fun ls hl => ?_)
  have hlp_28 : ∀ (n : Nat) (v_25 : Int32) (v_26 : Int32) (g_27 : Nat → Int32) (H : Heap) (locs : List Loc) (ls : Array Slot), (v_25.toInt + 2147483648).toNat < n → (24 ≥ v_25.toInt) → va_P G vwCl [(t, .inr (8, [.ref tape, .int v_26, .int t_length, .int t_kind, .int t_start, .int t_end, .int t_number, .int t_sign, .long t_letters, .int t_fault, .int t_faultPlace])), (tape, .inl (cA.1 2, 900, .inl g_27))] H → va_D A [(t, .inr (8, [.ref tape, .int v_26, .int t_length, .int t_kind, .int t_start, .int t_end, .int t_number, .int t_sign, .long t_letters, .int t_fault, .int t_faultPlace])), (tape, .inl (cA.1 2, 900, .inl g_27))] → va_S A s.heap H locs → lv_has ls 3 [(0, .ref t), (1, .int k), (2, .int v_25)] → W p l e ({ frames := 0, cells := 0, slots := 0, locals := 0 }) s m args below meth c H locs 0 0 Q (F0 m 3 ls []) := by
    intro n
    induction n with
    | zero =>
      intro v_25 v_26 g_27 H locs ls hmu hi_29 hP hD hS hl
      exact absurd hmu (Nat.not_lt_zero _)
    | succ n ih_30 =>
      intro v_25 v_26 g_27 H locs ls hmu hi_29 hP hD hS hl
      refine lv_iload_n hx hb dX8_append_3 rfl (lv_at hl 2 rfl) ?_
      refine lv_if_lt (tgt := 53) hx hb dX8_append_4 (by decide) (fun c_31 => ?_) (fun c_31 => ?_)
      · have b_32 := z_b3 c_31 (K := 0) (by decide +kernel)
        exact hret _ _ _ _ _ (v_26, g_27) [0, 1] hP hD hS rfl (by decide) dX8_append_53 trivial
      · have b_33 := z_b4 c_31 (K := 0) (by decide +kernel)
        refine lv_aload_n hx hb dX8_append_7 rfl (lv_at hl 0 rfl) ?_
        refine va_get (D := G) (ci := 8) (v := .int v_26) (C := RX8) (T := TX8) (N := 11) hx hb hts inT8 hown hK hP 0 rfl rfl 1 (by decide) (hts _ tw_206) (fun _ h9 => h9) rfl dX8_append_8 ?_
        refine lv_if_lt (tgt := 47) hx hb dX8_append_11 (by decide) (fun c_34 => ?_) (fun c_34 => ?_)
        · have b_35 := z_b3 c_34 (K := 0) (by decide +kernel)
          refine lv_iinc (v := (v_25 + (-8))) (lv' := [(2, .int (v_25 + (-8))), (0, .ref t), (1, .int k)]) hx hb dX8_append_47 hl (k := 2) rfl (z_ofi (by decide +kernel)) (by decide) rfl (fun ls hl => ?_)
          refine lv_goto (tgt := 3) hx hb dX8_append_50 (by decide) ?_
          exact ih_30 (v_25 + (-8)) v_26 g_27 H locs ls (z_dnk (K := -8) (by decide +kernel) (by omega) hmu (by omega) (by omega)) (by omega) hP hD hS (lv_sub hl [1, 2, 0] rfl)
        · have b_36 := z_b4 c_34 (K := 0) (by decide +kernel)
          refine lv_aload_n hx hb dX8_append_14 rfl (lv_at hl 0 rfl) ?_
          refine va_get (D := G) (ci := 8) (v := .int v_26) (C := RX8) (T := TX8) (N := 11) hx hb hts inT8 hown hK hP 0 rfl rfl 1 (by decide) (hts _ tw_206) (fun _ h9 => h9) rfl dX8_append_15 ?_
          refine lv_sipush (v := 900) hx hb dX8_append_18 (by decide) ?_
          refine lv_icmp_ge (tgt := 47) hx hb dX8_append_21 (by decide) (fun c_37 => ?_) (fun c_37 => ?_)
          · have b_38 := z_b1 c_37 (K := 900) (by decide +kernel)
            refine lv_iinc (v := (v_25 + (-8))) (lv' := [(2, .int (v_25 + (-8))), (0, .ref t), (1, .int k)]) hx hb dX8_append_47 hl (k := 2) rfl (z_ofi (by decide +kernel)) (by decide) rfl (fun ls hl => ?_)
            refine lv_goto (tgt := 3) hx hb dX8_append_50 (by decide) ?_
            exact ih_30 (v_25 + (-8)) v_26 g_27 H locs ls (z_dnk (K := -8) (by decide +kernel) (by omega) hmu (by omega) (by omega)) (by omega) hP hD hS (lv_sub hl [1, 2, 0] rfl)
          · have b_39 := z_b2 c_37 (K := 900) (by decide +kernel)
            refine lv_aload_n hx hb dX8_append_24 rfl (lv_at hl 0 rfl) ?_
            refine va_get (D := G) (ci := 8) (v := .ref tape) (C := RX8) (T := TX8) (N := 11) hx hb hts inT8 hown hK hP 0 rfl rfl 0 (by decide) (hts _ tw_205) (fun _ h9 => h9) rfl dX8_append_25 ?_
            refine lv_aload_n hx hb dX8_append_28 rfl (lv_at hl 0 rfl) ?_
            refine va_get (D := G) (ci := 8) (v := .int v_26) (C := RX8) (T := TX8) (N := 11) hx hb hts inT8 hown hK hP 0 rfl rfl 1 (by decide) (hts _ tw_206) (fun _ h9 => h9) rfl dX8_append_29 ?_
            refine lv_iload_n hx hb dX8_append_32 rfl (lv_at hl 1 rfl) ?_
            refine lv_iload_n hx hb dX8_append_33 rfl (lv_at hl 2 rfl) ?_
            refine lv_ishr hx hb dX8_append_34 ?_
            refine lv_topi (fun x_40 _ => ?_)
            refine lv_i2b (v := (x_40).toInt8.toInt32) hx hb dX8_append_35 rfl ?_
            refine lv_topi (fun x_41 _ => ?_)
            refine va_bast hx hb hK hP hD hS 1 2 rfl rfl (z_inN (by omega) (by omega)) dX8_append_36 (fun H locs hP hD hS => ?_)
            have hP : va_P G vwCl [(t, .inr (8, [.ref tape, .int v_26, .int t_length, .int t_kind, .int t_start, .int t_end, .int t_number, .int t_sign, .long t_letters, .int t_fault, .int t_faultPlace])), (tape, .inl (cA.1 2, 900, .inl (upd g_27 (v_26 : Int32).toNatClampNeg (vp_nar .byte x_41))))] H := hP
            have hD : va_D A [(t, .inr (8, [.ref tape, .int v_26, .int t_length, .int t_kind, .int t_start, .int t_end, .int t_number, .int t_sign, .long t_letters, .int t_fault, .int t_faultPlace])), (tape, .inl (cA.1 2, 900, .inl (upd g_27 (v_26 : Int32).toNatClampNeg (vp_nar .byte x_41))))] := hD
            generalize (upd g_27 (v_26 : Int32).toNatClampNeg (vp_nar .byte x_41)) = g_42 at hP hD
            refine lv_aload_n hx hb dX8_append_37 rfl (lv_at hl 0 rfl) ?_
            refine lv_dup hx hb dX8_append_38 rfl ?_
            refine va_get (D := G) (ci := 8) (v := .int v_26) (C := RX8) (T := TX8) (N := 11) hx hb hts inT8 hown hK hP 0 rfl rfl 1 (by decide) (hts _ tw_206) (fun _ h9 => h9) rfl dX8_append_39 ?_
            refine lv_iconst (v := 1) hx hb dX8_append_42 (by decide) ?_
            refine lv_iadd hx hb dX8_append_43 ?_
            refine va_put (D := G) (ci := 8) (v := .int (v_26 + 1)) (ty := .int) (C := RX8) (T := TX8) (N := 11) hx hb hts inT8 tyX8 tyX8_ok nmX8 hown hK hP hD hS 0 rfl rfl 1 (by decide) (hts _ tw_206) (fun _ h9 => h9) rfl (tyX8_ok 1 (by decide)) rfl rfl (Nat.le_of_ble_eq_true rfl) dX8_append_44 (fun H locs hP hD hS => ?_)
            have hP : va_P G vwCl [(t, .inr (8, [.ref tape, .int (v_26 + 1), .int t_length, .int t_kind, .int t_start, .int t_end, .int t_number, .int t_sign, .long t_letters, .int t_fault, .int t_faultPlace])), (tape, .inl (cA.1 2, 900, .inl g_42))] H := hP
            have hD : va_D A [(t, .inr (8, [.ref tape, .int (v_26 + 1), .int t_length, .int t_kind, .int t_start, .int t_end, .int t_number, .int t_sign, .long t_letters, .int t_fault, .int t_faultPlace])), (tape, .inl (cA.1 2, 900, .inl g_42))] := hD
            refine lv_iinc (v := (v_25 + (-8))) (lv' := [(2, .int (v_25 + (-8))), (0, .ref t), (1, .int k)]) hx hb dX8_append_47 hl (k := 2) rfl (z_ofi (by decide +kernel)) (by decide) rfl (fun ls hl => ?_)
            refine lv_goto (tgt := 3) hx hb dX8_append_50 (by decide) ?_
            exact ih_30 (v_25 + (-8)) (v_26 + 1) g_42 H locs ls (z_dnk (K := -8) (by decide +kernel) (by omega) hmu (by omega) (by omega)) (by omega) hP hD hS (lv_sub hl [1, 2, 0] rfl)
  exact hlp_28 _ 24 t_fed c_tape _ _ _ (Nat.lt_succ_self _) (by first | decide +kernel | omega) hP hD hS (lv_sub hl [1, 2, 0] rfl)
set_option maxHeartbeats 4000000 in
set_option maxRecDepth 100000 in
theorem d_Te_isBlank (l : Launch) (G : va_G) (cA : zCA) (k : Int32) : zCi l yX8_isBlank cX8_isBlank 1 (some .boolean) ({ frames := 0, cells := 0, slots := 0, locals := 0 }) G cA [.int k] [] (S := Unit) (fun (r : Int32) (u : Unit) => r = 0 ∨ r = 1) (fun (u : Unit) => []) 0 0 := by
  refine z_start2z (own := RX8) (by decide) (Nat.le_of_ble_eq_true rfl) rfl ?_
  intro p e s m args below meth c A ls Q hx hb hml hts hown hK hE hT hP hD hS hA hl hret
  have hl : lv_has ls 1 [(0, .int k)] := hl
  refine lv_iload_n hx hb dX8_isBlank_0 rfl (lv_at hl 0 rfl) ?_
  refine lv_bipush (v := 10) hx hb dX8_isBlank_1 (by decide) ?_
  refine lv_icmp_eq (tgt := 12) hx hb dX8_isBlank_3 (by decide) (fun c_1 => ?_) (fun c_1 => ?_)
  · skip
    refine lv_iconst (v := 1) hx hb dX8_isBlank_12 (by decide) ?_
    refine lv_goto (tgt := 17) hx hb dX8_isBlank_13 (by decide) ?_
    exact hret _ _ _ _ _ _ () [] hP hD hS rfl (by decide) dX8_isBlank_17 (Or.inr rfl) (Or.inr rfl)
  · skip
    refine lv_iload_n hx hb dX8_isBlank_6 rfl (lv_at hl 0 rfl) ?_
    refine lv_bipush (v := 32) hx hb dX8_isBlank_7 (by decide) ?_
    refine lv_icmp_ne (tgt := 16) hx hb dX8_isBlank_9 (by decide) (fun c_4 => ?_) (fun c_4 => ?_)
    · skip
      refine lv_iconst (v := 0) hx hb dX8_isBlank_16 (by decide) ?_
      exact hret _ _ _ _ _ _ () [] hP hD hS rfl (by decide) dX8_isBlank_17 (Or.inl rfl) (Or.inl rfl)
    · skip
      refine lv_iconst (v := 1) hx hb dX8_isBlank_12 (by decide) ?_
      refine lv_goto (tgt := 17) hx hb dX8_isBlank_13 (by decide) ?_
      exact hret _ _ _ _ _ _ () [] hP hD hS rfl (by decide) dX8_isBlank_17 (Or.inr rfl) (Or.inr rfl)
set_option maxHeartbeats 4000000 in
set_option maxRecDepth 100000 in
theorem d_Te_isLetter (l : Launch) (G : va_G) (cA : zCA) (k : Int32) : zCi l yX8_isLetter cX8_isLetter 1 (some .boolean) ({ frames := 0, cells := 0, slots := 0, locals := 0 }) G cA [.int k] [] (S := Unit) (fun (r : Int32) (u : Unit) => r = 0 ∨ r = 1) (fun (u : Unit) => []) 0 0 := by
  refine z_start2z (own := RX8) (by decide) (Nat.le_of_ble_eq_true rfl) rfl ?_
  intro p e s m args below meth c A ls Q hx hb hml hts hown hK hE hT hP hD hS hA hl hret
  have hl : lv_has ls 1 [(0, .int k)] := hl
  refine lv_iload_n hx hb dX8_isLetter_0 rfl (lv_at hl 0 rfl) ?_
  refine lv_bipush (v := 97) hx hb dX8_isLetter_1 (by decide) ?_
  refine lv_icmp_lt (tgt := 16) hx hb dX8_isLetter_3 (by decide) (fun c_1 => ?_) (fun c_1 => ?_)
  · have b_2 := z_b3 c_1 (K := 97) (by decide +kernel)
    refine lv_iconst (v := 0) hx hb dX8_isLetter_16 (by decide) ?_
    exact hret _ _ _ _ _ _ () [] hP hD hS rfl (by decide) dX8_isLetter_17 (Or.inl rfl) (Or.inl rfl)
  · have b_3 := z_b4 c_1 (K := 97) (by decide +kernel)
    refine lv_iload_n hx hb dX8_isLetter_6 rfl (lv_at hl 0 rfl) ?_
    refine lv_bipush (v := 122) hx hb dX8_isLetter_7 (by decide) ?_
    refine lv_icmp_gt (tgt := 16) hx hb dX8_isLetter_9 (by decide) (fun c_4 => ?_) (fun c_4 => ?_)
    · have b_5 := z_b7 c_4 (K := 122) (by decide +kernel)
      refine lv_iconst (v := 0) hx hb dX8_isLetter_16 (by decide) ?_
      exact hret _ _ _ _ _ _ () [] hP hD hS rfl (by decide) dX8_isLetter_17 (Or.inl rfl) (Or.inl rfl)
    · have b_6 := z_b8 c_4 (K := 122) (by decide +kernel)
      refine lv_iconst (v := 1) hx hb dX8_isLetter_12 (by decide) ?_
      refine lv_goto (tgt := 17) hx hb dX8_isLetter_13 (by decide) ?_
      exact hret _ _ _ _ _ _ () [] hP hD hS rfl (by decide) dX8_isLetter_17 (Or.inr rfl) (Or.inr rfl)
set_option maxHeartbeats 4000000 in
set_option maxRecDepth 100000 in
theorem d_Te_isDigit (l : Launch) (G : va_G) (cA : zCA) (k : Int32) : zCi l yX8_isDigit cX8_isDigit 1 (some .boolean) ({ frames := 0, cells := 0, slots := 0, locals := 0 }) G cA [.int k] [] (S := Unit) (fun (r : Int32) (u : Unit) => r = 0 ∨ r = 1) (fun (u : Unit) => []) 0 0 := by
  refine z_start2z (own := RX8) (by decide) (Nat.le_of_ble_eq_true rfl) rfl ?_
  intro p e s m args below meth c A ls Q hx hb hml hts hown hK hE hT hP hD hS hA hl hret
  have hl : lv_has ls 1 [(0, .int k)] := hl
  refine lv_iload_n hx hb dX8_isDigit_0 rfl (lv_at hl 0 rfl) ?_
  refine lv_bipush (v := 48) hx hb dX8_isDigit_1 (by decide) ?_
  refine lv_icmp_lt (tgt := 16) hx hb dX8_isDigit_3 (by decide) (fun c_1 => ?_) (fun c_1 => ?_)
  · have b_2 := z_b3 c_1 (K := 48) (by decide +kernel)
    refine lv_iconst (v := 0) hx hb dX8_isDigit_16 (by decide) ?_
    exact hret _ _ _ _ _ _ () [] hP hD hS rfl (by decide) dX8_isDigit_17 (Or.inl rfl) (Or.inl rfl)
  · have b_3 := z_b4 c_1 (K := 48) (by decide +kernel)
    refine lv_iload_n hx hb dX8_isDigit_6 rfl (lv_at hl 0 rfl) ?_
    refine lv_bipush (v := 57) hx hb dX8_isDigit_7 (by decide) ?_
    refine lv_icmp_gt (tgt := 16) hx hb dX8_isDigit_9 (by decide) (fun c_4 => ?_) (fun c_4 => ?_)
    · have b_5 := z_b7 c_4 (K := 57) (by decide +kernel)
      refine lv_iconst (v := 0) hx hb dX8_isDigit_16 (by decide) ?_
      exact hret _ _ _ _ _ _ () [] hP hD hS rfl (by decide) dX8_isDigit_17 (Or.inl rfl) (Or.inl rfl)
    · have b_6 := z_b8 c_4 (K := 57) (by decide +kernel)
      refine lv_iconst (v := 1) hx hb dX8_isDigit_12 (by decide) ?_
      refine lv_goto (tgt := 17) hx hb dX8_isDigit_13 (by decide) ?_
      exact hret _ _ _ _ _ _ () [] hP hD hS rfl (by decide) dX8_isDigit_17 (Or.inr rfl) (Or.inr rfl)
set_option maxHeartbeats 4000000 in
set_option maxRecDepth 100000 in
theorem d_Te_isSignOf (l : Launch) (G : va_G) (cA : zCA) (k : Int32) : zCi l yX8_isSignOf cX8_isSignOf 1 (some .boolean) ({ frames := 0, cells := 0, slots := 0, locals := 0 }) G cA [.int k] [] (S := Unit) (fun (r : Int32) (u : Unit) => r = 0 ∨ r = 1) (fun (u : Unit) => []) 0 0 := by
  refine z_start2z (own := RX8) (by decide) (Nat.le_of_ble_eq_true rfl) rfl ?_
  intro p e s m args below meth c A ls Q hx hb hml hts hown hK hE hT hP hD hS hA hl hret
  have hl : lv_has ls 1 [(0, .int k)] := hl
  refine lv_iload_n hx hb dX8_isSignOf_0 rfl (lv_at hl 0 rfl) ?_
  refine lv_bipush (v := 59) hx hb dX8_isSignOf_1 (by decide) ?_
  refine lv_icmp_eq (tgt := 24) hx hb dX8_isSignOf_3 (by decide) (fun c_1 => ?_) (fun c_1 => ?_)
  · skip
    refine lv_iconst (v := 1) hx hb dX8_isSignOf_24 (by decide) ?_
    refine lv_goto (tgt := 29) hx hb dX8_isSignOf_25 (by decide) ?_
    exact hret _ _ _ _ _ _ () [] hP hD hS rfl (by decide) dX8_isSignOf_29 (Or.inr rfl) (Or.inr rfl)
  · skip
    refine lv_iload_n hx hb dX8_isSignOf_6 rfl (lv_at hl 0 rfl) ?_
    refine lv_bipush (v := 60) hx hb dX8_isSignOf_7 (by decide) ?_
    refine lv_icmp_eq (tgt := 24) hx hb dX8_isSignOf_9 (by decide) (fun c_4 => ?_) (fun c_4 => ?_)
    · skip
      refine lv_iconst (v := 1) hx hb dX8_isSignOf_24 (by decide) ?_
      refine lv_goto (tgt := 29) hx hb dX8_isSignOf_25 (by decide) ?_
      exact hret _ _ _ _ _ _ () [] hP hD hS rfl (by decide) dX8_isSignOf_29 (Or.inr rfl) (Or.inr rfl)
    · skip
      refine lv_iload_n hx hb dX8_isSignOf_12 rfl (lv_at hl 0 rfl) ?_
      refine lv_bipush (v := 62) hx hb dX8_isSignOf_13 (by decide) ?_
      refine lv_icmp_eq (tgt := 24) hx hb dX8_isSignOf_15 (by decide) (fun c_7 => ?_) (fun c_7 => ?_)
      · skip
        refine lv_iconst (v := 1) hx hb dX8_isSignOf_24 (by decide) ?_
        refine lv_goto (tgt := 29) hx hb dX8_isSignOf_25 (by decide) ?_
        exact hret _ _ _ _ _ _ () [] hP hD hS rfl (by decide) dX8_isSignOf_29 (Or.inr rfl) (Or.inr rfl)
      · skip
        refine lv_iload_n hx hb dX8_isSignOf_18 rfl (lv_at hl 0 rfl) ?_
        refine lv_bipush (v := 61) hx hb dX8_isSignOf_19 (by decide) ?_
        refine lv_icmp_ne (tgt := 28) hx hb dX8_isSignOf_21 (by decide) (fun c_10 => ?_) (fun c_10 => ?_)
        · skip
          refine lv_iconst (v := 0) hx hb dX8_isSignOf_28 (by decide) ?_
          exact hret _ _ _ _ _ _ () [] hP hD hS rfl (by decide) dX8_isSignOf_29 (Or.inl rfl) (Or.inl rfl)
        · skip
          refine lv_iconst (v := 1) hx hb dX8_isSignOf_24 (by decide) ?_
          refine lv_goto (tgt := 29) hx hb dX8_isSignOf_25 (by decide) ?_
          exact hret _ _ _ _ _ _ () [] hP hD hS rfl (by decide) dX8_isSignOf_29 (Or.inr rfl) (Or.inr rfl)
set_option maxHeartbeats 4000000 in
set_option maxRecDepth 100000 in
theorem d_Te_readLetters (l : Launch) (G : va_G) (cA : zCA) (t : Nat) (tape : Nat) (t_fed : Int32) (t_length : Int32) (t_kind : Int32) (t_start : Int32) (t_end : Int32) (t_number : Int32) (t_sign : Int32) (t_letters : Int64) (t_fault : Int32) (t_faultPlace : Int32) (c_tape : Nat → Int32) : zCv l yX8_readLetters cX8_readLetters 1 none ({ frames := 1, cells := 0, slots := 0, locals := 21 }) G cA [.ref t] [(t, .inr (8, [.ref tape, .int t_fed, .int t_length, .int t_kind, .int t_start, .int t_end, .int t_number, .int t_sign, .long t_letters, .int t_fault, .int t_faultPlace])), (tape, .inl (cA.1 2, 900, .inl c_tape))] (S := Int32 × Int64) (fun (u : Int32 × Int64) => True) (fun (u : Int32 × Int64) => [(t, .inr (8, [.ref tape, .int t_fed, .int t_length, .int t_kind, .int t_start, .int u.1, .int t_number, .int t_sign, .long u.2, .int t_fault, .int t_faultPlace])), (tape, .inl (cA.1 2, 900, .inl c_tape))]) 0 0 := by
  refine z_start2v (own := RX8) (by decide) (Nat.le_of_ble_eq_true rfl) rfl ?_
  intro p e s m args below meth c A ls Q hx hb hml hts hown hK hE hT hP hD hS hA hl hret
  have hl : lv_has ls 1 [(0, .ref t)] := hl
  refine lv_aload_n hx hb dX8_readLetters_0 rfl (lv_at hl 0 rfl) ?_
  refine lv_lconst (v := 0) hx hb dX8_readLetters_1 (by decide) ?_
  refine va_put (D := G) (ci := 8) (v := .long 0) (ty := .long) (C := RX8) (T := TX8) (N := 11) hx hb hts inT8 tyX8 tyX8_ok nmX8 hown hK hP hD hS 0 rfl rfl 8 (by decide) (hts _ tw_217) (fun _ h9 => h9) rfl (tyX8_ok 8 (by decide)) rfl rfl (Nat.le_of_ble_eq_true rfl) dX8_readLetters_2 (fun H locs hP hD hS => ?_)
  have hP : va_P G vwCl [(t, .inr (8, [.ref tape, .int t_fed, .int t_length, .int t_kind, .int t_start, .int t_end, .int t_number, .int t_sign, .long 0, .int t_fault, .int t_faultPlace])), (tape, .inl (cA.1 2, 900, .inl c_tape))] H := hP
  have hD : va_D A [(t, .inr (8, [.ref tape, .int t_fed, .int t_length, .int t_kind, .int t_start, .int t_end, .int t_number, .int t_sign, .long 0, .int t_fault, .int t_faultPlace])), (tape, .inl (cA.1 2, 900, .inl c_tape))] := hD
  have hlp_46 : ∀ (n : Nat) (v_44 : Int32) (v_45 : Int64) (H : Heap) (locs : List Loc) (ls : Array Slot), (2147483647 - v_44.toInt).toNat < n → va_P G vwCl [(t, .inr (8, [.ref tape, .int t_fed, .int t_length, .int t_kind, .int t_start, .int v_44, .int t_number, .int t_sign, .long v_45, .int t_fault, .int t_faultPlace])), (tape, .inl (cA.1 2, 900, .inl c_tape))] H → va_D A [(t, .inr (8, [.ref tape, .int t_fed, .int t_length, .int t_kind, .int t_start, .int v_44, .int t_number, .int t_sign, .long v_45, .int t_fault, .int t_faultPlace])), (tape, .inl (cA.1 2, 900, .inl c_tape))] → va_S A s.heap H locs → lv_has ls 1 [(0, .ref t)] → W p l e ({ frames := 1, cells := 0, slots := 0, locals := 21 }) s m args below meth c H locs 0 0 Q (F0 m 5 ls []) := by
    intro n
    induction n with
    | zero =>
      intro v_44 v_45 H locs ls hmu hP hD hS hl
      exact absurd hmu (Nat.not_lt_zero _)
    | succ n ih_47 =>
      intro v_44 v_45 H locs ls hmu hP hD hS hl
      refine lv_aload_n hx hb dX8_readLetters_5 rfl (lv_at hl 0 rfl) ?_
      refine va_get (D := G) (ci := 8) (v := .int v_44) (C := RX8) (T := TX8) (N := 11) hx hb hts inT8 hown hK hP 0 rfl rfl 5 (by decide) (hts _ tw_211) (fun _ h9 => h9) rfl dX8_readLetters_6 ?_
      refine lv_aload_n hx hb dX8_readLetters_9 rfl (lv_at hl 0 rfl) ?_
      refine va_get (D := G) (ci := 8) (v := .int t_length) (C := RX8) (T := TX8) (N := 11) hx hb hts inT8 hown hK hP 0 rfl rfl 2 (by decide) (hts _ tw_208) (fun _ h9 => h9) rfl dX8_readLetters_10 ?_
      refine lv_icmp_ge (tgt := 85) hx hb dX8_readLetters_13 (by decide) (fun c_48 => ?_) (fun c_48 => ?_)
      · have b_49 := z_s1 c_48
        refine lv_aload_n hx hb dX8_readLetters_85 rfl (lv_at hl 0 rfl) ?_
        refine va_get (D := G) (ci := 8) (v := .int v_44) (C := RX8) (T := TX8) (N := 11) hx hb hts inT8 hown hK hP 0 rfl rfl 5 (by decide) (hts _ tw_211) (fun _ h9 => h9) rfl dX8_readLetters_86 ?_
        refine lv_aload_n hx hb dX8_readLetters_89 rfl (lv_at hl 0 rfl) ?_
        refine va_get (D := G) (ci := 8) (v := .int t_start) (C := RX8) (T := TX8) (N := 11) hx hb hts inT8 hown hK hP 0 rfl rfl 4 (by decide) (hts _ tw_210) (fun _ h9 => h9) rfl dX8_readLetters_90 ?_
        refine lv_isub hx hb dX8_readLetters_93 ?_
        refine lv_topi (fun x_50 _ => ?_)
        refine lv_bipush (v := 8) hx hb dX8_readLetters_94 (by decide) ?_
        refine lv_icmp_le (tgt := 104) hx hb dX8_readLetters_96 (by decide) (fun c_51 => ?_) (fun c_51 => ?_)
        · have b_52 := z_b5 c_51 (K := 8) (by decide +kernel)
          exact hret _ _ _ _ _ (v_44, v_45) [0, 1] hP hD hS rfl (by decide) dX8_readLetters_104 trivial
        · have b_53 := z_b6 c_51 (K := 8) (by decide +kernel)
          refine lv_aload_n hx hb dX8_readLetters_99 rfl (lv_at hl 0 rfl) ?_
          refine lv_lconst (v := 0) hx hb dX8_readLetters_100 (by decide) ?_
          refine va_put (D := G) (ci := 8) (v := .long 0) (ty := .long) (C := RX8) (T := TX8) (N := 11) hx hb hts inT8 tyX8 tyX8_ok nmX8 hown hK hP hD hS 0 rfl rfl 8 (by decide) (hts _ tw_217) (fun _ h9 => h9) rfl (tyX8_ok 8 (by decide)) rfl rfl (Nat.le_of_ble_eq_true rfl) dX8_readLetters_101 (fun H locs hP hD hS => ?_)
          have hP : va_P G vwCl [(t, .inr (8, [.ref tape, .int t_fed, .int t_length, .int t_kind, .int t_start, .int v_44, .int t_number, .int t_sign, .long 0, .int t_fault, .int t_faultPlace])), (tape, .inl (cA.1 2, 900, .inl c_tape))] H := hP
          have hD : va_D A [(t, .inr (8, [.ref tape, .int t_fed, .int t_length, .int t_kind, .int t_start, .int v_44, .int t_number, .int t_sign, .long 0, .int t_fault, .int t_faultPlace])), (tape, .inl (cA.1 2, 900, .inl c_tape))] := hD
          exact hret _ _ _ _ _ (v_44, 0) [0, 1] hP hD hS rfl (by decide) dX8_readLetters_104 trivial
      · have b_54 := z_s2 c_48
        refine lv_aload_n hx hb dX8_readLetters_16 rfl (lv_at hl 0 rfl) ?_
        refine lv_aload_n hx hb dX8_readLetters_17 rfl (lv_at hl 0 rfl) ?_
        refine va_get (D := G) (ci := 8) (v := .int v_44) (C := RX8) (T := TX8) (N := 11) hx hb hts inT8 hown hK hP 0 rfl rfl 5 (by decide) (hts _ tw_211) (fun _ h9 => h9) rfl dX8_readLetters_18 ?_
        refine z_callVi (As := [.int v_44]) (rest := []) (wr := []) ⟨hx, hb, hml, hown, hts⟩ hK hE hT hP hD hS hA (d_Te_byteAt l G cA t tape t_fed t_length t_kind t_start v_44 t_number t_sign v_45 t_fault t_faultPlace c_tape v_44) lk_RX8_40 ⟨rfl, rfl⟩ ⟨Nat.le_of_ble_eq_true rfl, Nat.le_of_ble_eq_true rfl⟩ 8 rfl rfl rfl [0, 1] [] rfl rfl (by decide) rfl hl.1 rfl (lv_room (Nat.le_of_ble_eq_true rfl)) dX8_readLetters_21 ⟨Nat.le_of_ble_eq_true rfl, Nat.le_of_ble_eq_true rfl⟩ (fun r_55 u_56 H locs hw hP hD hS => ?_)
        have hP : va_P G vwCl [(t, .inr (8, [.ref tape, .int t_fed, .int t_length, .int t_kind, .int t_start, .int v_44, .int t_number, .int t_sign, .long v_45, .int t_fault, .int t_faultPlace])), (tape, .inl (cA.1 2, 900, .inl c_tape))] H := hP
        have hD : va_D A [(t, .inr (8, [.ref tape, .int t_fed, .int t_length, .int t_kind, .int t_start, .int v_44, .int t_number, .int t_sign, .long v_45, .int t_fault, .int t_faultPlace])), (tape, .inl (cA.1 2, 900, .inl c_tape))] := hD
        refine z_callSi (As := [.int r_55]) (rest := []) (wr := [(t, .inr (8, [.ref tape, .int t_fed, .int t_length, .int t_kind, .int t_start, .int v_44, .int t_number, .int t_sign, .long v_45, .int t_fault, .int t_faultPlace])), (tape, .inl (cA.1 2, 900, .inl c_tape))]) ⟨hx, hb, hml, hown, hts⟩ hK hE hT hP hD hS hA (d_Te_isLetter l G cA r_55) lk_RX8_48 ⟨rfl, rfl⟩ ⟨Nat.le_of_ble_eq_true rfl, Nat.le_of_ble_eq_true rfl⟩ [] [0, 1] rfl rfl (by decide) rfl hl.1 rfl (lv_room (Nat.le_of_ble_eq_true rfl)) dX8_readLetters_24 ⟨Nat.le_of_ble_eq_true rfl, Nat.le_of_ble_eq_true rfl⟩ (fun r_57 u_58 H locs hw hP hD hS => ?_)
        have hP : va_P G vwCl [(t, .inr (8, [.ref tape, .int t_fed, .int t_length, .int t_kind, .int t_start, .int v_44, .int t_number, .int t_sign, .long v_45, .int t_fault, .int t_faultPlace])), (tape, .inl (cA.1 2, 900, .inl c_tape))] H := hP
        have hD : va_D A [(t, .inr (8, [.ref tape, .int t_fed, .int t_length, .int t_kind, .int t_start, .int v_44, .int t_number, .int t_sign, .long v_45, .int t_fault, .int t_faultPlace])), (tape, .inl (cA.1 2, 900, .inl c_tape))] := hD
        have hz_r_57 := hw
        refine lv_if_eq (tgt := 85) hx hb dX8_readLetters_27 (by decide) (fun c_59 => ?_) (fun c_59 => ?_)
        · skip
          refine lv_aload_n hx hb dX8_readLetters_85 rfl (lv_at hl 0 rfl) ?_
          refine va_get (D := G) (ci := 8) (v := .int v_44) (C := RX8) (T := TX8) (N := 11) hx hb hts inT8 hown hK hP 0 rfl rfl 5 (by decide) (hts _ tw_211) (fun _ h9 => h9) rfl dX8_readLetters_86 ?_
          refine lv_aload_n hx hb dX8_readLetters_89 rfl (lv_at hl 0 rfl) ?_
          refine va_get (D := G) (ci := 8) (v := .int t_start) (C := RX8) (T := TX8) (N := 11) hx hb hts inT8 hown hK hP 0 rfl rfl 4 (by decide) (hts _ tw_210) (fun _ h9 => h9) rfl dX8_readLetters_90 ?_
          refine lv_isub hx hb dX8_readLetters_93 ?_
          refine lv_topi (fun x_61 _ => ?_)
          refine lv_bipush (v := 8) hx hb dX8_readLetters_94 (by decide) ?_
          refine lv_icmp_le (tgt := 104) hx hb dX8_readLetters_96 (by decide) (fun c_62 => ?_) (fun c_62 => ?_)
          · have b_63 := z_b5 c_62 (K := 8) (by decide +kernel)
            exact hret _ _ _ _ _ (v_44, v_45) [0, 1] hP hD hS rfl (by decide) dX8_readLetters_104 trivial
          · have b_64 := z_b6 c_62 (K := 8) (by decide +kernel)
            refine lv_aload_n hx hb dX8_readLetters_99 rfl (lv_at hl 0 rfl) ?_
            refine lv_lconst (v := 0) hx hb dX8_readLetters_100 (by decide) ?_
            refine va_put (D := G) (ci := 8) (v := .long 0) (ty := .long) (C := RX8) (T := TX8) (N := 11) hx hb hts inT8 tyX8 tyX8_ok nmX8 hown hK hP hD hS 0 rfl rfl 8 (by decide) (hts _ tw_217) (fun _ h9 => h9) rfl (tyX8_ok 8 (by decide)) rfl rfl (Nat.le_of_ble_eq_true rfl) dX8_readLetters_101 (fun H locs hP hD hS => ?_)
            have hP : va_P G vwCl [(t, .inr (8, [.ref tape, .int t_fed, .int t_length, .int t_kind, .int t_start, .int v_44, .int t_number, .int t_sign, .long 0, .int t_fault, .int t_faultPlace])), (tape, .inl (cA.1 2, 900, .inl c_tape))] H := hP
            have hD : va_D A [(t, .inr (8, [.ref tape, .int t_fed, .int t_length, .int t_kind, .int t_start, .int v_44, .int t_number, .int t_sign, .long 0, .int t_fault, .int t_faultPlace])), (tape, .inl (cA.1 2, 900, .inl c_tape))] := hD
            exact hret _ _ _ _ _ (v_44, 0) [0, 1] hP hD hS rfl (by decide) dX8_readLetters_104 trivial
        · skip
          refine lv_aload_n hx hb dX8_readLetters_30 rfl (lv_at hl 0 rfl) ?_
          refine va_get (D := G) (ci := 8) (v := .int v_44) (C := RX8) (T := TX8) (N := 11) hx hb hts inT8 hown hK hP 0 rfl rfl 5 (by decide) (hts _ tw_211) (fun _ h9 => h9) rfl dX8_readLetters_31 ?_
          refine lv_aload_n hx hb dX8_readLetters_34 rfl (lv_at hl 0 rfl) ?_
          refine va_get (D := G) (ci := 8) (v := .int t_start) (C := RX8) (T := TX8) (N := 11) hx hb hts inT8 hown hK hP 0 rfl rfl 4 (by decide) (hts _ tw_210) (fun _ h9 => h9) rfl dX8_readLetters_35 ?_
          refine lv_isub hx hb dX8_readLetters_38 ?_
          refine lv_topi (fun x_66 _ => ?_)
          refine lv_bipush (v := 8) hx hb dX8_readLetters_39 (by decide) ?_
          refine lv_icmp_ge (tgt := 72) hx hb dX8_readLetters_41 (by decide) (fun c_67 => ?_) (fun c_67 => ?_)
          · have b_68 := z_b1 c_67 (K := 8) (by decide +kernel)
            refine lv_aload_n hx hb dX8_readLetters_72 rfl (lv_at hl 0 rfl) ?_
            refine lv_dup hx hb dX8_readLetters_73 rfl ?_
            refine va_get (D := G) (ci := 8) (v := .int v_44) (C := RX8) (T := TX8) (N := 11) hx hb hts inT8 hown hK hP 0 rfl rfl 5 (by decide) (hts _ tw_211) (fun _ h9 => h9) rfl dX8_readLetters_74 ?_
            refine lv_iconst (v := 1) hx hb dX8_readLetters_77 (by decide) ?_
            refine lv_iadd hx hb dX8_readLetters_78 ?_
            refine va_put (D := G) (ci := 8) (v := .int (v_44 + 1)) (ty := .int) (C := RX8) (T := TX8) (N := 11) hx hb hts inT8 tyX8 tyX8_ok nmX8 hown hK hP hD hS 0 rfl rfl 5 (by decide) (hts _ tw_211) (fun _ h9 => h9) rfl (tyX8_ok 5 (by decide)) rfl rfl (Nat.le_of_ble_eq_true rfl) dX8_readLetters_79 (fun H locs hP hD hS => ?_)
            have hP : va_P G vwCl [(t, .inr (8, [.ref tape, .int t_fed, .int t_length, .int t_kind, .int t_start, .int (v_44 + 1), .int t_number, .int t_sign, .long v_45, .int t_fault, .int t_faultPlace])), (tape, .inl (cA.1 2, 900, .inl c_tape))] H := hP
            have hD : va_D A [(t, .inr (8, [.ref tape, .int t_fed, .int t_length, .int t_kind, .int t_start, .int (v_44 + 1), .int t_number, .int t_sign, .long v_45, .int t_fault, .int t_faultPlace])), (tape, .inl (cA.1 2, 900, .inl c_tape))] := hD
            refine lv_goto (tgt := 5) hx hb dX8_readLetters_82 (by decide) ?_
            exact ih_47 (v_44 + 1) v_45 H locs ls (z_up hmu (by omega) (by omega)) hP hD hS (lv_sub hl [0] rfl)
          · have b_69 := z_b2 c_67 (K := 8) (by decide +kernel)
            refine lv_aload_n hx hb dX8_readLetters_44 rfl (lv_at hl 0 rfl) ?_
            refine lv_aload_n hx hb dX8_readLetters_45 rfl (lv_at hl 0 rfl) ?_
            refine va_get (D := G) (ci := 8) (v := .long v_45) (C := RX8) (T := TX8) (N := 11) hx hb hts inT8 hown hK hP 0 rfl rfl 8 (by decide) (hts _ tw_217) (fun _ h9 => h9) rfl dX8_readLetters_46 ?_
            refine lv_ldc2 (v := 32) hx hb hown (hts _ tw_838) dX8_readLetters_49 ?_
            refine lv_lmul hx hb dX8_readLetters_52 ?_
            refine lv_topl (fun x_70 _ => ?_)
            refine lv_aload_n hx hb dX8_readLetters_53 rfl (lv_at hl 0 rfl) ?_
            refine lv_aload_n hx hb dX8_readLetters_54 rfl (lv_at hl 0 rfl) ?_
            refine va_get (D := G) (ci := 8) (v := .int v_44) (C := RX8) (T := TX8) (N := 11) hx hb hts inT8 hown hK hP 0 rfl rfl 5 (by decide) (hts _ tw_211) (fun _ h9 => h9) rfl dX8_readLetters_55 ?_
            refine z_callVi (As := [.int v_44]) (rest := [.long x_70, .ref t]) (wr := []) ⟨hx, hb, hml, hown, hts⟩ hK hE hT hP hD hS hA (d_Te_byteAt l G cA t tape t_fed t_length t_kind t_start v_44 t_number t_sign v_45 t_fault t_faultPlace c_tape v_44) lk_RX8_40 ⟨rfl, rfl⟩ ⟨Nat.le_of_ble_eq_true rfl, Nat.le_of_ble_eq_true rfl⟩ 8 rfl rfl rfl [0, 1] [] rfl rfl (by decide) rfl hl.1 rfl (lv_room (Nat.le_of_ble_eq_true rfl)) dX8_readLetters_58 ⟨Nat.le_of_ble_eq_true rfl, Nat.le_of_ble_eq_true rfl⟩ (fun r_71 u_72 H locs hw hP hD hS => ?_)
            have hP : va_P G vwCl [(t, .inr (8, [.ref tape, .int t_fed, .int t_length, .int t_kind, .int t_start, .int v_44, .int t_number, .int t_sign, .long v_45, .int t_fault, .int t_faultPlace])), (tape, .inl (cA.1 2, 900, .inl c_tape))] H := hP
            have hD : va_D A [(t, .inr (8, [.ref tape, .int t_fed, .int t_length, .int t_kind, .int t_start, .int v_44, .int t_number, .int t_sign, .long v_45, .int t_fault, .int t_faultPlace])), (tape, .inl (cA.1 2, 900, .inl c_tape))] := hD
            refine lv_i2l (v := (r_71).toInt64) hx hb dX8_readLetters_61 rfl ?_
            refine lv_topl (fun x_73 _ => ?_)
            refine lv_ladd hx hb dX8_readLetters_62 ?_
            refine lv_topl (fun x_74 _ => ?_)
            refine lv_ldc2 (v := 97) hx hb hown (hts _ tw_839) dX8_readLetters_63 ?_
            refine lv_lsub hx hb dX8_readLetters_66 ?_
            refine lv_topl (fun x_75 _ => ?_)
            refine lv_lconst (v := 1) hx hb dX8_readLetters_67 (by decide) ?_
            refine lv_ladd hx hb dX8_readLetters_68 ?_
            refine lv_topl (fun x_76 _ => ?_)
            refine va_put (D := G) (ci := 8) (v := .long x_76) (ty := .long) (C := RX8) (T := TX8) (N := 11) hx hb hts inT8 tyX8 tyX8_ok nmX8 hown hK hP hD hS 0 rfl rfl 8 (by decide) (hts _ tw_217) (fun _ h9 => h9) rfl (tyX8_ok 8 (by decide)) rfl rfl (Nat.le_of_ble_eq_true rfl) dX8_readLetters_69 (fun H locs hP hD hS => ?_)
            have hP : va_P G vwCl [(t, .inr (8, [.ref tape, .int t_fed, .int t_length, .int t_kind, .int t_start, .int v_44, .int t_number, .int t_sign, .long x_76, .int t_fault, .int t_faultPlace])), (tape, .inl (cA.1 2, 900, .inl c_tape))] H := hP
            have hD : va_D A [(t, .inr (8, [.ref tape, .int t_fed, .int t_length, .int t_kind, .int t_start, .int v_44, .int t_number, .int t_sign, .long x_76, .int t_fault, .int t_faultPlace])), (tape, .inl (cA.1 2, 900, .inl c_tape))] := hD
            refine lv_aload_n hx hb dX8_readLetters_72 rfl (lv_at hl 0 rfl) ?_
            refine lv_dup hx hb dX8_readLetters_73 rfl ?_
            refine va_get (D := G) (ci := 8) (v := .int v_44) (C := RX8) (T := TX8) (N := 11) hx hb hts inT8 hown hK hP 0 rfl rfl 5 (by decide) (hts _ tw_211) (fun _ h9 => h9) rfl dX8_readLetters_74 ?_
            refine lv_iconst (v := 1) hx hb dX8_readLetters_77 (by decide) ?_
            refine lv_iadd hx hb dX8_readLetters_78 ?_
            refine va_put (D := G) (ci := 8) (v := .int (v_44 + 1)) (ty := .int) (C := RX8) (T := TX8) (N := 11) hx hb hts inT8 tyX8 tyX8_ok nmX8 hown hK hP hD hS 0 rfl rfl 5 (by decide) (hts _ tw_211) (fun _ h9 => h9) rfl (tyX8_ok 5 (by decide)) rfl rfl (Nat.le_of_ble_eq_true rfl) dX8_readLetters_79 (fun H locs hP hD hS => ?_)
            have hP : va_P G vwCl [(t, .inr (8, [.ref tape, .int t_fed, .int t_length, .int t_kind, .int t_start, .int (v_44 + 1), .int t_number, .int t_sign, .long x_76, .int t_fault, .int t_faultPlace])), (tape, .inl (cA.1 2, 900, .inl c_tape))] H := hP
            have hD : va_D A [(t, .inr (8, [.ref tape, .int t_fed, .int t_length, .int t_kind, .int t_start, .int (v_44 + 1), .int t_number, .int t_sign, .long x_76, .int t_fault, .int t_faultPlace])), (tape, .inl (cA.1 2, 900, .inl c_tape))] := hD
            refine lv_goto (tgt := 5) hx hb dX8_readLetters_82 (by decide) ?_
            exact ih_47 (v_44 + 1) x_76 H locs ls (z_up hmu (by omega) (by omega)) hP hD hS (lv_sub hl [0] rfl)
  exact hlp_46 _ t_end 0 _ _ _ (Nat.lt_succ_self _) hP hD hS (lv_sub hl [0] rfl)
set_option maxHeartbeats 4000000 in
set_option maxRecDepth 100000 in
theorem d_Te_readDigits (l : Launch) (G : va_G) (cA : zCA) (t : Nat) (tape : Nat) (t_fed : Int32) (t_length : Int32) (t_kind : Int32) (t_start : Int32) (t_end : Int32) (t_number : Int32) (t_sign : Int32) (t_letters : Int64) (t_fault : Int32) (t_faultPlace : Int32) (c_tape : Nat → Int32) : zCv l yX8_readDigits cX8_readDigits 1 none ({ frames := 1, cells := 0, slots := 0, locals := 21 }) G cA [.ref t] [(t, .inr (8, [.ref tape, .int t_fed, .int t_length, .int t_kind, .int t_start, .int t_end, .int t_number, .int t_sign, .long t_letters, .int t_fault, .int t_faultPlace])), (tape, .inl (cA.1 2, 900, .inl c_tape))] (S := Int32 × Int32 × Int32) (fun (u : Int32 × Int32 × Int32) => True) (fun (u : Int32 × Int32 × Int32) => [(t, .inr (8, [.ref tape, .int t_fed, .int t_length, .int u.1, .int t_start, .int u.2.1, .int u.2.2, .int t_sign, .long t_letters, .int t_fault, .int t_faultPlace])), (tape, .inl (cA.1 2, 900, .inl c_tape))]) 0 0 := by
  refine z_start2v (own := RX8) (by decide) (Nat.le_of_ble_eq_true rfl) rfl ?_
  intro p e s m args below meth c A ls Q hx hb hml hts hown hK hE hT hP hD hS hA hl hret
  have hl : lv_has ls 1 [(0, .ref t)] := hl
  refine lv_aload_n hx hb dX8_readDigits_0 rfl (lv_at hl 0 rfl) ?_
  refine lv_iconst (v := 0) hx hb dX8_readDigits_1 (by decide) ?_
  refine va_put (D := G) (ci := 8) (v := .int 0) (ty := .int) (C := RX8) (T := TX8) (N := 11) hx hb hts inT8 tyX8 tyX8_ok nmX8 hown hK hP hD hS 0 rfl rfl 6 (by decide) (hts _ tw_213) (fun _ h9 => h9) rfl (tyX8_ok 6 (by decide)) rfl rfl (Nat.le_of_ble_eq_true rfl) dX8_readDigits_2 (fun H locs hP hD hS => ?_)
  have hP : va_P G vwCl [(t, .inr (8, [.ref tape, .int t_fed, .int t_length, .int t_kind, .int t_start, .int t_end, .int 0, .int t_sign, .long t_letters, .int t_fault, .int t_faultPlace])), (tape, .inl (cA.1 2, 900, .inl c_tape))] H := hP
  have hD : va_D A [(t, .inr (8, [.ref tape, .int t_fed, .int t_length, .int t_kind, .int t_start, .int t_end, .int 0, .int t_sign, .long t_letters, .int t_fault, .int t_faultPlace])), (tape, .inl (cA.1 2, 900, .inl c_tape))] := hD
  have hlp_40 : ∀ (n : Nat) (v_38 : Int32) (v_39 : Int32) (H : Heap) (locs : List Loc) (ls : Array Slot), (2147483647 - v_38.toInt).toNat < n → va_P G vwCl [(t, .inr (8, [.ref tape, .int t_fed, .int t_length, .int t_kind, .int t_start, .int v_38, .int v_39, .int t_sign, .long t_letters, .int t_fault, .int t_faultPlace])), (tape, .inl (cA.1 2, 900, .inl c_tape))] H → va_D A [(t, .inr (8, [.ref tape, .int t_fed, .int t_length, .int t_kind, .int t_start, .int v_38, .int v_39, .int t_sign, .long t_letters, .int t_fault, .int t_faultPlace])), (tape, .inl (cA.1 2, 900, .inl c_tape))] → va_S A s.heap H locs → lv_has ls 1 [(0, .ref t)] → W p l e ({ frames := 1, cells := 0, slots := 0, locals := 21 }) s m args below meth c H locs 0 0 Q (F0 m 5 ls []) := by
    intro n
    induction n with
    | zero =>
      intro v_38 v_39 H locs ls hmu hP hD hS hl
      exact absurd hmu (Nat.not_lt_zero _)
    | succ n ih_41 =>
      intro v_38 v_39 H locs ls hmu hP hD hS hl
      refine lv_aload_n hx hb dX8_readDigits_5 rfl (lv_at hl 0 rfl) ?_
      refine va_get (D := G) (ci := 8) (v := .int v_38) (C := RX8) (T := TX8) (N := 11) hx hb hts inT8 hown hK hP 0 rfl rfl 5 (by decide) (hts _ tw_211) (fun _ h9 => h9) rfl dX8_readDigits_6 ?_
      refine lv_aload_n hx hb dX8_readDigits_9 rfl (lv_at hl 0 rfl) ?_
      refine va_get (D := G) (ci := 8) (v := .int t_length) (C := RX8) (T := TX8) (N := 11) hx hb hts inT8 hown hK hP 0 rfl rfl 2 (by decide) (hts _ tw_208) (fun _ h9 => h9) rfl dX8_readDigits_10 ?_
      refine lv_icmp_ge (tgt := 79) hx hb dX8_readDigits_13 (by decide) (fun c_42 => ?_) (fun c_42 => ?_)
      · have b_43 := z_s1 c_42
        refine lv_aload_n hx hb dX8_readDigits_79 rfl (lv_at hl 0 rfl) ?_
        refine lv_aload_n hx hb dX8_readDigits_80 rfl (lv_at hl 0 rfl) ?_
        refine va_get (D := G) (ci := 8) (v := .int v_38) (C := RX8) (T := TX8) (N := 11) hx hb hts inT8 hown hK hP 0 rfl rfl 5 (by decide) (hts _ tw_211) (fun _ h9 => h9) rfl dX8_readDigits_81 ?_
        refine lv_aload_n hx hb dX8_readDigits_84 rfl (lv_at hl 0 rfl) ?_
        refine va_get (D := G) (ci := 8) (v := .int t_start) (C := RX8) (T := TX8) (N := 11) hx hb hts inT8 hown hK hP 0 rfl rfl 4 (by decide) (hts _ tw_210) (fun _ h9 => h9) rfl dX8_readDigits_85 ?_
        refine lv_isub hx hb dX8_readDigits_88 ?_
        refine lv_topi (fun x_44 _ => ?_)
        refine lv_iconst (v := 4) hx hb dX8_readDigits_89 (by decide) ?_
        refine lv_icmp_le (tgt := 97) hx hb dX8_readDigits_90 (by decide) (fun c_45 => ?_) (fun c_45 => ?_)
        · have b_46 := z_b5 c_45 (K := 4) (by decide +kernel)
          refine lv_iconst (v := 2) hx hb dX8_readDigits_97 (by decide) ?_
          refine va_put (D := G) (ci := 8) (v := .int 2) (ty := .int) (C := RX8) (T := TX8) (N := 11) hx hb hts inT8 tyX8 tyX8_ok nmX8 hown hK hP hD hS 0 rfl rfl 3 (by decide) (hts _ tw_209) (fun _ h9 => h9) rfl (tyX8_ok 3 (by decide)) rfl rfl (Nat.le_of_ble_eq_true rfl) dX8_readDigits_98 (fun H locs hP hD hS => ?_)
          have hP : va_P G vwCl [(t, .inr (8, [.ref tape, .int t_fed, .int t_length, .int 2, .int t_start, .int v_38, .int v_39, .int t_sign, .long t_letters, .int t_fault, .int t_faultPlace])), (tape, .inl (cA.1 2, 900, .inl c_tape))] H := hP
          have hD : va_D A [(t, .inr (8, [.ref tape, .int t_fed, .int t_length, .int 2, .int t_start, .int v_38, .int v_39, .int t_sign, .long t_letters, .int t_fault, .int t_faultPlace])), (tape, .inl (cA.1 2, 900, .inl c_tape))] := hD
          exact hret _ _ _ _ _ (2, v_38, v_39) [0, 1] hP hD hS rfl (by decide) dX8_readDigits_101 trivial
        · have b_47 := z_b6 c_45 (K := 4) (by decide +kernel)
          refine lv_iconst (v := 4) hx hb dX8_readDigits_93 (by decide) ?_
          refine lv_goto (tgt := 98) hx hb dX8_readDigits_94 (by decide) ?_
          refine va_put (D := G) (ci := 8) (v := .int 4) (ty := .int) (C := RX8) (T := TX8) (N := 11) hx hb hts inT8 tyX8 tyX8_ok nmX8 hown hK hP hD hS 0 rfl rfl 3 (by decide) (hts _ tw_209) (fun _ h9 => h9) rfl (tyX8_ok 3 (by decide)) rfl rfl (Nat.le_of_ble_eq_true rfl) dX8_readDigits_98 (fun H locs hP hD hS => ?_)
          have hP : va_P G vwCl [(t, .inr (8, [.ref tape, .int t_fed, .int t_length, .int 4, .int t_start, .int v_38, .int v_39, .int t_sign, .long t_letters, .int t_fault, .int t_faultPlace])), (tape, .inl (cA.1 2, 900, .inl c_tape))] H := hP
          have hD : va_D A [(t, .inr (8, [.ref tape, .int t_fed, .int t_length, .int 4, .int t_start, .int v_38, .int v_39, .int t_sign, .long t_letters, .int t_fault, .int t_faultPlace])), (tape, .inl (cA.1 2, 900, .inl c_tape))] := hD
          exact hret _ _ _ _ _ (4, v_38, v_39) [0, 1] hP hD hS rfl (by decide) dX8_readDigits_101 trivial
      · have b_48 := z_s2 c_42
        refine lv_aload_n hx hb dX8_readDigits_16 rfl (lv_at hl 0 rfl) ?_
        refine lv_aload_n hx hb dX8_readDigits_17 rfl (lv_at hl 0 rfl) ?_
        refine va_get (D := G) (ci := 8) (v := .int v_38) (C := RX8) (T := TX8) (N := 11) hx hb hts inT8 hown hK hP 0 rfl rfl 5 (by decide) (hts _ tw_211) (fun _ h9 => h9) rfl dX8_readDigits_18 ?_
        refine z_callVi (As := [.int v_38]) (rest := []) (wr := []) ⟨hx, hb, hml, hown, hts⟩ hK hE hT hP hD hS hA (d_Te_byteAt l G cA t tape t_fed t_length t_kind t_start v_38 v_39 t_sign t_letters t_fault t_faultPlace c_tape v_38) lk_RX8_40 ⟨rfl, rfl⟩ ⟨Nat.le_of_ble_eq_true rfl, Nat.le_of_ble_eq_true rfl⟩ 8 rfl rfl rfl [0, 1] [] rfl rfl (by decide) rfl hl.1 rfl (lv_room (Nat.le_of_ble_eq_true rfl)) dX8_readDigits_21 ⟨Nat.le_of_ble_eq_true rfl, Nat.le_of_ble_eq_true rfl⟩ (fun r_49 u_50 H locs hw hP hD hS => ?_)
        have hP : va_P G vwCl [(t, .inr (8, [.ref tape, .int t_fed, .int t_length, .int t_kind, .int t_start, .int v_38, .int v_39, .int t_sign, .long t_letters, .int t_fault, .int t_faultPlace])), (tape, .inl (cA.1 2, 900, .inl c_tape))] H := hP
        have hD : va_D A [(t, .inr (8, [.ref tape, .int t_fed, .int t_length, .int t_kind, .int t_start, .int v_38, .int v_39, .int t_sign, .long t_letters, .int t_fault, .int t_faultPlace])), (tape, .inl (cA.1 2, 900, .inl c_tape))] := hD
        refine z_callSi (As := [.int r_49]) (rest := []) (wr := [(t, .inr (8, [.ref tape, .int t_fed, .int t_length, .int t_kind, .int t_start, .int v_38, .int v_39, .int t_sign, .long t_letters, .int t_fault, .int t_faultPlace])), (tape, .inl (cA.1 2, 900, .inl c_tape))]) ⟨hx, hb, hml, hown, hts⟩ hK hE hT hP hD hS hA (d_Te_isDigit l G cA r_49) lk_RX8_54 ⟨rfl, rfl⟩ ⟨Nat.le_of_ble_eq_true rfl, Nat.le_of_ble_eq_true rfl⟩ [] [0, 1] rfl rfl (by decide) rfl hl.1 rfl (lv_room (Nat.le_of_ble_eq_true rfl)) dX8_readDigits_24 ⟨Nat.le_of_ble_eq_true rfl, Nat.le_of_ble_eq_true rfl⟩ (fun r_51 u_52 H locs hw hP hD hS => ?_)
        have hP : va_P G vwCl [(t, .inr (8, [.ref tape, .int t_fed, .int t_length, .int t_kind, .int t_start, .int v_38, .int v_39, .int t_sign, .long t_letters, .int t_fault, .int t_faultPlace])), (tape, .inl (cA.1 2, 900, .inl c_tape))] H := hP
        have hD : va_D A [(t, .inr (8, [.ref tape, .int t_fed, .int t_length, .int t_kind, .int t_start, .int v_38, .int v_39, .int t_sign, .long t_letters, .int t_fault, .int t_faultPlace])), (tape, .inl (cA.1 2, 900, .inl c_tape))] := hD
        have hz_r_51 := hw
        refine lv_if_eq (tgt := 79) hx hb dX8_readDigits_27 (by decide) (fun c_53 => ?_) (fun c_53 => ?_)
        · skip
          refine lv_aload_n hx hb dX8_readDigits_79 rfl (lv_at hl 0 rfl) ?_
          refine lv_aload_n hx hb dX8_readDigits_80 rfl (lv_at hl 0 rfl) ?_
          refine va_get (D := G) (ci := 8) (v := .int v_38) (C := RX8) (T := TX8) (N := 11) hx hb hts inT8 hown hK hP 0 rfl rfl 5 (by decide) (hts _ tw_211) (fun _ h9 => h9) rfl dX8_readDigits_81 ?_
          refine lv_aload_n hx hb dX8_readDigits_84 rfl (lv_at hl 0 rfl) ?_
          refine va_get (D := G) (ci := 8) (v := .int t_start) (C := RX8) (T := TX8) (N := 11) hx hb hts inT8 hown hK hP 0 rfl rfl 4 (by decide) (hts _ tw_210) (fun _ h9 => h9) rfl dX8_readDigits_85 ?_
          refine lv_isub hx hb dX8_readDigits_88 ?_
          refine lv_topi (fun x_55 _ => ?_)
          refine lv_iconst (v := 4) hx hb dX8_readDigits_89 (by decide) ?_
          refine lv_icmp_le (tgt := 97) hx hb dX8_readDigits_90 (by decide) (fun c_56 => ?_) (fun c_56 => ?_)
          · have b_57 := z_b5 c_56 (K := 4) (by decide +kernel)
            refine lv_iconst (v := 2) hx hb dX8_readDigits_97 (by decide) ?_
            refine va_put (D := G) (ci := 8) (v := .int 2) (ty := .int) (C := RX8) (T := TX8) (N := 11) hx hb hts inT8 tyX8 tyX8_ok nmX8 hown hK hP hD hS 0 rfl rfl 3 (by decide) (hts _ tw_209) (fun _ h9 => h9) rfl (tyX8_ok 3 (by decide)) rfl rfl (Nat.le_of_ble_eq_true rfl) dX8_readDigits_98 (fun H locs hP hD hS => ?_)
            have hP : va_P G vwCl [(t, .inr (8, [.ref tape, .int t_fed, .int t_length, .int 2, .int t_start, .int v_38, .int v_39, .int t_sign, .long t_letters, .int t_fault, .int t_faultPlace])), (tape, .inl (cA.1 2, 900, .inl c_tape))] H := hP
            have hD : va_D A [(t, .inr (8, [.ref tape, .int t_fed, .int t_length, .int 2, .int t_start, .int v_38, .int v_39, .int t_sign, .long t_letters, .int t_fault, .int t_faultPlace])), (tape, .inl (cA.1 2, 900, .inl c_tape))] := hD
            exact hret _ _ _ _ _ (2, v_38, v_39) [0, 1] hP hD hS rfl (by decide) dX8_readDigits_101 trivial
          · have b_58 := z_b6 c_56 (K := 4) (by decide +kernel)
            refine lv_iconst (v := 4) hx hb dX8_readDigits_93 (by decide) ?_
            refine lv_goto (tgt := 98) hx hb dX8_readDigits_94 (by decide) ?_
            refine va_put (D := G) (ci := 8) (v := .int 4) (ty := .int) (C := RX8) (T := TX8) (N := 11) hx hb hts inT8 tyX8 tyX8_ok nmX8 hown hK hP hD hS 0 rfl rfl 3 (by decide) (hts _ tw_209) (fun _ h9 => h9) rfl (tyX8_ok 3 (by decide)) rfl rfl (Nat.le_of_ble_eq_true rfl) dX8_readDigits_98 (fun H locs hP hD hS => ?_)
            have hP : va_P G vwCl [(t, .inr (8, [.ref tape, .int t_fed, .int t_length, .int 4, .int t_start, .int v_38, .int v_39, .int t_sign, .long t_letters, .int t_fault, .int t_faultPlace])), (tape, .inl (cA.1 2, 900, .inl c_tape))] H := hP
            have hD : va_D A [(t, .inr (8, [.ref tape, .int t_fed, .int t_length, .int 4, .int t_start, .int v_38, .int v_39, .int t_sign, .long t_letters, .int t_fault, .int t_faultPlace])), (tape, .inl (cA.1 2, 900, .inl c_tape))] := hD
            exact hret _ _ _ _ _ (4, v_38, v_39) [0, 1] hP hD hS rfl (by decide) dX8_readDigits_101 trivial
        · skip
          refine lv_aload_n hx hb dX8_readDigits_30 rfl (lv_at hl 0 rfl) ?_
          refine va_get (D := G) (ci := 8) (v := .int v_38) (C := RX8) (T := TX8) (N := 11) hx hb hts inT8 hown hK hP 0 rfl rfl 5 (by decide) (hts _ tw_211) (fun _ h9 => h9) rfl dX8_readDigits_31 ?_
          refine lv_aload_n hx hb dX8_readDigits_34 rfl (lv_at hl 0 rfl) ?_
          refine va_get (D := G) (ci := 8) (v := .int t_start) (C := RX8) (T := TX8) (N := 11) hx hb hts inT8 hown hK hP 0 rfl rfl 4 (by decide) (hts _ tw_210) (fun _ h9 => h9) rfl dX8_readDigits_35 ?_
          refine lv_isub hx hb dX8_readDigits_38 ?_
          refine lv_topi (fun x_60 _ => ?_)
          refine lv_iconst (v := 4) hx hb dX8_readDigits_39 (by decide) ?_
          refine lv_icmp_ge (tgt := 66) hx hb dX8_readDigits_40 (by decide) (fun c_61 => ?_) (fun c_61 => ?_)
          · have b_62 := z_b1 c_61 (K := 4) (by decide +kernel)
            refine lv_aload_n hx hb dX8_readDigits_66 rfl (lv_at hl 0 rfl) ?_
            refine lv_dup hx hb dX8_readDigits_67 rfl ?_
            refine va_get (D := G) (ci := 8) (v := .int v_38) (C := RX8) (T := TX8) (N := 11) hx hb hts inT8 hown hK hP 0 rfl rfl 5 (by decide) (hts _ tw_211) (fun _ h9 => h9) rfl dX8_readDigits_68 ?_
            refine lv_iconst (v := 1) hx hb dX8_readDigits_71 (by decide) ?_
            refine lv_iadd hx hb dX8_readDigits_72 ?_
            refine va_put (D := G) (ci := 8) (v := .int (v_38 + 1)) (ty := .int) (C := RX8) (T := TX8) (N := 11) hx hb hts inT8 tyX8 tyX8_ok nmX8 hown hK hP hD hS 0 rfl rfl 5 (by decide) (hts _ tw_211) (fun _ h9 => h9) rfl (tyX8_ok 5 (by decide)) rfl rfl (Nat.le_of_ble_eq_true rfl) dX8_readDigits_73 (fun H locs hP hD hS => ?_)
            have hP : va_P G vwCl [(t, .inr (8, [.ref tape, .int t_fed, .int t_length, .int t_kind, .int t_start, .int (v_38 + 1), .int v_39, .int t_sign, .long t_letters, .int t_fault, .int t_faultPlace])), (tape, .inl (cA.1 2, 900, .inl c_tape))] H := hP
            have hD : va_D A [(t, .inr (8, [.ref tape, .int t_fed, .int t_length, .int t_kind, .int t_start, .int (v_38 + 1), .int v_39, .int t_sign, .long t_letters, .int t_fault, .int t_faultPlace])), (tape, .inl (cA.1 2, 900, .inl c_tape))] := hD
            refine lv_goto (tgt := 5) hx hb dX8_readDigits_76 (by decide) ?_
            exact ih_41 (v_38 + 1) v_39 H locs ls (z_up hmu (by omega) (by omega)) hP hD hS (lv_sub hl [0] rfl)
          · have b_63 := z_b2 c_61 (K := 4) (by decide +kernel)
            refine lv_aload_n hx hb dX8_readDigits_43 rfl (lv_at hl 0 rfl) ?_
            refine lv_aload_n hx hb dX8_readDigits_44 rfl (lv_at hl 0 rfl) ?_
            refine va_get (D := G) (ci := 8) (v := .int v_39) (C := RX8) (T := TX8) (N := 11) hx hb hts inT8 hown hK hP 0 rfl rfl 6 (by decide) (hts _ tw_213) (fun _ h9 => h9) rfl dX8_readDigits_45 ?_
            refine lv_bipush (v := 10) hx hb dX8_readDigits_48 (by decide) ?_
            refine lv_imul hx hb dX8_readDigits_50 ?_
            refine lv_topi (fun x_64 _ => ?_)
            refine lv_aload_n hx hb dX8_readDigits_51 rfl (lv_at hl 0 rfl) ?_
            refine lv_aload_n hx hb dX8_readDigits_52 rfl (lv_at hl 0 rfl) ?_
            refine va_get (D := G) (ci := 8) (v := .int v_38) (C := RX8) (T := TX8) (N := 11) hx hb hts inT8 hown hK hP 0 rfl rfl 5 (by decide) (hts _ tw_211) (fun _ h9 => h9) rfl dX8_readDigits_53 ?_
            refine z_callVi (As := [.int v_38]) (rest := [.int x_64, .ref t]) (wr := []) ⟨hx, hb, hml, hown, hts⟩ hK hE hT hP hD hS hA (d_Te_byteAt l G cA t tape t_fed t_length t_kind t_start v_38 v_39 t_sign t_letters t_fault t_faultPlace c_tape v_38) lk_RX8_40 ⟨rfl, rfl⟩ ⟨Nat.le_of_ble_eq_true rfl, Nat.le_of_ble_eq_true rfl⟩ 8 rfl rfl rfl [0, 1] [] rfl rfl (by decide) rfl hl.1 rfl (lv_room (Nat.le_of_ble_eq_true rfl)) dX8_readDigits_56 ⟨Nat.le_of_ble_eq_true rfl, Nat.le_of_ble_eq_true rfl⟩ (fun r_65 u_66 H locs hw hP hD hS => ?_)
            have hP : va_P G vwCl [(t, .inr (8, [.ref tape, .int t_fed, .int t_length, .int t_kind, .int t_start, .int v_38, .int v_39, .int t_sign, .long t_letters, .int t_fault, .int t_faultPlace])), (tape, .inl (cA.1 2, 900, .inl c_tape))] H := hP
            have hD : va_D A [(t, .inr (8, [.ref tape, .int t_fed, .int t_length, .int t_kind, .int t_start, .int v_38, .int v_39, .int t_sign, .long t_letters, .int t_fault, .int t_faultPlace])), (tape, .inl (cA.1 2, 900, .inl c_tape))] := hD
            refine lv_iadd hx hb dX8_readDigits_59 ?_
            refine lv_topi (fun x_67 _ => ?_)
            refine lv_bipush (v := 48) hx hb dX8_readDigits_60 (by decide) ?_
            refine lv_isub hx hb dX8_readDigits_62 ?_
            refine va_put (D := G) (ci := 8) (v := .int (x_67 - 48)) (ty := .int) (C := RX8) (T := TX8) (N := 11) hx hb hts inT8 tyX8 tyX8_ok nmX8 hown hK hP hD hS 0 rfl rfl 6 (by decide) (hts _ tw_213) (fun _ h9 => h9) rfl (tyX8_ok 6 (by decide)) rfl rfl (Nat.le_of_ble_eq_true rfl) dX8_readDigits_63 (fun H locs hP hD hS => ?_)
            have hP : va_P G vwCl [(t, .inr (8, [.ref tape, .int t_fed, .int t_length, .int t_kind, .int t_start, .int v_38, .int (x_67 - 48), .int t_sign, .long t_letters, .int t_fault, .int t_faultPlace])), (tape, .inl (cA.1 2, 900, .inl c_tape))] H := hP
            have hD : va_D A [(t, .inr (8, [.ref tape, .int t_fed, .int t_length, .int t_kind, .int t_start, .int v_38, .int (x_67 - 48), .int t_sign, .long t_letters, .int t_fault, .int t_faultPlace])), (tape, .inl (cA.1 2, 900, .inl c_tape))] := hD
            refine lv_aload_n hx hb dX8_readDigits_66 rfl (lv_at hl 0 rfl) ?_
            refine lv_dup hx hb dX8_readDigits_67 rfl ?_
            refine va_get (D := G) (ci := 8) (v := .int v_38) (C := RX8) (T := TX8) (N := 11) hx hb hts inT8 hown hK hP 0 rfl rfl 5 (by decide) (hts _ tw_211) (fun _ h9 => h9) rfl dX8_readDigits_68 ?_
            refine lv_iconst (v := 1) hx hb dX8_readDigits_71 (by decide) ?_
            refine lv_iadd hx hb dX8_readDigits_72 ?_
            refine va_put (D := G) (ci := 8) (v := .int (v_38 + 1)) (ty := .int) (C := RX8) (T := TX8) (N := 11) hx hb hts inT8 tyX8 tyX8_ok nmX8 hown hK hP hD hS 0 rfl rfl 5 (by decide) (hts _ tw_211) (fun _ h9 => h9) rfl (tyX8_ok 5 (by decide)) rfl rfl (Nat.le_of_ble_eq_true rfl) dX8_readDigits_73 (fun H locs hP hD hS => ?_)
            have hP : va_P G vwCl [(t, .inr (8, [.ref tape, .int t_fed, .int t_length, .int t_kind, .int t_start, .int (v_38 + 1), .int (x_67 - 48), .int t_sign, .long t_letters, .int t_fault, .int t_faultPlace])), (tape, .inl (cA.1 2, 900, .inl c_tape))] H := hP
            have hD : va_D A [(t, .inr (8, [.ref tape, .int t_fed, .int t_length, .int t_kind, .int t_start, .int (v_38 + 1), .int (x_67 - 48), .int t_sign, .long t_letters, .int t_fault, .int t_faultPlace])), (tape, .inl (cA.1 2, 900, .inl c_tape))] := hD
            refine lv_goto (tgt := 5) hx hb dX8_readDigits_76 (by decide) ?_
            exact ih_41 (v_38 + 1) (x_67 - 48) H locs ls (z_up hmu (by omega) (by omega)) hP hD hS (lv_sub hl [0] rfl)
  exact hlp_40 _ t_end 0 _ _ _ (Nat.lt_succ_self _) hP hD hS (lv_sub hl [0] rfl)
set_option maxHeartbeats 4000000 in
set_option maxRecDepth 100000 in
theorem d_Te_advance (l : Launch) (G : va_G) (cA : zCA) (t : Nat) (tape : Nat) (t_fed : Int32) (t_length : Int32) (t_kind : Int32) (t_start : Int32) (t_end : Int32) (t_number : Int32) (t_sign : Int32) (t_letters : Int64) (t_fault : Int32) (t_faultPlace : Int32) (c_tape : Nat → Int32) : zCv l yX8_advance cX8_advance 2 none ({ frames := 2, cells := 0, slots := 0, locals := 41 }) G cA [.ref t] [(t, .inr (8, [.ref tape, .int t_fed, .int t_length, .int t_kind, .int t_start, .int t_end, .int t_number, .int t_sign, .long t_letters, .int t_fault, .int t_faultPlace])), (tape, .inl (cA.1 2, 900, .inl c_tape))] (S := Int32 × Int32 × Int32 × Int32 × Int32 × Int64) (fun (u : Int32 × Int32 × Int32 × Int32 × Int32 × Int64) => True) (fun (u : Int32 × Int32 × Int32 × Int32 × Int32 × Int64) => [(t, .inr (8, [.ref tape, .int t_fed, .int t_length, .int u.1, .int u.2.1, .int u.2.2.1, .int u.2.2.2.2.1, .int u.2.2.2.1, .long u.2.2.2.2.2, .int t_fault, .int t_faultPlace])), (tape, .inl (cA.1 2, 900, .inl c_tape))]) 0 0 := by
  refine z_start2v (own := RX8) (by decide) (Nat.le_of_ble_eq_true rfl) rfl ?_
  intro p e s m args below meth c A ls Q hx hb hml hts hown hK hE hT hP hD hS hA hl hret
  have hl : lv_has ls 2 [(0, .ref t)] := hl
  refine lv_aload_n hx hb dX8_advance_0 rfl (lv_at hl 0 rfl) ?_
  refine lv_aload_n hx hb dX8_advance_1 rfl (lv_at hl 0 rfl) ?_
  refine va_get (D := G) (ci := 8) (v := .int t_end) (C := RX8) (T := TX8) (N := 11) hx hb hts inT8 hown hK hP 0 rfl rfl 5 (by decide) (hts _ tw_211) (fun _ h9 => h9) rfl dX8_advance_2 ?_
  refine va_put (D := G) (ci := 8) (v := .int t_end) (ty := .int) (C := RX8) (T := TX8) (N := 11) hx hb hts inT8 tyX8 tyX8_ok nmX8 hown hK hP hD hS 0 rfl rfl 4 (by decide) (hts _ tw_210) (fun _ h9 => h9) rfl (tyX8_ok 4 (by decide)) rfl rfl (Nat.le_of_ble_eq_true rfl) dX8_advance_5 (fun H locs hP hD hS => ?_)
  have hP : va_P G vwCl [(t, .inr (8, [.ref tape, .int t_fed, .int t_length, .int t_kind, .int t_end, .int t_end, .int t_number, .int t_sign, .long t_letters, .int t_fault, .int t_faultPlace])), (tape, .inl (cA.1 2, 900, .inl c_tape))] H := hP
  have hD : va_D A [(t, .inr (8, [.ref tape, .int t_fed, .int t_length, .int t_kind, .int t_end, .int t_end, .int t_number, .int t_sign, .long t_letters, .int t_fault, .int t_faultPlace])), (tape, .inl (cA.1 2, 900, .inl c_tape))] := hD
  have hlp_23 : ∀ (n : Nat) (v_22 : Int32) (H : Heap) (locs : List Loc) (ls : Array Slot), (2147483647 - v_22.toInt).toNat < n → va_P G vwCl [(t, .inr (8, [.ref tape, .int t_fed, .int t_length, .int t_kind, .int v_22, .int t_end, .int t_number, .int t_sign, .long t_letters, .int t_fault, .int t_faultPlace])), (tape, .inl (cA.1 2, 900, .inl c_tape))] H → va_D A [(t, .inr (8, [.ref tape, .int t_fed, .int t_length, .int t_kind, .int v_22, .int t_end, .int t_number, .int t_sign, .long t_letters, .int t_fault, .int t_faultPlace])), (tape, .inl (cA.1 2, 900, .inl c_tape))] → va_S A s.heap H locs → lv_has ls 2 [(0, .ref t)] → W p l e ({ frames := 2, cells := 0, slots := 0, locals := 41 }) s m args below meth c H locs 0 0 Q (F0 m 8 ls []) := by
    intro n
    induction n with
    | zero =>
      intro v_22 H locs ls hmu hP hD hS hl
      exact absurd hmu (Nat.not_lt_zero _)
    | succ n ih_24 =>
      intro v_22 H locs ls hmu hP hD hS hl
      refine lv_aload_n hx hb dX8_advance_8 rfl (lv_at hl 0 rfl) ?_
      refine va_get (D := G) (ci := 8) (v := .int v_22) (C := RX8) (T := TX8) (N := 11) hx hb hts inT8 hown hK hP 0 rfl rfl 4 (by decide) (hts _ tw_210) (fun _ h9 => h9) rfl dX8_advance_9 ?_
      refine lv_aload_n hx hb dX8_advance_12 rfl (lv_at hl 0 rfl) ?_
      refine va_get (D := G) (ci := 8) (v := .int t_length) (C := RX8) (T := TX8) (N := 11) hx hb hts inT8 hown hK hP 0 rfl rfl 2 (by decide) (hts _ tw_208) (fun _ h9 => h9) rfl dX8_advance_13 ?_
      refine lv_icmp_ge (tgt := 46) hx hb dX8_advance_16 (by decide) (fun c_25 => ?_) (fun c_25 => ?_)
      · have b_26 := z_s1 c_25
        refine lv_aload_n hx hb dX8_advance_46 rfl (lv_at hl 0 rfl) ?_
        refine lv_aload_n hx hb dX8_advance_47 rfl (lv_at hl 0 rfl) ?_
        refine va_get (D := G) (ci := 8) (v := .int v_22) (C := RX8) (T := TX8) (N := 11) hx hb hts inT8 hown hK hP 0 rfl rfl 4 (by decide) (hts _ tw_210) (fun _ h9 => h9) rfl dX8_advance_48 ?_
        refine va_put (D := G) (ci := 8) (v := .int v_22) (ty := .int) (C := RX8) (T := TX8) (N := 11) hx hb hts inT8 tyX8 tyX8_ok nmX8 hown hK hP hD hS 0 rfl rfl 5 (by decide) (hts _ tw_211) (fun _ h9 => h9) rfl (tyX8_ok 5 (by decide)) rfl rfl (Nat.le_of_ble_eq_true rfl) dX8_advance_51 (fun H locs hP hD hS => ?_)
        have hP : va_P G vwCl [(t, .inr (8, [.ref tape, .int t_fed, .int t_length, .int t_kind, .int v_22, .int v_22, .int t_number, .int t_sign, .long t_letters, .int t_fault, .int t_faultPlace])), (tape, .inl (cA.1 2, 900, .inl c_tape))] H := hP
        have hD : va_D A [(t, .inr (8, [.ref tape, .int t_fed, .int t_length, .int t_kind, .int v_22, .int v_22, .int t_number, .int t_sign, .long t_letters, .int t_fault, .int t_faultPlace])), (tape, .inl (cA.1 2, 900, .inl c_tape))] := hD
        refine lv_aload_n hx hb dX8_advance_54 rfl (lv_at hl 0 rfl) ?_
        refine lv_aload_n hx hb dX8_advance_55 rfl (lv_at hl 0 rfl) ?_
        refine va_get (D := G) (ci := 8) (v := .int v_22) (C := RX8) (T := TX8) (N := 11) hx hb hts inT8 hown hK hP 0 rfl rfl 4 (by decide) (hts _ tw_210) (fun _ h9 => h9) rfl dX8_advance_56 ?_
        refine z_callVi (As := [.int v_22]) (rest := []) (wr := []) ⟨hx, hb, hml, hown, hts⟩ hK hE hT hP hD hS hA (d_Te_byteAt l G cA t tape t_fed t_length t_kind v_22 v_22 t_number t_sign t_letters t_fault t_faultPlace c_tape v_22) lk_RX8_40 ⟨rfl, rfl⟩ ⟨Nat.le_of_ble_eq_true rfl, Nat.le_of_ble_eq_true rfl⟩ 8 rfl rfl rfl [0, 1] [] rfl rfl (by decide) rfl hl.1 rfl (lv_room (Nat.le_of_ble_eq_true rfl)) dX8_advance_59 ⟨Nat.le_of_ble_eq_true rfl, Nat.le_of_ble_eq_true rfl⟩ (fun r_27 u_28 H locs hw hP hD hS => ?_)
        have hP : va_P G vwCl [(t, .inr (8, [.ref tape, .int t_fed, .int t_length, .int t_kind, .int v_22, .int v_22, .int t_number, .int t_sign, .long t_letters, .int t_fault, .int t_faultPlace])), (tape, .inl (cA.1 2, 900, .inl c_tape))] H := hP
        have hD : va_D A [(t, .inr (8, [.ref tape, .int t_fed, .int t_length, .int t_kind, .int v_22, .int v_22, .int t_number, .int t_sign, .long t_letters, .int t_fault, .int t_faultPlace])), (tape, .inl (cA.1 2, 900, .inl c_tape))] := hD
        refine lv_istore_n (lv' := [(1, .int r_27), (0, .ref t)]) hx hb dX8_advance_62 rfl hl (by decide) rfl (fun ls hl => ?_)
        refine lv_iload_n hx hb dX8_advance_63 rfl (lv_at hl 0 rfl) ?_
        refine lv_iconst (v := (-1)) hx hb dX8_advance_64 (by decide) ?_
        refine lv_icmp_ne (tgt := 76) hx hb dX8_advance_65 (by decide) (fun c_29 => ?_) (fun c_29 => ?_)
        · skip
          refine lv_iload_n hx hb dX8_advance_76 rfl (lv_at hl 0 rfl) ?_
          refine z_callSi (As := [.int r_27]) (rest := []) (wr := [(t, .inr (8, [.ref tape, .int t_fed, .int t_length, .int t_kind, .int v_22, .int v_22, .int t_number, .int t_sign, .long t_letters, .int t_fault, .int t_faultPlace])), (tape, .inl (cA.1 2, 900, .inl c_tape))]) ⟨hx, hb, hml, hown, hts⟩ hK hE hT hP hD hS hA (d_Te_isLetter l G cA r_27) lk_RX8_48 ⟨rfl, rfl⟩ ⟨Nat.le_of_ble_eq_true rfl, Nat.le_of_ble_eq_true rfl⟩ [] [0, 1] rfl rfl (by decide) rfl hl.1 rfl (lv_room (Nat.le_of_ble_eq_true rfl)) dX8_advance_77 ⟨Nat.le_of_ble_eq_true rfl, Nat.le_of_ble_eq_true rfl⟩ (fun r_31 u_32 H locs hw hP hD hS => ?_)
          have hP : va_P G vwCl [(t, .inr (8, [.ref tape, .int t_fed, .int t_length, .int t_kind, .int v_22, .int v_22, .int t_number, .int t_sign, .long t_letters, .int t_fault, .int t_faultPlace])), (tape, .inl (cA.1 2, 900, .inl c_tape))] H := hP
          have hD : va_D A [(t, .inr (8, [.ref tape, .int t_fed, .int t_length, .int t_kind, .int v_22, .int v_22, .int t_number, .int t_sign, .long t_letters, .int t_fault, .int t_faultPlace])), (tape, .inl (cA.1 2, 900, .inl c_tape))] := hD
          have hz_r_31 := hw
          refine lv_if_eq (tgt := 95) hx hb dX8_advance_80 (by decide) (fun c_33 => ?_) (fun c_33 => ?_)
          · skip
            refine lv_iload_n hx hb dX8_advance_95 rfl (lv_at hl 0 rfl) ?_
            refine z_callSi (As := [.int r_27]) (rest := []) (wr := [(t, .inr (8, [.ref tape, .int t_fed, .int t_length, .int t_kind, .int v_22, .int v_22, .int t_number, .int t_sign, .long t_letters, .int t_fault, .int t_faultPlace])), (tape, .inl (cA.1 2, 900, .inl c_tape))]) ⟨hx, hb, hml, hown, hts⟩ hK hE hT hP hD hS hA (d_Te_isDigit l G cA r_27) lk_RX8_54 ⟨rfl, rfl⟩ ⟨Nat.le_of_ble_eq_true rfl, Nat.le_of_ble_eq_true rfl⟩ [] [0, 1] rfl rfl (by decide) rfl hl.1 rfl (lv_room (Nat.le_of_ble_eq_true rfl)) dX8_advance_96 ⟨Nat.le_of_ble_eq_true rfl, Nat.le_of_ble_eq_true rfl⟩ (fun r_35 u_36 H locs hw hP hD hS => ?_)
            have hP : va_P G vwCl [(t, .inr (8, [.ref tape, .int t_fed, .int t_length, .int t_kind, .int v_22, .int v_22, .int t_number, .int t_sign, .long t_letters, .int t_fault, .int t_faultPlace])), (tape, .inl (cA.1 2, 900, .inl c_tape))] H := hP
            have hD : va_D A [(t, .inr (8, [.ref tape, .int t_fed, .int t_length, .int t_kind, .int v_22, .int v_22, .int t_number, .int t_sign, .long t_letters, .int t_fault, .int t_faultPlace])), (tape, .inl (cA.1 2, 900, .inl c_tape))] := hD
            have hz_r_35 := hw
            refine lv_if_eq (tgt := 109) hx hb dX8_advance_99 (by decide) (fun c_37 => ?_) (fun c_37 => ?_)
            · skip
              refine lv_aload_n hx hb dX8_advance_109 rfl (lv_at hl 1 rfl) ?_
              refine lv_iload_n hx hb dX8_advance_110 rfl (lv_at hl 0 rfl) ?_
              refine z_callSi (As := [.int r_27]) (rest := [.ref t]) (wr := [(t, .inr (8, [.ref tape, .int t_fed, .int t_length, .int t_kind, .int v_22, .int v_22, .int t_number, .int t_sign, .long t_letters, .int t_fault, .int t_faultPlace])), (tape, .inl (cA.1 2, 900, .inl c_tape))]) ⟨hx, hb, hml, hown, hts⟩ hK hE hT hP hD hS hA (d_Te_isSignOf l G cA r_27) lk_RX8_60 ⟨rfl, rfl⟩ ⟨Nat.le_of_ble_eq_true rfl, Nat.le_of_ble_eq_true rfl⟩ [] [0, 1] rfl rfl (by decide) rfl hl.1 rfl (lv_room (Nat.le_of_ble_eq_true rfl)) dX8_advance_111 ⟨Nat.le_of_ble_eq_true rfl, Nat.le_of_ble_eq_true rfl⟩ (fun r_39 u_40 H locs hw hP hD hS => ?_)
              have hP : va_P G vwCl [(t, .inr (8, [.ref tape, .int t_fed, .int t_length, .int t_kind, .int v_22, .int v_22, .int t_number, .int t_sign, .long t_letters, .int t_fault, .int t_faultPlace])), (tape, .inl (cA.1 2, 900, .inl c_tape))] H := hP
              have hD : va_D A [(t, .inr (8, [.ref tape, .int t_fed, .int t_length, .int t_kind, .int v_22, .int v_22, .int t_number, .int t_sign, .long t_letters, .int t_fault, .int t_faultPlace])), (tape, .inl (cA.1 2, 900, .inl c_tape))] := hD
              have hz_r_39 := hw
              refine lv_if_eq (tgt := 121) hx hb dX8_advance_114 (by decide) (fun c_41 => ?_) (fun c_41 => ?_)
              · skip
                refine lv_iconst (v := 4) hx hb dX8_advance_121 (by decide) ?_
                refine va_put (D := G) (ci := 8) (v := .int 4) (ty := .int) (C := RX8) (T := TX8) (N := 11) hx hb hts inT8 tyX8 tyX8_ok nmX8 hown hK hP hD hS 0 rfl rfl 3 (by decide) (hts _ tw_209) (fun _ h9 => h9) rfl (tyX8_ok 3 (by decide)) rfl rfl (Nat.le_of_ble_eq_true rfl) dX8_advance_122 (fun H locs hP hD hS => ?_)
                have hP : va_P G vwCl [(t, .inr (8, [.ref tape, .int t_fed, .int t_length, .int 4, .int v_22, .int v_22, .int t_number, .int t_sign, .long t_letters, .int t_fault, .int t_faultPlace])), (tape, .inl (cA.1 2, 900, .inl c_tape))] H := hP
                have hD : va_D A [(t, .inr (8, [.ref tape, .int t_fed, .int t_length, .int 4, .int v_22, .int v_22, .int t_number, .int t_sign, .long t_letters, .int t_fault, .int t_faultPlace])), (tape, .inl (cA.1 2, 900, .inl c_tape))] := hD
                refine lv_aload_n hx hb dX8_advance_125 rfl (lv_at hl 1 rfl) ?_
                refine lv_iload_n hx hb dX8_advance_126 rfl (lv_at hl 0 rfl) ?_
                refine va_put (D := G) (ci := 8) (v := .int r_27) (ty := .int) (C := RX8) (T := TX8) (N := 11) hx hb hts inT8 tyX8 tyX8_ok nmX8 hown hK hP hD hS 0 rfl rfl 7 (by decide) (hts _ tw_214) (fun _ h9 => h9) rfl (tyX8_ok 7 (by decide)) rfl rfl (Nat.le_of_ble_eq_true rfl) dX8_advance_127 (fun H locs hP hD hS => ?_)
                have hP : va_P G vwCl [(t, .inr (8, [.ref tape, .int t_fed, .int t_length, .int 4, .int v_22, .int v_22, .int t_number, .int r_27, .long t_letters, .int t_fault, .int t_faultPlace])), (tape, .inl (cA.1 2, 900, .inl c_tape))] H := hP
                have hD : va_D A [(t, .inr (8, [.ref tape, .int t_fed, .int t_length, .int 4, .int v_22, .int v_22, .int t_number, .int r_27, .long t_letters, .int t_fault, .int t_faultPlace])), (tape, .inl (cA.1 2, 900, .inl c_tape))] := hD
                refine lv_aload_n hx hb dX8_advance_130 rfl (lv_at hl 1 rfl) ?_
                refine lv_aload_n hx hb dX8_advance_131 rfl (lv_at hl 1 rfl) ?_
                refine va_get (D := G) (ci := 8) (v := .int v_22) (C := RX8) (T := TX8) (N := 11) hx hb hts inT8 hown hK hP 0 rfl rfl 4 (by decide) (hts _ tw_210) (fun _ h9 => h9) rfl dX8_advance_132 ?_
                refine lv_iconst (v := 1) hx hb dX8_advance_135 (by decide) ?_
                refine lv_iadd hx hb dX8_advance_136 ?_
                refine va_put (D := G) (ci := 8) (v := .int (v_22 + 1)) (ty := .int) (C := RX8) (T := TX8) (N := 11) hx hb hts inT8 tyX8 tyX8_ok nmX8 hown hK hP hD hS 0 rfl rfl 5 (by decide) (hts _ tw_211) (fun _ h9 => h9) rfl (tyX8_ok 5 (by decide)) rfl rfl (Nat.le_of_ble_eq_true rfl) dX8_advance_137 (fun H locs hP hD hS => ?_)
                have hP : va_P G vwCl [(t, .inr (8, [.ref tape, .int t_fed, .int t_length, .int 4, .int v_22, .int (v_22 + 1), .int t_number, .int r_27, .long t_letters, .int t_fault, .int t_faultPlace])), (tape, .inl (cA.1 2, 900, .inl c_tape))] H := hP
                have hD : va_D A [(t, .inr (8, [.ref tape, .int t_fed, .int t_length, .int 4, .int v_22, .int (v_22 + 1), .int t_number, .int r_27, .long t_letters, .int t_fault, .int t_faultPlace])), (tape, .inl (cA.1 2, 900, .inl c_tape))] := hD
                exact hret _ _ _ _ _ (4, v_22, (v_22 + 1), r_27, t_number, t_letters) [0, 1] hP hD hS rfl (by decide) dX8_advance_140 trivial
              · skip
                refine lv_iconst (v := 3) hx hb dX8_advance_117 (by decide) ?_
                refine lv_goto (tgt := 122) hx hb dX8_advance_118 (by decide) ?_
                refine va_put (D := G) (ci := 8) (v := .int 3) (ty := .int) (C := RX8) (T := TX8) (N := 11) hx hb hts inT8 tyX8 tyX8_ok nmX8 hown hK hP hD hS 0 rfl rfl 3 (by decide) (hts _ tw_209) (fun _ h9 => h9) rfl (tyX8_ok 3 (by decide)) rfl rfl (Nat.le_of_ble_eq_true rfl) dX8_advance_122 (fun H locs hP hD hS => ?_)
                have hP : va_P G vwCl [(t, .inr (8, [.ref tape, .int t_fed, .int t_length, .int 3, .int v_22, .int v_22, .int t_number, .int t_sign, .long t_letters, .int t_fault, .int t_faultPlace])), (tape, .inl (cA.1 2, 900, .inl c_tape))] H := hP
                have hD : va_D A [(t, .inr (8, [.ref tape, .int t_fed, .int t_length, .int 3, .int v_22, .int v_22, .int t_number, .int t_sign, .long t_letters, .int t_fault, .int t_faultPlace])), (tape, .inl (cA.1 2, 900, .inl c_tape))] := hD
                refine lv_aload_n hx hb dX8_advance_125 rfl (lv_at hl 1 rfl) ?_
                refine lv_iload_n hx hb dX8_advance_126 rfl (lv_at hl 0 rfl) ?_
                refine va_put (D := G) (ci := 8) (v := .int r_27) (ty := .int) (C := RX8) (T := TX8) (N := 11) hx hb hts inT8 tyX8 tyX8_ok nmX8 hown hK hP hD hS 0 rfl rfl 7 (by decide) (hts _ tw_214) (fun _ h9 => h9) rfl (tyX8_ok 7 (by decide)) rfl rfl (Nat.le_of_ble_eq_true rfl) dX8_advance_127 (fun H locs hP hD hS => ?_)
                have hP : va_P G vwCl [(t, .inr (8, [.ref tape, .int t_fed, .int t_length, .int 3, .int v_22, .int v_22, .int t_number, .int r_27, .long t_letters, .int t_fault, .int t_faultPlace])), (tape, .inl (cA.1 2, 900, .inl c_tape))] H := hP
                have hD : va_D A [(t, .inr (8, [.ref tape, .int t_fed, .int t_length, .int 3, .int v_22, .int v_22, .int t_number, .int r_27, .long t_letters, .int t_fault, .int t_faultPlace])), (tape, .inl (cA.1 2, 900, .inl c_tape))] := hD
                refine lv_aload_n hx hb dX8_advance_130 rfl (lv_at hl 1 rfl) ?_
                refine lv_aload_n hx hb dX8_advance_131 rfl (lv_at hl 1 rfl) ?_
                refine va_get (D := G) (ci := 8) (v := .int v_22) (C := RX8) (T := TX8) (N := 11) hx hb hts inT8 hown hK hP 0 rfl rfl 4 (by decide) (hts _ tw_210) (fun _ h9 => h9) rfl dX8_advance_132 ?_
                refine lv_iconst (v := 1) hx hb dX8_advance_135 (by decide) ?_
                refine lv_iadd hx hb dX8_advance_136 ?_
                refine va_put (D := G) (ci := 8) (v := .int (v_22 + 1)) (ty := .int) (C := RX8) (T := TX8) (N := 11) hx hb hts inT8 tyX8 tyX8_ok nmX8 hown hK hP hD hS 0 rfl rfl 5 (by decide) (hts _ tw_211) (fun _ h9 => h9) rfl (tyX8_ok 5 (by decide)) rfl rfl (Nat.le_of_ble_eq_true rfl) dX8_advance_137 (fun H locs hP hD hS => ?_)
                have hP : va_P G vwCl [(t, .inr (8, [.ref tape, .int t_fed, .int t_length, .int 3, .int v_22, .int (v_22 + 1), .int t_number, .int r_27, .long t_letters, .int t_fault, .int t_faultPlace])), (tape, .inl (cA.1 2, 900, .inl c_tape))] H := hP
                have hD : va_D A [(t, .inr (8, [.ref tape, .int t_fed, .int t_length, .int 3, .int v_22, .int (v_22 + 1), .int t_number, .int r_27, .long t_letters, .int t_fault, .int t_faultPlace])), (tape, .inl (cA.1 2, 900, .inl c_tape))] := hD
                exact hret _ _ _ _ _ (3, v_22, (v_22 + 1), r_27, t_number, t_letters) [0, 1] hP hD hS rfl (by decide) dX8_advance_140 trivial
            · skip
              refine lv_aload_n hx hb dX8_advance_102 rfl (lv_at hl 1 rfl) ?_
              refine z_callVv (As := []) (rest := []) (wr := []) ⟨hx, hb, hml, hown, hts⟩ hK hE hT hP hD hS hA (d_Te_readDigits l G cA t tape t_fed t_length t_kind v_22 v_22 t_number t_sign t_letters t_fault t_faultPlace c_tape) lk_RX8_57 ⟨rfl, rfl⟩ ⟨Nat.le_of_ble_eq_true rfl, Nat.le_of_ble_eq_true rfl⟩ 8 rfl rfl rfl [0, 1] [] rfl rfl (by decide) rfl hl.1 rfl (lv_room (Nat.le_of_ble_eq_true rfl)) dX8_advance_103 ⟨Nat.le_of_ble_eq_true rfl, Nat.le_of_ble_eq_true rfl⟩ (fun u_49 H locs hw hP hD hS => ?_)
              obtain ⟨nw0_45, nw1_46, nw2_47⟩ := u_49
              have hP : va_P G vwCl [(t, .inr (8, [.ref tape, .int t_fed, .int t_length, .int nw0_45, .int v_22, .int nw1_46, .int nw2_47, .int t_sign, .long t_letters, .int t_fault, .int t_faultPlace])), (tape, .inl (cA.1 2, 900, .inl c_tape))] H := hP
              have hD : va_D A [(t, .inr (8, [.ref tape, .int t_fed, .int t_length, .int nw0_45, .int v_22, .int nw1_46, .int nw2_47, .int t_sign, .long t_letters, .int t_fault, .int t_faultPlace])), (tape, .inl (cA.1 2, 900, .inl c_tape))] := hD
              refine lv_goto (tgt := 140) hx hb dX8_advance_106 (by decide) ?_
              exact hret _ _ _ _ _ (nw0_45, v_22, nw1_46, t_sign, nw2_47, t_letters) [0, 1] hP hD hS rfl (by decide) dX8_advance_140 trivial
          · skip
            refine lv_aload_n hx hb dX8_advance_83 rfl (lv_at hl 1 rfl) ?_
            refine lv_iconst (v := 1) hx hb dX8_advance_84 (by decide) ?_
            refine va_put (D := G) (ci := 8) (v := .int 1) (ty := .int) (C := RX8) (T := TX8) (N := 11) hx hb hts inT8 tyX8 tyX8_ok nmX8 hown hK hP hD hS 0 rfl rfl 3 (by decide) (hts _ tw_209) (fun _ h9 => h9) rfl (tyX8_ok 3 (by decide)) rfl rfl (Nat.le_of_ble_eq_true rfl) dX8_advance_85 (fun H locs hP hD hS => ?_)
            have hP : va_P G vwCl [(t, .inr (8, [.ref tape, .int t_fed, .int t_length, .int 1, .int v_22, .int v_22, .int t_number, .int t_sign, .long t_letters, .int t_fault, .int t_faultPlace])), (tape, .inl (cA.1 2, 900, .inl c_tape))] H := hP
            have hD : va_D A [(t, .inr (8, [.ref tape, .int t_fed, .int t_length, .int 1, .int v_22, .int v_22, .int t_number, .int t_sign, .long t_letters, .int t_fault, .int t_faultPlace])), (tape, .inl (cA.1 2, 900, .inl c_tape))] := hD
            refine lv_aload_n hx hb dX8_advance_88 rfl (lv_at hl 1 rfl) ?_
            refine z_callVv (As := []) (rest := []) (wr := []) ⟨hx, hb, hml, hown, hts⟩ hK hE hT hP hD hS hA (d_Te_readLetters l G cA t tape t_fed t_length 1 v_22 v_22 t_number t_sign t_letters t_fault t_faultPlace c_tape) lk_RX8_51 ⟨rfl, rfl⟩ ⟨Nat.le_of_ble_eq_true rfl, Nat.le_of_ble_eq_true rfl⟩ 8 rfl rfl rfl [0, 1] [] rfl rfl (by decide) rfl hl.1 rfl (lv_room (Nat.le_of_ble_eq_true rfl)) dX8_advance_89 ⟨Nat.le_of_ble_eq_true rfl, Nat.le_of_ble_eq_true rfl⟩ (fun u_54 H locs hw hP hD hS => ?_)
            obtain ⟨nw0_51, nw1_52⟩ := u_54
            have hP : va_P G vwCl [(t, .inr (8, [.ref tape, .int t_fed, .int t_length, .int 1, .int v_22, .int nw0_51, .int t_number, .int t_sign, .long nw1_52, .int t_fault, .int t_faultPlace])), (tape, .inl (cA.1 2, 900, .inl c_tape))] H := hP
            have hD : va_D A [(t, .inr (8, [.ref tape, .int t_fed, .int t_length, .int 1, .int v_22, .int nw0_51, .int t_number, .int t_sign, .long nw1_52, .int t_fault, .int t_faultPlace])), (tape, .inl (cA.1 2, 900, .inl c_tape))] := hD
            refine lv_goto (tgt := 140) hx hb dX8_advance_92 (by decide) ?_
            exact hret _ _ _ _ _ (1, v_22, nw0_51, t_sign, t_number, nw1_52) [0, 1] hP hD hS rfl (by decide) dX8_advance_140 trivial
        · skip
          refine lv_aload_n hx hb dX8_advance_68 rfl (lv_at hl 1 rfl) ?_
          refine lv_iconst (v := 0) hx hb dX8_advance_69 (by decide) ?_
          refine va_put (D := G) (ci := 8) (v := .int 0) (ty := .int) (C := RX8) (T := TX8) (N := 11) hx hb hts inT8 tyX8 tyX8_ok nmX8 hown hK hP hD hS 0 rfl rfl 3 (by decide) (hts _ tw_209) (fun _ h9 => h9) rfl (tyX8_ok 3 (by decide)) rfl rfl (Nat.le_of_ble_eq_true rfl) dX8_advance_70 (fun H locs hP hD hS => ?_)
          have hP : va_P G vwCl [(t, .inr (8, [.ref tape, .int t_fed, .int t_length, .int 0, .int v_22, .int v_22, .int t_number, .int t_sign, .long t_letters, .int t_fault, .int t_faultPlace])), (tape, .inl (cA.1 2, 900, .inl c_tape))] H := hP
          have hD : va_D A [(t, .inr (8, [.ref tape, .int t_fed, .int t_length, .int 0, .int v_22, .int v_22, .int t_number, .int t_sign, .long t_letters, .int t_fault, .int t_faultPlace])), (tape, .inl (cA.1 2, 900, .inl c_tape))] := hD
          refine lv_goto (tgt := 140) hx hb dX8_advance_73 (by decide) ?_
          exact hret _ _ _ _ _ (0, v_22, v_22, t_sign, t_number, t_letters) [0, 1] hP hD hS rfl (by decide) dX8_advance_140 trivial
      · have b_56 := z_s2 c_25
        refine lv_aload_n hx hb dX8_advance_19 rfl (lv_at hl 0 rfl) ?_
        refine lv_aload_n hx hb dX8_advance_20 rfl (lv_at hl 0 rfl) ?_
        refine va_get (D := G) (ci := 8) (v := .int v_22) (C := RX8) (T := TX8) (N := 11) hx hb hts inT8 hown hK hP 0 rfl rfl 4 (by decide) (hts _ tw_210) (fun _ h9 => h9) rfl dX8_advance_21 ?_
        refine z_callVi (As := [.int v_22]) (rest := []) (wr := []) ⟨hx, hb, hml, hown, hts⟩ hK hE hT hP hD hS hA (d_Te_byteAt l G cA t tape t_fed t_length t_kind v_22 t_end t_number t_sign t_letters t_fault t_faultPlace c_tape v_22) lk_RX8_40 ⟨rfl, rfl⟩ ⟨Nat.le_of_ble_eq_true rfl, Nat.le_of_ble_eq_true rfl⟩ 8 rfl rfl rfl [0, 1] [] rfl rfl (by decide) rfl hl.1 rfl (lv_room (Nat.le_of_ble_eq_true rfl)) dX8_advance_24 ⟨Nat.le_of_ble_eq_true rfl, Nat.le_of_ble_eq_true rfl⟩ (fun r_57 u_58 H locs hw hP hD hS => ?_)
        have hP : va_P G vwCl [(t, .inr (8, [.ref tape, .int t_fed, .int t_length, .int t_kind, .int v_22, .int t_end, .int t_number, .int t_sign, .long t_letters, .int t_fault, .int t_faultPlace])), (tape, .inl (cA.1 2, 900, .inl c_tape))] H := hP
        have hD : va_D A [(t, .inr (8, [.ref tape, .int t_fed, .int t_length, .int t_kind, .int v_22, .int t_end, .int t_number, .int t_sign, .long t_letters, .int t_fault, .int t_faultPlace])), (tape, .inl (cA.1 2, 900, .inl c_tape))] := hD
        refine z_callSi (As := [.int r_57]) (rest := []) (wr := [(t, .inr (8, [.ref tape, .int t_fed, .int t_length, .int t_kind, .int v_22, .int t_end, .int t_number, .int t_sign, .long t_letters, .int t_fault, .int t_faultPlace])), (tape, .inl (cA.1 2, 900, .inl c_tape))]) ⟨hx, hb, hml, hown, hts⟩ hK hE hT hP hD hS hA (d_Te_isBlank l G cA r_57) lk_RX8_44 ⟨rfl, rfl⟩ ⟨Nat.le_of_ble_eq_true rfl, Nat.le_of_ble_eq_true rfl⟩ [] [0, 1] rfl rfl (by decide) rfl hl.1 rfl (lv_room (Nat.le_of_ble_eq_true rfl)) dX8_advance_27 ⟨Nat.le_of_ble_eq_true rfl, Nat.le_of_ble_eq_true rfl⟩ (fun r_59 u_60 H locs hw hP hD hS => ?_)
        have hP : va_P G vwCl [(t, .inr (8, [.ref tape, .int t_fed, .int t_length, .int t_kind, .int v_22, .int t_end, .int t_number, .int t_sign, .long t_letters, .int t_fault, .int t_faultPlace])), (tape, .inl (cA.1 2, 900, .inl c_tape))] H := hP
        have hD : va_D A [(t, .inr (8, [.ref tape, .int t_fed, .int t_length, .int t_kind, .int v_22, .int t_end, .int t_number, .int t_sign, .long t_letters, .int t_fault, .int t_faultPlace])), (tape, .inl (cA.1 2, 900, .inl c_tape))] := hD
        have hz_r_59 := hw
        refine lv_if_eq (tgt := 46) hx hb dX8_advance_30 (by decide) (fun c_61 => ?_) (fun c_61 => ?_)
        · skip
          refine lv_aload_n hx hb dX8_advance_46 rfl (lv_at hl 0 rfl) ?_
          refine lv_aload_n hx hb dX8_advance_47 rfl (lv_at hl 0 rfl) ?_
          refine va_get (D := G) (ci := 8) (v := .int v_22) (C := RX8) (T := TX8) (N := 11) hx hb hts inT8 hown hK hP 0 rfl rfl 4 (by decide) (hts _ tw_210) (fun _ h9 => h9) rfl dX8_advance_48 ?_
          refine va_put (D := G) (ci := 8) (v := .int v_22) (ty := .int) (C := RX8) (T := TX8) (N := 11) hx hb hts inT8 tyX8 tyX8_ok nmX8 hown hK hP hD hS 0 rfl rfl 5 (by decide) (hts _ tw_211) (fun _ h9 => h9) rfl (tyX8_ok 5 (by decide)) rfl rfl (Nat.le_of_ble_eq_true rfl) dX8_advance_51 (fun H locs hP hD hS => ?_)
          have hP : va_P G vwCl [(t, .inr (8, [.ref tape, .int t_fed, .int t_length, .int t_kind, .int v_22, .int v_22, .int t_number, .int t_sign, .long t_letters, .int t_fault, .int t_faultPlace])), (tape, .inl (cA.1 2, 900, .inl c_tape))] H := hP
          have hD : va_D A [(t, .inr (8, [.ref tape, .int t_fed, .int t_length, .int t_kind, .int v_22, .int v_22, .int t_number, .int t_sign, .long t_letters, .int t_fault, .int t_faultPlace])), (tape, .inl (cA.1 2, 900, .inl c_tape))] := hD
          refine lv_aload_n hx hb dX8_advance_54 rfl (lv_at hl 0 rfl) ?_
          refine lv_aload_n hx hb dX8_advance_55 rfl (lv_at hl 0 rfl) ?_
          refine va_get (D := G) (ci := 8) (v := .int v_22) (C := RX8) (T := TX8) (N := 11) hx hb hts inT8 hown hK hP 0 rfl rfl 4 (by decide) (hts _ tw_210) (fun _ h9 => h9) rfl dX8_advance_56 ?_
          refine z_callVi (As := [.int v_22]) (rest := []) (wr := []) ⟨hx, hb, hml, hown, hts⟩ hK hE hT hP hD hS hA (d_Te_byteAt l G cA t tape t_fed t_length t_kind v_22 v_22 t_number t_sign t_letters t_fault t_faultPlace c_tape v_22) lk_RX8_40 ⟨rfl, rfl⟩ ⟨Nat.le_of_ble_eq_true rfl, Nat.le_of_ble_eq_true rfl⟩ 8 rfl rfl rfl [0, 1] [] rfl rfl (by decide) rfl hl.1 rfl (lv_room (Nat.le_of_ble_eq_true rfl)) dX8_advance_59 ⟨Nat.le_of_ble_eq_true rfl, Nat.le_of_ble_eq_true rfl⟩ (fun r_63 u_64 H locs hw hP hD hS => ?_)
          have hP : va_P G vwCl [(t, .inr (8, [.ref tape, .int t_fed, .int t_length, .int t_kind, .int v_22, .int v_22, .int t_number, .int t_sign, .long t_letters, .int t_fault, .int t_faultPlace])), (tape, .inl (cA.1 2, 900, .inl c_tape))] H := hP
          have hD : va_D A [(t, .inr (8, [.ref tape, .int t_fed, .int t_length, .int t_kind, .int v_22, .int v_22, .int t_number, .int t_sign, .long t_letters, .int t_fault, .int t_faultPlace])), (tape, .inl (cA.1 2, 900, .inl c_tape))] := hD
          refine lv_istore_n (lv' := [(1, .int r_63), (0, .ref t)]) hx hb dX8_advance_62 rfl hl (by decide) rfl (fun ls hl => ?_)
          refine lv_iload_n hx hb dX8_advance_63 rfl (lv_at hl 0 rfl) ?_
          refine lv_iconst (v := (-1)) hx hb dX8_advance_64 (by decide) ?_
          refine lv_icmp_ne (tgt := 76) hx hb dX8_advance_65 (by decide) (fun c_65 => ?_) (fun c_65 => ?_)
          · skip
            refine lv_iload_n hx hb dX8_advance_76 rfl (lv_at hl 0 rfl) ?_
            refine z_callSi (As := [.int r_63]) (rest := []) (wr := [(t, .inr (8, [.ref tape, .int t_fed, .int t_length, .int t_kind, .int v_22, .int v_22, .int t_number, .int t_sign, .long t_letters, .int t_fault, .int t_faultPlace])), (tape, .inl (cA.1 2, 900, .inl c_tape))]) ⟨hx, hb, hml, hown, hts⟩ hK hE hT hP hD hS hA (d_Te_isLetter l G cA r_63) lk_RX8_48 ⟨rfl, rfl⟩ ⟨Nat.le_of_ble_eq_true rfl, Nat.le_of_ble_eq_true rfl⟩ [] [0, 1] rfl rfl (by decide) rfl hl.1 rfl (lv_room (Nat.le_of_ble_eq_true rfl)) dX8_advance_77 ⟨Nat.le_of_ble_eq_true rfl, Nat.le_of_ble_eq_true rfl⟩ (fun r_67 u_68 H locs hw hP hD hS => ?_)
            have hP : va_P G vwCl [(t, .inr (8, [.ref tape, .int t_fed, .int t_length, .int t_kind, .int v_22, .int v_22, .int t_number, .int t_sign, .long t_letters, .int t_fault, .int t_faultPlace])), (tape, .inl (cA.1 2, 900, .inl c_tape))] H := hP
            have hD : va_D A [(t, .inr (8, [.ref tape, .int t_fed, .int t_length, .int t_kind, .int v_22, .int v_22, .int t_number, .int t_sign, .long t_letters, .int t_fault, .int t_faultPlace])), (tape, .inl (cA.1 2, 900, .inl c_tape))] := hD
            have hz_r_67 := hw
            refine lv_if_eq (tgt := 95) hx hb dX8_advance_80 (by decide) (fun c_69 => ?_) (fun c_69 => ?_)
            · skip
              refine lv_iload_n hx hb dX8_advance_95 rfl (lv_at hl 0 rfl) ?_
              refine z_callSi (As := [.int r_63]) (rest := []) (wr := [(t, .inr (8, [.ref tape, .int t_fed, .int t_length, .int t_kind, .int v_22, .int v_22, .int t_number, .int t_sign, .long t_letters, .int t_fault, .int t_faultPlace])), (tape, .inl (cA.1 2, 900, .inl c_tape))]) ⟨hx, hb, hml, hown, hts⟩ hK hE hT hP hD hS hA (d_Te_isDigit l G cA r_63) lk_RX8_54 ⟨rfl, rfl⟩ ⟨Nat.le_of_ble_eq_true rfl, Nat.le_of_ble_eq_true rfl⟩ [] [0, 1] rfl rfl (by decide) rfl hl.1 rfl (lv_room (Nat.le_of_ble_eq_true rfl)) dX8_advance_96 ⟨Nat.le_of_ble_eq_true rfl, Nat.le_of_ble_eq_true rfl⟩ (fun r_71 u_72 H locs hw hP hD hS => ?_)
              have hP : va_P G vwCl [(t, .inr (8, [.ref tape, .int t_fed, .int t_length, .int t_kind, .int v_22, .int v_22, .int t_number, .int t_sign, .long t_letters, .int t_fault, .int t_faultPlace])), (tape, .inl (cA.1 2, 900, .inl c_tape))] H := hP
              have hD : va_D A [(t, .inr (8, [.ref tape, .int t_fed, .int t_length, .int t_kind, .int v_22, .int v_22, .int t_number, .int t_sign, .long t_letters, .int t_fault, .int t_faultPlace])), (tape, .inl (cA.1 2, 900, .inl c_tape))] := hD
              have hz_r_71 := hw
              refine lv_if_eq (tgt := 109) hx hb dX8_advance_99 (by decide) (fun c_73 => ?_) (fun c_73 => ?_)
              · skip
                refine lv_aload_n hx hb dX8_advance_109 rfl (lv_at hl 1 rfl) ?_
                refine lv_iload_n hx hb dX8_advance_110 rfl (lv_at hl 0 rfl) ?_
                refine z_callSi (As := [.int r_63]) (rest := [.ref t]) (wr := [(t, .inr (8, [.ref tape, .int t_fed, .int t_length, .int t_kind, .int v_22, .int v_22, .int t_number, .int t_sign, .long t_letters, .int t_fault, .int t_faultPlace])), (tape, .inl (cA.1 2, 900, .inl c_tape))]) ⟨hx, hb, hml, hown, hts⟩ hK hE hT hP hD hS hA (d_Te_isSignOf l G cA r_63) lk_RX8_60 ⟨rfl, rfl⟩ ⟨Nat.le_of_ble_eq_true rfl, Nat.le_of_ble_eq_true rfl⟩ [] [0, 1] rfl rfl (by decide) rfl hl.1 rfl (lv_room (Nat.le_of_ble_eq_true rfl)) dX8_advance_111 ⟨Nat.le_of_ble_eq_true rfl, Nat.le_of_ble_eq_true rfl⟩ (fun r_75 u_76 H locs hw hP hD hS => ?_)
                have hP : va_P G vwCl [(t, .inr (8, [.ref tape, .int t_fed, .int t_length, .int t_kind, .int v_22, .int v_22, .int t_number, .int t_sign, .long t_letters, .int t_fault, .int t_faultPlace])), (tape, .inl (cA.1 2, 900, .inl c_tape))] H := hP
                have hD : va_D A [(t, .inr (8, [.ref tape, .int t_fed, .int t_length, .int t_kind, .int v_22, .int v_22, .int t_number, .int t_sign, .long t_letters, .int t_fault, .int t_faultPlace])), (tape, .inl (cA.1 2, 900, .inl c_tape))] := hD
                have hz_r_75 := hw
                refine lv_if_eq (tgt := 121) hx hb dX8_advance_114 (by decide) (fun c_77 => ?_) (fun c_77 => ?_)
                · skip
                  refine lv_iconst (v := 4) hx hb dX8_advance_121 (by decide) ?_
                  refine va_put (D := G) (ci := 8) (v := .int 4) (ty := .int) (C := RX8) (T := TX8) (N := 11) hx hb hts inT8 tyX8 tyX8_ok nmX8 hown hK hP hD hS 0 rfl rfl 3 (by decide) (hts _ tw_209) (fun _ h9 => h9) rfl (tyX8_ok 3 (by decide)) rfl rfl (Nat.le_of_ble_eq_true rfl) dX8_advance_122 (fun H locs hP hD hS => ?_)
                  have hP : va_P G vwCl [(t, .inr (8, [.ref tape, .int t_fed, .int t_length, .int 4, .int v_22, .int v_22, .int t_number, .int t_sign, .long t_letters, .int t_fault, .int t_faultPlace])), (tape, .inl (cA.1 2, 900, .inl c_tape))] H := hP
                  have hD : va_D A [(t, .inr (8, [.ref tape, .int t_fed, .int t_length, .int 4, .int v_22, .int v_22, .int t_number, .int t_sign, .long t_letters, .int t_fault, .int t_faultPlace])), (tape, .inl (cA.1 2, 900, .inl c_tape))] := hD
                  refine lv_aload_n hx hb dX8_advance_125 rfl (lv_at hl 1 rfl) ?_
                  refine lv_iload_n hx hb dX8_advance_126 rfl (lv_at hl 0 rfl) ?_
                  refine va_put (D := G) (ci := 8) (v := .int r_63) (ty := .int) (C := RX8) (T := TX8) (N := 11) hx hb hts inT8 tyX8 tyX8_ok nmX8 hown hK hP hD hS 0 rfl rfl 7 (by decide) (hts _ tw_214) (fun _ h9 => h9) rfl (tyX8_ok 7 (by decide)) rfl rfl (Nat.le_of_ble_eq_true rfl) dX8_advance_127 (fun H locs hP hD hS => ?_)
                  have hP : va_P G vwCl [(t, .inr (8, [.ref tape, .int t_fed, .int t_length, .int 4, .int v_22, .int v_22, .int t_number, .int r_63, .long t_letters, .int t_fault, .int t_faultPlace])), (tape, .inl (cA.1 2, 900, .inl c_tape))] H := hP
                  have hD : va_D A [(t, .inr (8, [.ref tape, .int t_fed, .int t_length, .int 4, .int v_22, .int v_22, .int t_number, .int r_63, .long t_letters, .int t_fault, .int t_faultPlace])), (tape, .inl (cA.1 2, 900, .inl c_tape))] := hD
                  refine lv_aload_n hx hb dX8_advance_130 rfl (lv_at hl 1 rfl) ?_
                  refine lv_aload_n hx hb dX8_advance_131 rfl (lv_at hl 1 rfl) ?_
                  refine va_get (D := G) (ci := 8) (v := .int v_22) (C := RX8) (T := TX8) (N := 11) hx hb hts inT8 hown hK hP 0 rfl rfl 4 (by decide) (hts _ tw_210) (fun _ h9 => h9) rfl dX8_advance_132 ?_
                  refine lv_iconst (v := 1) hx hb dX8_advance_135 (by decide) ?_
                  refine lv_iadd hx hb dX8_advance_136 ?_
                  refine va_put (D := G) (ci := 8) (v := .int (v_22 + 1)) (ty := .int) (C := RX8) (T := TX8) (N := 11) hx hb hts inT8 tyX8 tyX8_ok nmX8 hown hK hP hD hS 0 rfl rfl 5 (by decide) (hts _ tw_211) (fun _ h9 => h9) rfl (tyX8_ok 5 (by decide)) rfl rfl (Nat.le_of_ble_eq_true rfl) dX8_advance_137 (fun H locs hP hD hS => ?_)
                  have hP : va_P G vwCl [(t, .inr (8, [.ref tape, .int t_fed, .int t_length, .int 4, .int v_22, .int (v_22 + 1), .int t_number, .int r_63, .long t_letters, .int t_fault, .int t_faultPlace])), (tape, .inl (cA.1 2, 900, .inl c_tape))] H := hP
                  have hD : va_D A [(t, .inr (8, [.ref tape, .int t_fed, .int t_length, .int 4, .int v_22, .int (v_22 + 1), .int t_number, .int r_63, .long t_letters, .int t_fault, .int t_faultPlace])), (tape, .inl (cA.1 2, 900, .inl c_tape))] := hD
                  exact hret _ _ _ _ _ (4, v_22, (v_22 + 1), r_63, t_number, t_letters) [0, 1] hP hD hS rfl (by decide) dX8_advance_140 trivial
                · skip
                  refine lv_iconst (v := 3) hx hb dX8_advance_117 (by decide) ?_
                  refine lv_goto (tgt := 122) hx hb dX8_advance_118 (by decide) ?_
                  refine va_put (D := G) (ci := 8) (v := .int 3) (ty := .int) (C := RX8) (T := TX8) (N := 11) hx hb hts inT8 tyX8 tyX8_ok nmX8 hown hK hP hD hS 0 rfl rfl 3 (by decide) (hts _ tw_209) (fun _ h9 => h9) rfl (tyX8_ok 3 (by decide)) rfl rfl (Nat.le_of_ble_eq_true rfl) dX8_advance_122 (fun H locs hP hD hS => ?_)
                  have hP : va_P G vwCl [(t, .inr (8, [.ref tape, .int t_fed, .int t_length, .int 3, .int v_22, .int v_22, .int t_number, .int t_sign, .long t_letters, .int t_fault, .int t_faultPlace])), (tape, .inl (cA.1 2, 900, .inl c_tape))] H := hP
                  have hD : va_D A [(t, .inr (8, [.ref tape, .int t_fed, .int t_length, .int 3, .int v_22, .int v_22, .int t_number, .int t_sign, .long t_letters, .int t_fault, .int t_faultPlace])), (tape, .inl (cA.1 2, 900, .inl c_tape))] := hD
                  refine lv_aload_n hx hb dX8_advance_125 rfl (lv_at hl 1 rfl) ?_
                  refine lv_iload_n hx hb dX8_advance_126 rfl (lv_at hl 0 rfl) ?_
                  refine va_put (D := G) (ci := 8) (v := .int r_63) (ty := .int) (C := RX8) (T := TX8) (N := 11) hx hb hts inT8 tyX8 tyX8_ok nmX8 hown hK hP hD hS 0 rfl rfl 7 (by decide) (hts _ tw_214) (fun _ h9 => h9) rfl (tyX8_ok 7 (by decide)) rfl rfl (Nat.le_of_ble_eq_true rfl) dX8_advance_127 (fun H locs hP hD hS => ?_)
                  have hP : va_P G vwCl [(t, .inr (8, [.ref tape, .int t_fed, .int t_length, .int 3, .int v_22, .int v_22, .int t_number, .int r_63, .long t_letters, .int t_fault, .int t_faultPlace])), (tape, .inl (cA.1 2, 900, .inl c_tape))] H := hP
                  have hD : va_D A [(t, .inr (8, [.ref tape, .int t_fed, .int t_length, .int 3, .int v_22, .int v_22, .int t_number, .int r_63, .long t_letters, .int t_fault, .int t_faultPlace])), (tape, .inl (cA.1 2, 900, .inl c_tape))] := hD
                  refine lv_aload_n hx hb dX8_advance_130 rfl (lv_at hl 1 rfl) ?_
                  refine lv_aload_n hx hb dX8_advance_131 rfl (lv_at hl 1 rfl) ?_
                  refine va_get (D := G) (ci := 8) (v := .int v_22) (C := RX8) (T := TX8) (N := 11) hx hb hts inT8 hown hK hP 0 rfl rfl 4 (by decide) (hts _ tw_210) (fun _ h9 => h9) rfl dX8_advance_132 ?_
                  refine lv_iconst (v := 1) hx hb dX8_advance_135 (by decide) ?_
                  refine lv_iadd hx hb dX8_advance_136 ?_
                  refine va_put (D := G) (ci := 8) (v := .int (v_22 + 1)) (ty := .int) (C := RX8) (T := TX8) (N := 11) hx hb hts inT8 tyX8 tyX8_ok nmX8 hown hK hP hD hS 0 rfl rfl 5 (by decide) (hts _ tw_211) (fun _ h9 => h9) rfl (tyX8_ok 5 (by decide)) rfl rfl (Nat.le_of_ble_eq_true rfl) dX8_advance_137 (fun H locs hP hD hS => ?_)
                  have hP : va_P G vwCl [(t, .inr (8, [.ref tape, .int t_fed, .int t_length, .int 3, .int v_22, .int (v_22 + 1), .int t_number, .int r_63, .long t_letters, .int t_fault, .int t_faultPlace])), (tape, .inl (cA.1 2, 900, .inl c_tape))] H := hP
                  have hD : va_D A [(t, .inr (8, [.ref tape, .int t_fed, .int t_length, .int 3, .int v_22, .int (v_22 + 1), .int t_number, .int r_63, .long t_letters, .int t_fault, .int t_faultPlace])), (tape, .inl (cA.1 2, 900, .inl c_tape))] := hD
                  exact hret _ _ _ _ _ (3, v_22, (v_22 + 1), r_63, t_number, t_letters) [0, 1] hP hD hS rfl (by decide) dX8_advance_140 trivial
              · skip
                refine lv_aload_n hx hb dX8_advance_102 rfl (lv_at hl 1 rfl) ?_
                refine z_callVv (As := []) (rest := []) (wr := []) ⟨hx, hb, hml, hown, hts⟩ hK hE hT hP hD hS hA (d_Te_readDigits l G cA t tape t_fed t_length t_kind v_22 v_22 t_number t_sign t_letters t_fault t_faultPlace c_tape) lk_RX8_57 ⟨rfl, rfl⟩ ⟨Nat.le_of_ble_eq_true rfl, Nat.le_of_ble_eq_true rfl⟩ 8 rfl rfl rfl [0, 1] [] rfl rfl (by decide) rfl hl.1 rfl (lv_room (Nat.le_of_ble_eq_true rfl)) dX8_advance_103 ⟨Nat.le_of_ble_eq_true rfl, Nat.le_of_ble_eq_true rfl⟩ (fun u_85 H locs hw hP hD hS => ?_)
                obtain ⟨nw0_81, nw1_82, nw2_83⟩ := u_85
                have hP : va_P G vwCl [(t, .inr (8, [.ref tape, .int t_fed, .int t_length, .int nw0_81, .int v_22, .int nw1_82, .int nw2_83, .int t_sign, .long t_letters, .int t_fault, .int t_faultPlace])), (tape, .inl (cA.1 2, 900, .inl c_tape))] H := hP
                have hD : va_D A [(t, .inr (8, [.ref tape, .int t_fed, .int t_length, .int nw0_81, .int v_22, .int nw1_82, .int nw2_83, .int t_sign, .long t_letters, .int t_fault, .int t_faultPlace])), (tape, .inl (cA.1 2, 900, .inl c_tape))] := hD
                refine lv_goto (tgt := 140) hx hb dX8_advance_106 (by decide) ?_
                exact hret _ _ _ _ _ (nw0_81, v_22, nw1_82, t_sign, nw2_83, t_letters) [0, 1] hP hD hS rfl (by decide) dX8_advance_140 trivial
            · skip
              refine lv_aload_n hx hb dX8_advance_83 rfl (lv_at hl 1 rfl) ?_
              refine lv_iconst (v := 1) hx hb dX8_advance_84 (by decide) ?_
              refine va_put (D := G) (ci := 8) (v := .int 1) (ty := .int) (C := RX8) (T := TX8) (N := 11) hx hb hts inT8 tyX8 tyX8_ok nmX8 hown hK hP hD hS 0 rfl rfl 3 (by decide) (hts _ tw_209) (fun _ h9 => h9) rfl (tyX8_ok 3 (by decide)) rfl rfl (Nat.le_of_ble_eq_true rfl) dX8_advance_85 (fun H locs hP hD hS => ?_)
              have hP : va_P G vwCl [(t, .inr (8, [.ref tape, .int t_fed, .int t_length, .int 1, .int v_22, .int v_22, .int t_number, .int t_sign, .long t_letters, .int t_fault, .int t_faultPlace])), (tape, .inl (cA.1 2, 900, .inl c_tape))] H := hP
              have hD : va_D A [(t, .inr (8, [.ref tape, .int t_fed, .int t_length, .int 1, .int v_22, .int v_22, .int t_number, .int t_sign, .long t_letters, .int t_fault, .int t_faultPlace])), (tape, .inl (cA.1 2, 900, .inl c_tape))] := hD
              refine lv_aload_n hx hb dX8_advance_88 rfl (lv_at hl 1 rfl) ?_
              refine z_callVv (As := []) (rest := []) (wr := []) ⟨hx, hb, hml, hown, hts⟩ hK hE hT hP hD hS hA (d_Te_readLetters l G cA t tape t_fed t_length 1 v_22 v_22 t_number t_sign t_letters t_fault t_faultPlace c_tape) lk_RX8_51 ⟨rfl, rfl⟩ ⟨Nat.le_of_ble_eq_true rfl, Nat.le_of_ble_eq_true rfl⟩ 8 rfl rfl rfl [0, 1] [] rfl rfl (by decide) rfl hl.1 rfl (lv_room (Nat.le_of_ble_eq_true rfl)) dX8_advance_89 ⟨Nat.le_of_ble_eq_true rfl, Nat.le_of_ble_eq_true rfl⟩ (fun u_90 H locs hw hP hD hS => ?_)
              obtain ⟨nw0_87, nw1_88⟩ := u_90
              have hP : va_P G vwCl [(t, .inr (8, [.ref tape, .int t_fed, .int t_length, .int 1, .int v_22, .int nw0_87, .int t_number, .int t_sign, .long nw1_88, .int t_fault, .int t_faultPlace])), (tape, .inl (cA.1 2, 900, .inl c_tape))] H := hP
              have hD : va_D A [(t, .inr (8, [.ref tape, .int t_fed, .int t_length, .int 1, .int v_22, .int nw0_87, .int t_number, .int t_sign, .long nw1_88, .int t_fault, .int t_faultPlace])), (tape, .inl (cA.1 2, 900, .inl c_tape))] := hD
              refine lv_goto (tgt := 140) hx hb dX8_advance_92 (by decide) ?_
              exact hret _ _ _ _ _ (1, v_22, nw0_87, t_sign, t_number, nw1_88) [0, 1] hP hD hS rfl (by decide) dX8_advance_140 trivial
          · skip
            refine lv_aload_n hx hb dX8_advance_68 rfl (lv_at hl 1 rfl) ?_
            refine lv_iconst (v := 0) hx hb dX8_advance_69 (by decide) ?_
            refine va_put (D := G) (ci := 8) (v := .int 0) (ty := .int) (C := RX8) (T := TX8) (N := 11) hx hb hts inT8 tyX8 tyX8_ok nmX8 hown hK hP hD hS 0 rfl rfl 3 (by decide) (hts _ tw_209) (fun _ h9 => h9) rfl (tyX8_ok 3 (by decide)) rfl rfl (Nat.le_of_ble_eq_true rfl) dX8_advance_70 (fun H locs hP hD hS => ?_)
            have hP : va_P G vwCl [(t, .inr (8, [.ref tape, .int t_fed, .int t_length, .int 0, .int v_22, .int v_22, .int t_number, .int t_sign, .long t_letters, .int t_fault, .int t_faultPlace])), (tape, .inl (cA.1 2, 900, .inl c_tape))] H := hP
            have hD : va_D A [(t, .inr (8, [.ref tape, .int t_fed, .int t_length, .int 0, .int v_22, .int v_22, .int t_number, .int t_sign, .long t_letters, .int t_fault, .int t_faultPlace])), (tape, .inl (cA.1 2, 900, .inl c_tape))] := hD
            refine lv_goto (tgt := 140) hx hb dX8_advance_73 (by decide) ?_
            exact hret _ _ _ _ _ (0, v_22, v_22, t_sign, t_number, t_letters) [0, 1] hP hD hS rfl (by decide) dX8_advance_140 trivial
        · skip
          refine lv_aload_n hx hb dX8_advance_33 rfl (lv_at hl 0 rfl) ?_
          refine lv_dup hx hb dX8_advance_34 rfl ?_
          refine va_get (D := G) (ci := 8) (v := .int v_22) (C := RX8) (T := TX8) (N := 11) hx hb hts inT8 hown hK hP 0 rfl rfl 4 (by decide) (hts _ tw_210) (fun _ h9 => h9) rfl dX8_advance_35 ?_
          refine lv_iconst (v := 1) hx hb dX8_advance_38 (by decide) ?_
          refine lv_iadd hx hb dX8_advance_39 ?_
          refine va_put (D := G) (ci := 8) (v := .int (v_22 + 1)) (ty := .int) (C := RX8) (T := TX8) (N := 11) hx hb hts inT8 tyX8 tyX8_ok nmX8 hown hK hP hD hS 0 rfl rfl 4 (by decide) (hts _ tw_210) (fun _ h9 => h9) rfl (tyX8_ok 4 (by decide)) rfl rfl (Nat.le_of_ble_eq_true rfl) dX8_advance_40 (fun H locs hP hD hS => ?_)
          have hP : va_P G vwCl [(t, .inr (8, [.ref tape, .int t_fed, .int t_length, .int t_kind, .int (v_22 + 1), .int t_end, .int t_number, .int t_sign, .long t_letters, .int t_fault, .int t_faultPlace])), (tape, .inl (cA.1 2, 900, .inl c_tape))] H := hP
          have hD : va_D A [(t, .inr (8, [.ref tape, .int t_fed, .int t_length, .int t_kind, .int (v_22 + 1), .int t_end, .int t_number, .int t_sign, .long t_letters, .int t_fault, .int t_faultPlace])), (tape, .inl (cA.1 2, 900, .inl c_tape))] := hD
          refine lv_goto (tgt := 8) hx hb dX8_advance_43 (by decide) ?_
          exact ih_24 (v_22 + 1) H locs ls (z_up hmu (by omega) (by omega)) hP hD hS (lv_sub hl [0] rfl)
  exact hlp_23 _ t_end _ _ _ (Nat.lt_succ_self _) hP hD hS (lv_sub hl [0] rfl)
set_option maxHeartbeats 4000000 in
set_option maxRecDepth 100000 in
theorem d_Te_begin (l : Launch) (G : va_G) (cA : zCA) (t : Nat) (tape : Nat) (t_fed : Int32) (t_length : Int32) (t_kind : Int32) (t_start : Int32) (t_end : Int32) (t_number : Int32) (t_sign : Int32) (t_letters : Int64) (t_fault : Int32) (t_faultPlace : Int32) (c_tape : Nat → Int32) (k : Int32) : zCv l yX8_begin cX8_begin 2 none ({ frames := 3, cells := 0, slots := 0, locals := 62 }) G cA [.ref t, .int k] [(t, .inr (8, [.ref tape, .int t_fed, .int t_length, .int t_kind, .int t_start, .int t_end, .int t_number, .int t_sign, .long t_letters, .int t_fault, .int t_faultPlace])), (tape, .inl (cA.1 2, 900, .inl c_tape))] (S := Int32 × Int32 × Int32 × Int32 × Int32 × Int32 × Int32 × Int64 × Int32 × Int32) (fun (u : Int32 × Int32 × Int32 × Int32 × Int32 × Int32 × Int32 × Int64 × Int32 × Int32) => True) (fun (u : Int32 × Int32 × Int32 × Int32 × Int32 × Int32 × Int32 × Int64 × Int32 × Int32) => [(t, .inr (8, [.ref tape, .int u.1, .int u.2.1, .int u.2.2.1, .int u.2.2.2.1, .int u.2.2.2.2.1, .int u.2.2.2.2.2.1, .int u.2.2.2.2.2.2.1, .long u.2.2.2.2.2.2.2.1, .int u.2.2.2.2.2.2.2.2.1, .int u.2.2.2.2.2.2.2.2.2])), (tape, .inl (cA.1 2, 900, .inl c_tape))]) 0 0 := by
  refine z_start2v (own := RX8) (by decide) (Nat.le_of_ble_eq_true rfl) rfl ?_
  intro p e s m args below meth c A ls Q hx hb hml hts hown hK hE hT hP hD hS hA hl hret
  have hl : lv_has ls 2 [(0, .ref t), (1, .int k)] := hl
  refine lv_aload_n hx hb dX8_begin_0 rfl (lv_at hl 0 rfl) ?_
  refine lv_iload_n hx hb dX8_begin_1 rfl (lv_at hl 1 rfl) ?_
  refine va_put (D := G) (ci := 8) (v := .int k) (ty := .int) (C := RX8) (T := TX8) (N := 11) hx hb hts inT8 tyX8 tyX8_ok nmX8 hown hK hP hD hS 0 rfl rfl 2 (by decide) (hts _ tw_208) (fun _ h9 => h9) rfl (tyX8_ok 2 (by decide)) rfl rfl (Nat.le_of_ble_eq_true rfl) dX8_begin_2 (fun H locs hP hD hS => ?_)
  have hP : va_P G vwCl [(t, .inr (8, [.ref tape, .int t_fed, .int k, .int t_kind, .int t_start, .int t_end, .int t_number, .int t_sign, .long t_letters, .int t_fault, .int t_faultPlace])), (tape, .inl (cA.1 2, 900, .inl c_tape))] H := hP
  have hD : va_D A [(t, .inr (8, [.ref tape, .int t_fed, .int k, .int t_kind, .int t_start, .int t_end, .int t_number, .int t_sign, .long t_letters, .int t_fault, .int t_faultPlace])), (tape, .inl (cA.1 2, 900, .inl c_tape))] := hD
  refine lv_aload_n hx hb dX8_begin_5 rfl (lv_at hl 0 rfl) ?_
  refine lv_iconst (v := 0) hx hb dX8_begin_6 (by decide) ?_
  refine va_put (D := G) (ci := 8) (v := .int 0) (ty := .int) (C := RX8) (T := TX8) (N := 11) hx hb hts inT8 tyX8 tyX8_ok nmX8 hown hK hP hD hS 0 rfl rfl 1 (by decide) (hts _ tw_206) (fun _ h9 => h9) rfl (tyX8_ok 1 (by decide)) rfl rfl (Nat.le_of_ble_eq_true rfl) dX8_begin_7 (fun H locs hP hD hS => ?_)
  have hP : va_P G vwCl [(t, .inr (8, [.ref tape, .int 0, .int k, .int t_kind, .int t_start, .int t_end, .int t_number, .int t_sign, .long t_letters, .int t_fault, .int t_faultPlace])), (tape, .inl (cA.1 2, 900, .inl c_tape))] H := hP
  have hD : va_D A [(t, .inr (8, [.ref tape, .int 0, .int k, .int t_kind, .int t_start, .int t_end, .int t_number, .int t_sign, .long t_letters, .int t_fault, .int t_faultPlace])), (tape, .inl (cA.1 2, 900, .inl c_tape))] := hD
  refine lv_aload_n hx hb dX8_begin_10 rfl (lv_at hl 0 rfl) ?_
  refine lv_iconst (v := 0) hx hb dX8_begin_11 (by decide) ?_
  refine va_put (D := G) (ci := 8) (v := .int 0) (ty := .int) (C := RX8) (T := TX8) (N := 11) hx hb hts inT8 tyX8 tyX8_ok nmX8 hown hK hP hD hS 0 rfl rfl 5 (by decide) (hts _ tw_211) (fun _ h9 => h9) rfl (tyX8_ok 5 (by decide)) rfl rfl (Nat.le_of_ble_eq_true rfl) dX8_begin_12 (fun H locs hP hD hS => ?_)
  have hP : va_P G vwCl [(t, .inr (8, [.ref tape, .int 0, .int k, .int t_kind, .int t_start, .int 0, .int t_number, .int t_sign, .long t_letters, .int t_fault, .int t_faultPlace])), (tape, .inl (cA.1 2, 900, .inl c_tape))] H := hP
  have hD : va_D A [(t, .inr (8, [.ref tape, .int 0, .int k, .int t_kind, .int t_start, .int 0, .int t_number, .int t_sign, .long t_letters, .int t_fault, .int t_faultPlace])), (tape, .inl (cA.1 2, 900, .inl c_tape))] := hD
  refine lv_aload_n hx hb dX8_begin_15 rfl (lv_at hl 0 rfl) ?_
  refine lv_iconst (v := 0) hx hb dX8_begin_16 (by decide) ?_
  refine va_put (D := G) (ci := 8) (v := .int 0) (ty := .int) (C := RX8) (T := TX8) (N := 11) hx hb hts inT8 tyX8 tyX8_ok nmX8 hown hK hP hD hS 0 rfl rfl 9 (by decide) (hts _ tw_218) (fun _ h9 => h9) rfl (tyX8_ok 9 (by decide)) rfl rfl (Nat.le_of_ble_eq_true rfl) dX8_begin_17 (fun H locs hP hD hS => ?_)
  have hP : va_P G vwCl [(t, .inr (8, [.ref tape, .int 0, .int k, .int t_kind, .int t_start, .int 0, .int t_number, .int t_sign, .long t_letters, .int 0, .int t_faultPlace])), (tape, .inl (cA.1 2, 900, .inl c_tape))] H := hP
  have hD : va_D A [(t, .inr (8, [.ref tape, .int 0, .int k, .int t_kind, .int t_start, .int 0, .int t_number, .int t_sign, .long t_letters, .int 0, .int t_faultPlace])), (tape, .inl (cA.1 2, 900, .inl c_tape))] := hD
  refine lv_aload_n hx hb dX8_begin_20 rfl (lv_at hl 0 rfl) ?_
  refine lv_iconst (v := (-1)) hx hb dX8_begin_21 (by decide) ?_
  refine va_put (D := G) (ci := 8) (v := .int (-1)) (ty := .int) (C := RX8) (T := TX8) (N := 11) hx hb hts inT8 tyX8 tyX8_ok nmX8 hown hK hP hD hS 0 rfl rfl 10 (by decide) (hts _ tw_222) (fun _ h9 => h9) rfl (tyX8_ok 10 (by decide)) rfl rfl (Nat.le_of_ble_eq_true rfl) dX8_begin_22 (fun H locs hP hD hS => ?_)
  have hP : va_P G vwCl [(t, .inr (8, [.ref tape, .int 0, .int k, .int t_kind, .int t_start, .int 0, .int t_number, .int t_sign, .long t_letters, .int 0, .int (-1)])), (tape, .inl (cA.1 2, 900, .inl c_tape))] H := hP
  have hD : va_D A [(t, .inr (8, [.ref tape, .int 0, .int k, .int t_kind, .int t_start, .int 0, .int t_number, .int t_sign, .long t_letters, .int 0, .int (-1)])), (tape, .inl (cA.1 2, 900, .inl c_tape))] := hD
  refine lv_aload_n hx hb dX8_begin_25 rfl (lv_at hl 0 rfl) ?_
  refine z_callVv (As := []) (rest := []) (wr := []) ⟨hx, hb, hml, hown, hts⟩ hK hE hT hP hD hS hA (d_Te_advance l G cA t tape 0 k t_kind t_start 0 t_number t_sign t_letters 0 (-1) c_tape) lk_RX8_31 ⟨rfl, rfl⟩ ⟨Nat.le_of_ble_eq_true rfl, Nat.le_of_ble_eq_true rfl⟩ 8 rfl rfl rfl [0, 1] [] rfl rfl (by decide) rfl hl.1 rfl (lv_room (Nat.le_of_ble_eq_true rfl)) dX8_begin_26 ⟨Nat.le_of_ble_eq_true rfl, Nat.le_of_ble_eq_true rfl⟩ (fun u_8 H locs hw hP hD hS => ?_)
  obtain ⟨nw0_1, nw1_2, nw2_3, nw3_4, nw4_5, nw5_6⟩ := u_8
  have hP : va_P G vwCl [(t, .inr (8, [.ref tape, .int 0, .int k, .int nw0_1, .int nw1_2, .int nw2_3, .int nw4_5, .int nw3_4, .long nw5_6, .int 0, .int (-1)])), (tape, .inl (cA.1 2, 900, .inl c_tape))] H := hP
  have hD : va_D A [(t, .inr (8, [.ref tape, .int 0, .int k, .int nw0_1, .int nw1_2, .int nw2_3, .int nw4_5, .int nw3_4, .long nw5_6, .int 0, .int (-1)])), (tape, .inl (cA.1 2, 900, .inl c_tape))] := hD
  exact hret _ _ _ _ _ (0, k, nw0_1, nw1_2, nw2_3, nw4_5, nw3_4, nw5_6, 0, (-1)) [0, 1] hP hD hS rfl (by decide) dX8_begin_29 trivial
set_option maxHeartbeats 4000000 in
set_option maxRecDepth 100000 in
theorem d_Te_is (l : Launch) (G : va_G) (cA : zCA) (t : Nat) (tape : Nat) (t_fed : Int32) (t_length : Int32) (t_kind : Int32) (t_start : Int32) (t_end : Int32) (t_number : Int32) (t_sign : Int32) (t_letters : Int64) (t_fault : Int32) (t_faultPlace : Int32) (c_tape : Nat → Int32) (i : Nat) (hi_i : i < 42) : zCi l yX8_is cX8_is 3 (some .boolean) ({ frames := 4, cells := 0, slots := 0, locals := 85 }) G cA [.ref t, .ref (cA.2.1 i)] [(t, .inr (8, [.ref tape, .int t_fed, .int t_length, .int t_kind, .int t_start, .int t_end, .int t_number, .int t_sign, .long t_letters, .int t_fault, .int t_faultPlace])), (tape, .inl (cA.1 2, 900, .inl c_tape))] (S := Unit) (fun (r : Int32) (u : Unit) => r = 0 ∨ r = 1) (fun (u : Unit) => [(t, .inr (8, [.ref tape, .int t_fed, .int t_length, .int t_kind, .int t_start, .int t_end, .int t_number, .int t_sign, .long t_letters, .int t_fault, .int t_faultPlace])), (tape, .inl (cA.1 2, 900, .inl c_tape))]) 0 0 := by
  refine z_start2z (own := RX8) (by decide) (Nat.le_of_ble_eq_true rfl) rfl ?_
  intro p e s m args below meth c A ls Q hx hb hml hts hown hK hE hT hP hD hS hA hl hret
  have hl : lv_has ls 3 [(0, .ref t), (1, .ref (cA.2.1 i))] := hl
  refine lv_aload_n hx hb dX8_is_0 rfl (lv_at hl 0 rfl) ?_
  refine va_get (D := G) (ci := 8) (v := .int t_kind) (C := RX8) (T := TX8) (N := 11) hx hb hts inT8 hown hK hP 0 rfl rfl 3 (by decide) (hts _ tw_209) (fun _ h9 => h9) rfl dX8_is_1 ?_
  refine lv_iconst (v := 1) hx hb dX8_is_4 (by decide) ?_
  refine lv_icmp_ne (tgt := 24) hx hb dX8_is_5 (by decide) (fun c_1 => ?_) (fun c_1 => ?_)
  · skip
    refine lv_iconst (v := 0) hx hb dX8_is_24 (by decide) ?_
    exact hret _ _ _ _ _ _ () [0, 1] hP hD hS rfl (by decide) dX8_is_25 (Or.inl rfl) (Or.inl rfl)
  · skip
    refine lv_aload_n hx hb dX8_is_8 rfl (lv_at hl 0 rfl) ?_
    refine va_get (D := G) (ci := 8) (v := .int t_end) (C := RX8) (T := TX8) (N := 11) hx hb hts inT8 hown hK hP 0 rfl rfl 5 (by decide) (hts _ tw_211) (fun _ h9 => h9) rfl dX8_is_9 ?_
    refine lv_aload_n hx hb dX8_is_12 rfl (lv_at hl 0 rfl) ?_
    refine va_get (D := G) (ci := 8) (v := .int t_start) (C := RX8) (T := TX8) (N := 11) hx hb hts inT8 hown hK hP 0 rfl rfl 4 (by decide) (hts _ tw_210) (fun _ h9 => h9) rfl dX8_is_13 ?_
    refine lv_isub hx hb dX8_is_16 ?_
    refine lv_topi (fun x_4 _ => ?_)
    refine lv_aload_n hx hb dX8_is_17 rfl (lv_at hl 1 rfl) ?_
    refine z_callWi (As := []) (rest := [.int x_4]) (wr := [(t, .inr (8, [.ref tape, .int t_fed, .int t_length, .int t_kind, .int t_start, .int t_end, .int t_number, .int t_sign, .long t_letters, .int t_fault, .int t_faultPlace])), (tape, .inl (cA.1 2, 900, .inl c_tape))]) ⟨hx, hb, hml, hown, hts⟩ hK hE hT hP hD hS hA (d_St_length l G cA i hi_i) lk_RX8_77 ⟨rfl, rfl⟩ ⟨Nat.le_of_ble_eq_true rfl, Nat.le_of_ble_eq_true rfl⟩ (z_rc hT hi_i hS) [] [0, 1] rfl rfl (by decide) rfl hl.1 rfl (lv_room (Nat.le_of_ble_eq_true rfl)) dX8_is_18 ⟨Nat.le_of_ble_eq_true rfl, Nat.le_of_ble_eq_true rfl⟩ (fun r_5 u_6 H locs hw hP hD hS => ?_)
    have hP : va_P G vwCl [(t, .inr (8, [.ref tape, .int t_fed, .int t_length, .int t_kind, .int t_start, .int t_end, .int t_number, .int t_sign, .long t_letters, .int t_fault, .int t_faultPlace])), (tape, .inl (cA.1 2, 900, .inl c_tape))] H := hP
    have hD : va_D A [(t, .inr (8, [.ref tape, .int t_fed, .int t_length, .int t_kind, .int t_start, .int t_end, .int t_number, .int t_sign, .long t_letters, .int t_fault, .int t_faultPlace])), (tape, .inl (cA.1 2, 900, .inl c_tape))] := hD
    obtain rfl : r_5 = nI (zlb i).length := hw
    refine lv_icmp_eq (tgt := 26) hx hb dX8_is_21 (by decide) (fun c_7 => ?_) (fun c_7 => ?_)
    · skip
      refine lv_iconst (v := 0) hx hb dX8_is_26 (by decide) ?_
      refine lv_istore_n (lv' := [(2, .int 0), (0, .ref t), (1, .ref (cA.2.1 i))]) hx hb dX8_is_27 rfl hl (by decide) rfl (fun ls hl => ?_)
      have hlp_34 : ∀ (n : Nat) (v_33 : Int32) (H : Heap) (locs : List Loc) (ls : Array Slot), (2147483647 - v_33.toInt).toNat < n → (0 ≤ v_33.toInt) → va_P G vwCl [(t, .inr (8, [.ref tape, .int t_fed, .int t_length, .int t_kind, .int t_start, .int t_end, .int t_number, .int t_sign, .long t_letters, .int t_fault, .int t_faultPlace])), (tape, .inl (cA.1 2, 900, .inl c_tape))] H → va_D A [(t, .inr (8, [.ref tape, .int t_fed, .int t_length, .int t_kind, .int t_start, .int t_end, .int t_number, .int t_sign, .long t_letters, .int t_fault, .int t_faultPlace])), (tape, .inl (cA.1 2, 900, .inl c_tape))] → va_S A s.heap H locs → lv_has ls 3 [(0, .ref t), (1, .ref (cA.2.1 i)), (2, .int v_33)] → W p l e ({ frames := 4, cells := 0, slots := 0, locals := 85 }) s m args below meth c H locs 0 0 Q (F0 m 28 ls []) := by
        intro n
        induction n with
        | zero =>
          intro v_33 H locs ls hmu hi_35 hP hD hS hl
          exact absurd hmu (Nat.not_lt_zero _)
        | succ n ih_36 =>
          intro v_33 H locs ls hmu hi_35 hP hD hS hl
          refine lv_iload_n hx hb dX8_is_28 rfl (lv_at hl 2 rfl) ?_
          refine lv_aload_n hx hb dX8_is_29 rfl (lv_at hl 1 rfl) ?_
          refine z_callWi (As := []) (rest := [.int v_33]) (wr := [(t, .inr (8, [.ref tape, .int t_fed, .int t_length, .int t_kind, .int t_start, .int t_end, .int t_number, .int t_sign, .long t_letters, .int t_fault, .int t_faultPlace])), (tape, .inl (cA.1 2, 900, .inl c_tape))]) ⟨hx, hb, hml, hown, hts⟩ hK hE hT hP hD hS hA (d_St_length l G cA i hi_i) lk_RX8_77 ⟨rfl, rfl⟩ ⟨Nat.le_of_ble_eq_true rfl, Nat.le_of_ble_eq_true rfl⟩ (z_rc hT hi_i hS) [] [0, 1] rfl rfl (by decide) rfl hl.1 rfl (lv_room (Nat.le_of_ble_eq_true rfl)) dX8_is_30 ⟨Nat.le_of_ble_eq_true rfl, Nat.le_of_ble_eq_true rfl⟩ (fun r_37 u_38 H locs hw hP hD hS => ?_)
          have hP : va_P G vwCl [(t, .inr (8, [.ref tape, .int t_fed, .int t_length, .int t_kind, .int t_start, .int t_end, .int t_number, .int t_sign, .long t_letters, .int t_fault, .int t_faultPlace])), (tape, .inl (cA.1 2, 900, .inl c_tape))] H := hP
          have hD : va_D A [(t, .inr (8, [.ref tape, .int t_fed, .int t_length, .int t_kind, .int t_start, .int t_end, .int t_number, .int t_sign, .long t_letters, .int t_fault, .int t_faultPlace])), (tape, .inl (cA.1 2, 900, .inl c_tape))] := hD
          obtain rfl : r_37 = nI (zlb i).length := hw
          refine lv_icmp_ge (tgt := 62) hx hb dX8_is_33 (by decide) (fun c_39 => ?_) (fun c_39 => ?_)
          · have b_40 := z_s1 c_39
            refine lv_iconst (v := 1) hx hb dX8_is_62 (by decide) ?_
            exact hret _ _ _ _ _ _ () [0, 1] hP hD hS rfl (by decide) dX8_is_63 (Or.inr rfl) (Or.inr rfl)
          · have b_41 := z_s2 c_39
            refine lv_aload_n hx hb dX8_is_36 rfl (lv_at hl 0 rfl) ?_
            refine lv_aload_n hx hb dX8_is_37 rfl (lv_at hl 0 rfl) ?_
            refine va_get (D := G) (ci := 8) (v := .int t_start) (C := RX8) (T := TX8) (N := 11) hx hb hts inT8 hown hK hP 0 rfl rfl 4 (by decide) (hts _ tw_210) (fun _ h9 => h9) rfl dX8_is_38 ?_
            refine lv_iload_n hx hb dX8_is_41 rfl (lv_at hl 2 rfl) ?_
            refine lv_iadd hx hb dX8_is_42 ?_
            refine lv_topi (fun x_42 _ => ?_)
            refine z_callVi (As := [.int x_42]) (rest := []) (wr := []) ⟨hx, hb, hml, hown, hts⟩ hK hE hT hP hD hS hA (d_Te_byteAt l G cA t tape t_fed t_length t_kind t_start t_end t_number t_sign t_letters t_fault t_faultPlace c_tape x_42) lk_RX8_40 ⟨rfl, rfl⟩ ⟨Nat.le_of_ble_eq_true rfl, Nat.le_of_ble_eq_true rfl⟩ 8 rfl rfl rfl [0, 1] [] rfl rfl (by decide) rfl hl.1 rfl (lv_room (Nat.le_of_ble_eq_true rfl)) dX8_is_43 ⟨Nat.le_of_ble_eq_true rfl, Nat.le_of_ble_eq_true rfl⟩ (fun r_43 u_44 H locs hw hP hD hS => ?_)
            have hP : va_P G vwCl [(t, .inr (8, [.ref tape, .int t_fed, .int t_length, .int t_kind, .int t_start, .int t_end, .int t_number, .int t_sign, .long t_letters, .int t_fault, .int t_faultPlace])), (tape, .inl (cA.1 2, 900, .inl c_tape))] H := hP
            have hD : va_D A [(t, .inr (8, [.ref tape, .int t_fed, .int t_length, .int t_kind, .int t_start, .int t_end, .int t_number, .int t_sign, .long t_letters, .int t_fault, .int t_faultPlace])), (tape, .inl (cA.1 2, 900, .inl c_tape))] := hD
            refine lv_aload_n hx hb dX8_is_46 rfl (lv_at hl 1 rfl) ?_
            refine lv_iload_n hx hb dX8_is_47 rfl (lv_at hl 2 rfl) ?_
            refine z_callWi (As := [.int v_33]) (rest := [.int r_43]) (wr := [(t, .inr (8, [.ref tape, .int t_fed, .int t_length, .int t_kind, .int t_start, .int t_end, .int t_number, .int t_sign, .long t_letters, .int t_fault, .int t_faultPlace])), (tape, .inl (cA.1 2, 900, .inl c_tape))]) ⟨hx, hb, hml, hown, hts⟩ hK hE hT hP hD hS hA (d_St_charAt l G cA i v_33 hi_i (by omega) (by omega)) lk_RX8_82 ⟨rfl, rfl⟩ ⟨Nat.le_of_ble_eq_true rfl, Nat.le_of_ble_eq_true rfl⟩ (z_rc hT hi_i hS) [] [0, 1] rfl rfl (by decide) rfl hl.1 rfl (lv_room (Nat.le_of_ble_eq_true rfl)) dX8_is_48 ⟨Nat.le_of_ble_eq_true rfl, Nat.le_of_ble_eq_true rfl⟩ (fun r_45 u_46 H locs hw hP hD hS => ?_)
            have hP : va_P G vwCl [(t, .inr (8, [.ref tape, .int t_fed, .int t_length, .int t_kind, .int t_start, .int t_end, .int t_number, .int t_sign, .long t_letters, .int t_fault, .int t_faultPlace])), (tape, .inl (cA.1 2, 900, .inl c_tape))] H := hP
            have hD : va_D A [(t, .inr (8, [.ref tape, .int t_fed, .int t_length, .int t_kind, .int t_start, .int t_end, .int t_number, .int t_sign, .long t_letters, .int t_fault, .int t_faultPlace])), (tape, .inl (cA.1 2, 900, .inl c_tape))] := hD
            refine lv_icmp_eq (tgt := 56) hx hb dX8_is_51 (by decide) (fun c_47 => ?_) (fun c_47 => ?_)
            · skip
              refine lv_iinc (v := (v_33 + 1)) (lv' := [(2, .int (v_33 + 1)), (0, .ref t), (1, .ref (cA.2.1 i))]) hx hb dX8_is_56 hl (k := 2) rfl (z_ofi (by decide +kernel)) (by decide) rfl (fun ls hl => ?_)
              refine lv_goto (tgt := 28) hx hb dX8_is_59 (by decide) ?_
              exact ih_36 (v_33 + 1) H locs ls (z_up hmu (by omega) (by omega)) (z_upc hi_35 (by omega) (by omega)) hP hD hS (lv_sub hl [1, 2, 0] rfl)
            · skip
              refine lv_iconst (v := 0) hx hb dX8_is_54 (by decide) ?_
              exact hret _ _ _ _ _ _ () [0, 1] hP hD hS rfl (by decide) dX8_is_55 (Or.inl rfl) (Or.inl rfl)
      exact hlp_34 _ 0 _ _ _ (Nat.lt_succ_self _) (by first | decide +kernel | omega) hP hD hS (lv_sub hl [1, 2, 0] rfl)
    · skip
      refine lv_iconst (v := 0) hx hb dX8_is_24 (by decide) ?_
      exact hret _ _ _ _ _ _ () [0, 1] hP hD hS rfl (by decide) dX8_is_25 (Or.inl rfl) (Or.inl rfl)
set_option maxHeartbeats 4000000 in
set_option maxRecDepth 100000 in
theorem d_Te_isSign (l : Launch) (G : va_G) (cA : zCA) (t : Nat) (tape : Nat) (t_fed : Int32) (t_length : Int32) (t_kind : Int32) (t_start : Int32) (t_end : Int32) (t_number : Int32) (t_sign : Int32) (t_letters : Int64) (t_fault : Int32) (t_faultPlace : Int32) (k : Int32) : zCi l yX8_isSign cX8_isSign 2 (some .boolean) ({ frames := 0, cells := 0, slots := 0, locals := 0 }) G cA [.ref t, .int k] [(t, .inr (8, [.ref tape, .int t_fed, .int t_length, .int t_kind, .int t_start, .int t_end, .int t_number, .int t_sign, .long t_letters, .int t_fault, .int t_faultPlace]))] (S := Unit) (fun (r : Int32) (u : Unit) => r = 0 ∨ r = 1) (fun (u : Unit) => [(t, .inr (8, [.ref tape, .int t_fed, .int t_length, .int t_kind, .int t_start, .int t_end, .int t_number, .int t_sign, .long t_letters, .int t_fault, .int t_faultPlace]))]) 0 0 := by
  refine z_start2z (own := RX8) (by decide) (Nat.le_of_ble_eq_true rfl) rfl ?_
  intro p e s m args below meth c A ls Q hx hb hml hts hown hK hE hT hP hD hS hA hl hret
  have hl : lv_has ls 2 [(0, .ref t), (1, .int k)] := hl
  refine lv_aload_n hx hb dX8_isSign_0 rfl (lv_at hl 0 rfl) ?_
  refine va_get (D := G) (ci := 8) (v := .int t_kind) (C := RX8) (T := TX8) (N := 11) hx hb hts inT8 hown hK hP 0 rfl rfl 3 (by decide) (hts _ tw_209) (fun _ h9 => h9) rfl dX8_isSign_1 ?_
  refine lv_iconst (v := 3) hx hb dX8_isSign_4 (by decide) ?_
  refine lv_icmp_ne (tgt := 20) hx hb dX8_isSign_5 (by decide) (fun c_1 => ?_) (fun c_1 => ?_)
  · skip
    refine lv_iconst (v := 0) hx hb dX8_isSign_20 (by decide) ?_
    exact hret _ _ _ _ _ _ () [0] hP hD hS rfl (by decide) dX8_isSign_21 (Or.inl rfl) (Or.inl rfl)
  · skip
    refine lv_aload_n hx hb dX8_isSign_8 rfl (lv_at hl 0 rfl) ?_
    refine va_get (D := G) (ci := 8) (v := .int t_sign) (C := RX8) (T := TX8) (N := 11) hx hb hts inT8 hown hK hP 0 rfl rfl 7 (by decide) (hts _ tw_214) (fun _ h9 => h9) rfl dX8_isSign_9 ?_
    refine lv_iload_n hx hb dX8_isSign_12 rfl (lv_at hl 1 rfl) ?_
    refine lv_icmp_ne (tgt := 20) hx hb dX8_isSign_13 (by decide) (fun c_4 => ?_) (fun c_4 => ?_)
    · skip
      refine lv_iconst (v := 0) hx hb dX8_isSign_20 (by decide) ?_
      exact hret _ _ _ _ _ _ () [0] hP hD hS rfl (by decide) dX8_isSign_21 (Or.inl rfl) (Or.inl rfl)
    · skip
      refine lv_iconst (v := 1) hx hb dX8_isSign_16 (by decide) ?_
      refine lv_goto (tgt := 21) hx hb dX8_isSign_17 (by decide) ?_
      exact hret _ _ _ _ _ _ () [0] hP hD hS rfl (by decide) dX8_isSign_21 (Or.inr rfl) (Or.inr rfl)
set_option maxHeartbeats 4000000 in
set_option maxRecDepth 100000 in
theorem d_Te_isNumber (l : Launch) (G : va_G) (cA : zCA) (t : Nat) (tape : Nat) (t_fed : Int32) (t_length : Int32) (t_kind : Int32) (t_start : Int32) (t_end : Int32) (t_number : Int32) (t_sign : Int32) (t_letters : Int64) (t_fault : Int32) (t_faultPlace : Int32) : zCi l yX8_isNumber cX8_isNumber 1 (some .boolean) ({ frames := 0, cells := 0, slots := 0, locals := 0 }) G cA [.ref t] [(t, .inr (8, [.ref tape, .int t_fed, .int t_length, .int t_kind, .int t_start, .int t_end, .int t_number, .int t_sign, .long t_letters, .int t_fault, .int t_faultPlace]))] (S := Unit) (fun (r : Int32) (u : Unit) => r = 0 ∨ r = 1) (fun (u : Unit) => [(t, .inr (8, [.ref tape, .int t_fed, .int t_length, .int t_kind, .int t_start, .int t_end, .int t_number, .int t_sign, .long t_letters, .int t_fault, .int t_faultPlace]))]) 0 0 := by
  refine z_start2z (own := RX8) (by decide) (Nat.le_of_ble_eq_true rfl) rfl ?_
  intro p e s m args below meth c A ls Q hx hb hml hts hown hK hE hT hP hD hS hA hl hret
  have hl : lv_has ls 1 [(0, .ref t)] := hl
  refine lv_aload_n hx hb dX8_isNumber_0 rfl (lv_at hl 0 rfl) ?_
  refine va_get (D := G) (ci := 8) (v := .int t_kind) (C := RX8) (T := TX8) (N := 11) hx hb hts inT8 hown hK hP 0 rfl rfl 3 (by decide) (hts _ tw_209) (fun _ h9 => h9) rfl dX8_isNumber_1 ?_
  refine lv_iconst (v := 2) hx hb dX8_isNumber_4 (by decide) ?_
  refine lv_icmp_ne (tgt := 12) hx hb dX8_isNumber_5 (by decide) (fun c_1 => ?_) (fun c_1 => ?_)
  · skip
    refine lv_iconst (v := 0) hx hb dX8_isNumber_12 (by decide) ?_
    exact hret _ _ _ _ _ _ () [0] hP hD hS rfl (by decide) dX8_isNumber_13 (Or.inl rfl) (Or.inl rfl)
  · skip
    refine lv_iconst (v := 1) hx hb dX8_isNumber_8 (by decide) ?_
    refine lv_goto (tgt := 13) hx hb dX8_isNumber_9 (by decide) ?_
    exact hret _ _ _ _ _ _ () [0] hP hD hS rfl (by decide) dX8_isNumber_13 (Or.inr rfl) (Or.inr rfl)
set_option maxHeartbeats 4000000 in
set_option maxRecDepth 100000 in
theorem d_Te_isName (l : Launch) (G : va_G) (cA : zCA) (t : Nat) (tape : Nat) (t_fed : Int32) (t_length : Int32) (t_kind : Int32) (t_start : Int32) (t_end : Int32) (t_number : Int32) (t_sign : Int32) (t_letters : Int64) (t_fault : Int32) (t_faultPlace : Int32) (c_tape : Nat → Int32) : zCi l yX8_isName cX8_isName 1 (some .boolean) ({ frames := 5, cells := 0, slots := 0, locals := 107 }) G cA [.ref t] [(t, .inr (8, [.ref tape, .int t_fed, .int t_length, .int t_kind, .int t_start, .int t_end, .int t_number, .int t_sign, .long t_letters, .int t_fault, .int t_faultPlace])), (tape, .inl (cA.1 2, 900, .inl c_tape))] (S := Unit) (fun (r : Int32) (u : Unit) => r = 0 ∨ r = 1) (fun (u : Unit) => [(t, .inr (8, [.ref tape, .int t_fed, .int t_length, .int t_kind, .int t_start, .int t_end, .int t_number, .int t_sign, .long t_letters, .int t_fault, .int t_faultPlace])), (tape, .inl (cA.1 2, 900, .inl c_tape))]) 0 0 := by
  refine z_start2z (own := RX8) (by decide) (Nat.le_of_ble_eq_true rfl) rfl ?_
  intro p e s m args below meth c A ls Q hx hb hml hts hown hK hE hT hP hD hS hA hl hret
  have hl : lv_has ls 1 [(0, .ref t)] := hl
  refine lv_aload_n hx hb dX8_isName_0 rfl (lv_at hl 0 rfl) ?_
  refine va_get (D := G) (ci := 8) (v := .int t_kind) (C := RX8) (T := TX8) (N := 11) hx hb hts inT8 hown hK hP 0 rfl rfl 3 (by decide) (hts _ tw_209) (fun _ h9 => h9) rfl dX8_isName_1 ?_
  refine lv_iconst (v := 1) hx hb dX8_isName_4 (by decide) ?_
  refine lv_icmp_ne (tgt := 17) hx hb dX8_isName_5 (by decide) (fun c_1 => ?_) (fun c_1 => ?_)
  · skip
    refine lv_iconst (v := 0) hx hb dX8_isName_17 (by decide) ?_
    exact hret _ _ _ _ _ _ () [0, 1] hP hD hS rfl (by decide) dX8_isName_18 (Or.inl rfl) (Or.inl rfl)
  · skip
    refine lv_aload_n hx hb dX8_isName_8 rfl (lv_at hl 0 rfl) ?_
    refine va_get (D := G) (ci := 8) (v := .long t_letters) (C := RX8) (T := TX8) (N := 11) hx hb hts inT8 hown hK hP 0 rfl rfl 8 (by decide) (hts _ tw_217) (fun _ h9 => h9) rfl dX8_isName_9 ?_
    refine lv_lconst (v := 0) hx hb dX8_isName_12 (by decide) ?_
    refine W.lcmp hx hb dX8_isName_13 ?_
    refine lv_if_ne (tgt := 19) hx hb dX8_isName_14 (by decide) (fun c_4 => ?_) (fun c_4 => ?_)
    · skip
      refine lv_aload_n hx hb dX8_isName_19 rfl (lv_at hl 0 rfl) ?_
      refine va_ldcS hx hb hown (show vk_R "DarkRing$Text" 86 "feature" (cA.2.1 1) s from (hT.1 1 (by decide)).1) dX8_isName_20 ?_
      refine z_callVi (As := [.ref (cA.2.1 1)]) (rest := []) (wr := []) ⟨hx, hb, hml, hown, hts⟩ hK hE hT hP hD hS hA (d_Te_is l G cA t tape t_fed t_length t_kind t_start t_end t_number t_sign t_letters t_fault t_faultPlace c_tape 1 (by decide)) lk_RX8_88 ⟨rfl, rfl⟩ ⟨Nat.le_of_ble_eq_true rfl, Nat.le_of_ble_eq_true rfl⟩ 8 rfl rfl rfl [0, 1] [] rfl rfl (by decide) rfl hl.1 rfl (lv_room (Nat.le_of_ble_eq_true rfl)) dX8_isName_22 ⟨Nat.le_of_ble_eq_true rfl, Nat.le_of_ble_eq_true rfl⟩ (fun r_6 u_7 H locs hw hP hD hS => ?_)
      have hP : va_P G vwCl [(t, .inr (8, [.ref tape, .int t_fed, .int t_length, .int t_kind, .int t_start, .int t_end, .int t_number, .int t_sign, .long t_letters, .int t_fault, .int t_faultPlace])), (tape, .inl (cA.1 2, 900, .inl c_tape))] H := hP
      have hD : va_D A [(t, .inr (8, [.ref tape, .int t_fed, .int t_length, .int t_kind, .int t_start, .int t_end, .int t_number, .int t_sign, .long t_letters, .int t_fault, .int t_faultPlace])), (tape, .inl (cA.1 2, 900, .inl c_tape))] := hD
      have hz_r_6 := hw
      refine lv_if_ne (tgt := 158) hx hb dX8_isName_25 (by decide) (fun c_8 => ?_) (fun c_8 => ?_)
      · skip
        refine lv_iconst (v := 0) hx hb dX8_isName_158 (by decide) ?_
        exact hret _ _ _ _ _ _ () [0, 1] hP hD hS rfl (by decide) dX8_isName_159 (Or.inl rfl) (Or.inl rfl)
      · skip
        refine lv_aload_n hx hb dX8_isName_28 rfl (lv_at hl 0 rfl) ?_
        refine va_ldcS hx hb hown (show vk_R "DarkRing$Text" 92 "steps" (cA.2.1 2) s from (hT.1 2 (by decide)).1) dX8_isName_29 ?_
        refine z_callVi (As := [.ref (cA.2.1 2)]) (rest := []) (wr := []) ⟨hx, hb, hml, hown, hts⟩ hK hE hT hP hD hS hA (d_Te_is l G cA t tape t_fed t_length t_kind t_start t_end t_number t_sign t_letters t_fault t_faultPlace c_tape 2 (by decide)) lk_RX8_88 ⟨rfl, rfl⟩ ⟨Nat.le_of_ble_eq_true rfl, Nat.le_of_ble_eq_true rfl⟩ 8 rfl rfl rfl [0, 1] [] rfl rfl (by decide) rfl hl.1 rfl (lv_room (Nat.le_of_ble_eq_true rfl)) dX8_isName_31 ⟨Nat.le_of_ble_eq_true rfl, Nat.le_of_ble_eq_true rfl⟩ (fun r_11 u_12 H locs hw hP hD hS => ?_)
        have hP : va_P G vwCl [(t, .inr (8, [.ref tape, .int t_fed, .int t_length, .int t_kind, .int t_start, .int t_end, .int t_number, .int t_sign, .long t_letters, .int t_fault, .int t_faultPlace])), (tape, .inl (cA.1 2, 900, .inl c_tape))] H := hP
        have hD : va_D A [(t, .inr (8, [.ref tape, .int t_fed, .int t_length, .int t_kind, .int t_start, .int t_end, .int t_number, .int t_sign, .long t_letters, .int t_fault, .int t_faultPlace])), (tape, .inl (cA.1 2, 900, .inl c_tape))] := hD
        have hz_r_11 := hw
        refine lv_if_ne (tgt := 158) hx hb dX8_isName_34 (by decide) (fun c_13 => ?_) (fun c_13 => ?_)
        · skip
          refine lv_iconst (v := 0) hx hb dX8_isName_158 (by decide) ?_
          exact hret _ _ _ _ _ _ () [0, 1] hP hD hS rfl (by decide) dX8_isName_159 (Or.inl rfl) (Or.inl rfl)
        · skip
          refine lv_aload_n hx hb dX8_isName_37 rfl (lv_at hl 0 rfl) ?_
          refine va_ldcS hx hb hown (show vk_R "DarkRing$Text" 94 "turned" (cA.2.1 3) s from (hT.1 3 (by decide)).1) dX8_isName_38 ?_
          refine z_callVi (As := [.ref (cA.2.1 3)]) (rest := []) (wr := []) ⟨hx, hb, hml, hown, hts⟩ hK hE hT hP hD hS hA (d_Te_is l G cA t tape t_fed t_length t_kind t_start t_end t_number t_sign t_letters t_fault t_faultPlace c_tape 3 (by decide)) lk_RX8_88 ⟨rfl, rfl⟩ ⟨Nat.le_of_ble_eq_true rfl, Nat.le_of_ble_eq_true rfl⟩ 8 rfl rfl rfl [0, 1] [] rfl rfl (by decide) rfl hl.1 rfl (lv_room (Nat.le_of_ble_eq_true rfl)) dX8_isName_40 ⟨Nat.le_of_ble_eq_true rfl, Nat.le_of_ble_eq_true rfl⟩ (fun r_16 u_17 H locs hw hP hD hS => ?_)
          have hP : va_P G vwCl [(t, .inr (8, [.ref tape, .int t_fed, .int t_length, .int t_kind, .int t_start, .int t_end, .int t_number, .int t_sign, .long t_letters, .int t_fault, .int t_faultPlace])), (tape, .inl (cA.1 2, 900, .inl c_tape))] H := hP
          have hD : va_D A [(t, .inr (8, [.ref tape, .int t_fed, .int t_length, .int t_kind, .int t_start, .int t_end, .int t_number, .int t_sign, .long t_letters, .int t_fault, .int t_faultPlace])), (tape, .inl (cA.1 2, 900, .inl c_tape))] := hD
          have hz_r_16 := hw
          refine lv_if_ne (tgt := 158) hx hb dX8_isName_43 (by decide) (fun c_18 => ?_) (fun c_18 => ?_)
          · skip
            refine lv_iconst (v := 0) hx hb dX8_isName_158 (by decide) ?_
            exact hret _ _ _ _ _ _ () [0, 1] hP hD hS rfl (by decide) dX8_isName_159 (Or.inl rfl) (Or.inl rfl)
          · skip
            refine lv_aload_n hx hb dX8_isName_46 rfl (lv_at hl 0 rfl) ?_
            refine va_ldcS hx hb hown (show vk_R "DarkRing$Text" 96 "feels" (cA.2.1 4) s from (hT.1 4 (by decide)).1) dX8_isName_47 ?_
            refine z_callVi (As := [.ref (cA.2.1 4)]) (rest := []) (wr := []) ⟨hx, hb, hml, hown, hts⟩ hK hE hT hP hD hS hA (d_Te_is l G cA t tape t_fed t_length t_kind t_start t_end t_number t_sign t_letters t_fault t_faultPlace c_tape 4 (by decide)) lk_RX8_88 ⟨rfl, rfl⟩ ⟨Nat.le_of_ble_eq_true rfl, Nat.le_of_ble_eq_true rfl⟩ 8 rfl rfl rfl [0, 1] [] rfl rfl (by decide) rfl hl.1 rfl (lv_room (Nat.le_of_ble_eq_true rfl)) dX8_isName_49 ⟨Nat.le_of_ble_eq_true rfl, Nat.le_of_ble_eq_true rfl⟩ (fun r_21 u_22 H locs hw hP hD hS => ?_)
            have hP : va_P G vwCl [(t, .inr (8, [.ref tape, .int t_fed, .int t_length, .int t_kind, .int t_start, .int t_end, .int t_number, .int t_sign, .long t_letters, .int t_fault, .int t_faultPlace])), (tape, .inl (cA.1 2, 900, .inl c_tape))] H := hP
            have hD : va_D A [(t, .inr (8, [.ref tape, .int t_fed, .int t_length, .int t_kind, .int t_start, .int t_end, .int t_number, .int t_sign, .long t_letters, .int t_fault, .int t_faultPlace])), (tape, .inl (cA.1 2, 900, .inl c_tape))] := hD
            have hz_r_21 := hw
            refine lv_if_ne (tgt := 158) hx hb dX8_isName_52 (by decide) (fun c_23 => ?_) (fun c_23 => ?_)
            · skip
              refine lv_iconst (v := 0) hx hb dX8_isName_158 (by decide) ?_
              exact hret _ _ _ _ _ _ () [0, 1] hP hD hS rfl (by decide) dX8_isName_159 (Or.inl rfl) (Or.inl rfl)
            · skip
              refine lv_aload_n hx hb dX8_isName_55 rfl (lv_at hl 0 rfl) ?_
              refine va_ldcS hx hb hown (show vk_R "DarkRing$Text" 98 "key" (cA.2.1 5) s from (hT.1 5 (by decide)).1) dX8_isName_56 ?_
              refine z_callVi (As := [.ref (cA.2.1 5)]) (rest := []) (wr := []) ⟨hx, hb, hml, hown, hts⟩ hK hE hT hP hD hS hA (d_Te_is l G cA t tape t_fed t_length t_kind t_start t_end t_number t_sign t_letters t_fault t_faultPlace c_tape 5 (by decide)) lk_RX8_88 ⟨rfl, rfl⟩ ⟨Nat.le_of_ble_eq_true rfl, Nat.le_of_ble_eq_true rfl⟩ 8 rfl rfl rfl [0, 1] [] rfl rfl (by decide) rfl hl.1 rfl (lv_room (Nat.le_of_ble_eq_true rfl)) dX8_isName_58 ⟨Nat.le_of_ble_eq_true rfl, Nat.le_of_ble_eq_true rfl⟩ (fun r_26 u_27 H locs hw hP hD hS => ?_)
              have hP : va_P G vwCl [(t, .inr (8, [.ref tape, .int t_fed, .int t_length, .int t_kind, .int t_start, .int t_end, .int t_number, .int t_sign, .long t_letters, .int t_fault, .int t_faultPlace])), (tape, .inl (cA.1 2, 900, .inl c_tape))] H := hP
              have hD : va_D A [(t, .inr (8, [.ref tape, .int t_fed, .int t_length, .int t_kind, .int t_start, .int t_end, .int t_number, .int t_sign, .long t_letters, .int t_fault, .int t_faultPlace])), (tape, .inl (cA.1 2, 900, .inl c_tape))] := hD
              have hz_r_26 := hw
              refine lv_if_ne (tgt := 158) hx hb dX8_isName_61 (by decide) (fun c_28 => ?_) (fun c_28 => ?_)
              · skip
                refine lv_iconst (v := 0) hx hb dX8_isName_158 (by decide) ?_
                exact hret _ _ _ _ _ _ () [0, 1] hP hD hS rfl (by decide) dX8_isName_159 (Or.inl rfl) (Or.inl rfl)
              · skip
                refine lv_aload_n hx hb dX8_isName_64 rfl (lv_at hl 0 rfl) ?_
                refine va_ldcS hx hb hown (show vk_R "DarkRing$Text" 100 "ring" (cA.2.1 6) s from (hT.1 6 (by decide)).1) dX8_isName_65 ?_
                refine z_callVi (As := [.ref (cA.2.1 6)]) (rest := []) (wr := []) ⟨hx, hb, hml, hown, hts⟩ hK hE hT hP hD hS hA (d_Te_is l G cA t tape t_fed t_length t_kind t_start t_end t_number t_sign t_letters t_fault t_faultPlace c_tape 6 (by decide)) lk_RX8_88 ⟨rfl, rfl⟩ ⟨Nat.le_of_ble_eq_true rfl, Nat.le_of_ble_eq_true rfl⟩ 8 rfl rfl rfl [0, 1] [] rfl rfl (by decide) rfl hl.1 rfl (lv_room (Nat.le_of_ble_eq_true rfl)) dX8_isName_67 ⟨Nat.le_of_ble_eq_true rfl, Nat.le_of_ble_eq_true rfl⟩ (fun r_31 u_32 H locs hw hP hD hS => ?_)
                have hP : va_P G vwCl [(t, .inr (8, [.ref tape, .int t_fed, .int t_length, .int t_kind, .int t_start, .int t_end, .int t_number, .int t_sign, .long t_letters, .int t_fault, .int t_faultPlace])), (tape, .inl (cA.1 2, 900, .inl c_tape))] H := hP
                have hD : va_D A [(t, .inr (8, [.ref tape, .int t_fed, .int t_length, .int t_kind, .int t_start, .int t_end, .int t_number, .int t_sign, .long t_letters, .int t_fault, .int t_faultPlace])), (tape, .inl (cA.1 2, 900, .inl c_tape))] := hD
                have hz_r_31 := hw
                refine lv_if_ne (tgt := 158) hx hb dX8_isName_70 (by decide) (fun c_33 => ?_) (fun c_33 => ?_)
                · skip
                  refine lv_iconst (v := 0) hx hb dX8_isName_158 (by decide) ?_
                  exact hret _ _ _ _ _ _ () [0, 1] hP hD hS rfl (by decide) dX8_isName_159 (Or.inl rfl) (Or.inl rfl)
                · skip
                  refine lv_aload_n hx hb dX8_isName_73 rfl (lv_at hl 0 rfl) ?_
                  refine va_ldcS hx hb hown (show vk_R "DarkRing$Text" 102 "door" (cA.2.1 7) s from (hT.1 7 (by decide)).1) dX8_isName_74 ?_
                  refine z_callVi (As := [.ref (cA.2.1 7)]) (rest := []) (wr := []) ⟨hx, hb, hml, hown, hts⟩ hK hE hT hP hD hS hA (d_Te_is l G cA t tape t_fed t_length t_kind t_start t_end t_number t_sign t_letters t_fault t_faultPlace c_tape 7 (by decide)) lk_RX8_88 ⟨rfl, rfl⟩ ⟨Nat.le_of_ble_eq_true rfl, Nat.le_of_ble_eq_true rfl⟩ 8 rfl rfl rfl [0, 1] [] rfl rfl (by decide) rfl hl.1 rfl (lv_room (Nat.le_of_ble_eq_true rfl)) dX8_isName_76 ⟨Nat.le_of_ble_eq_true rfl, Nat.le_of_ble_eq_true rfl⟩ (fun r_36 u_37 H locs hw hP hD hS => ?_)
                  have hP : va_P G vwCl [(t, .inr (8, [.ref tape, .int t_fed, .int t_length, .int t_kind, .int t_start, .int t_end, .int t_number, .int t_sign, .long t_letters, .int t_fault, .int t_faultPlace])), (tape, .inl (cA.1 2, 900, .inl c_tape))] H := hP
                  have hD : va_D A [(t, .inr (8, [.ref tape, .int t_fed, .int t_length, .int t_kind, .int t_start, .int t_end, .int t_number, .int t_sign, .long t_letters, .int t_fault, .int t_faultPlace])), (tape, .inl (cA.1 2, 900, .inl c_tape))] := hD
                  have hz_r_36 := hw
                  refine lv_if_ne (tgt := 158) hx hb dX8_isName_79 (by decide) (fun c_38 => ?_) (fun c_38 => ?_)
                  · skip
                    refine lv_iconst (v := 0) hx hb dX8_isName_158 (by decide) ?_
                    exact hret _ _ _ _ _ _ () [0, 1] hP hD hS rfl (by decide) dX8_isName_159 (Or.inl rfl) (Or.inl rfl)
                  · skip
                    refine lv_aload_n hx hb dX8_isName_82 rfl (lv_at hl 0 rfl) ?_
                    refine va_ldcS hx hb hown (show vk_R "DarkRing$Text" 104 "wanted" (cA.2.1 8) s from (hT.1 8 (by decide)).1) dX8_isName_83 ?_
                    refine z_callVi (As := [.ref (cA.2.1 8)]) (rest := []) (wr := []) ⟨hx, hb, hml, hown, hts⟩ hK hE hT hP hD hS hA (d_Te_is l G cA t tape t_fed t_length t_kind t_start t_end t_number t_sign t_letters t_fault t_faultPlace c_tape 8 (by decide)) lk_RX8_88 ⟨rfl, rfl⟩ ⟨Nat.le_of_ble_eq_true rfl, Nat.le_of_ble_eq_true rfl⟩ 8 rfl rfl rfl [0, 1] [] rfl rfl (by decide) rfl hl.1 rfl (lv_room (Nat.le_of_ble_eq_true rfl)) dX8_isName_85 ⟨Nat.le_of_ble_eq_true rfl, Nat.le_of_ble_eq_true rfl⟩ (fun r_41 u_42 H locs hw hP hD hS => ?_)
                    have hP : va_P G vwCl [(t, .inr (8, [.ref tape, .int t_fed, .int t_length, .int t_kind, .int t_start, .int t_end, .int t_number, .int t_sign, .long t_letters, .int t_fault, .int t_faultPlace])), (tape, .inl (cA.1 2, 900, .inl c_tape))] H := hP
                    have hD : va_D A [(t, .inr (8, [.ref tape, .int t_fed, .int t_length, .int t_kind, .int t_start, .int t_end, .int t_number, .int t_sign, .long t_letters, .int t_fault, .int t_faultPlace])), (tape, .inl (cA.1 2, 900, .inl c_tape))] := hD
                    have hz_r_41 := hw
                    refine lv_if_ne (tgt := 158) hx hb dX8_isName_88 (by decide) (fun c_43 => ?_) (fun c_43 => ?_)
                    · skip
                      refine lv_iconst (v := 0) hx hb dX8_isName_158 (by decide) ?_
                      exact hret _ _ _ _ _ _ () [0, 1] hP hD hS rfl (by decide) dX8_isName_159 (Or.inl rfl) (Or.inl rfl)
                    · skip
                      refine lv_aload_n hx hb dX8_isName_91 rfl (lv_at hl 0 rfl) ?_
                      refine va_ldcS hx hb hown (show vk_R "DarkRing$Text" 106 "by" (cA.2.1 9) s from (hT.1 9 (by decide)).1) dX8_isName_92 ?_
                      refine z_callVi (As := [.ref (cA.2.1 9)]) (rest := []) (wr := []) ⟨hx, hb, hml, hown, hts⟩ hK hE hT hP hD hS hA (d_Te_is l G cA t tape t_fed t_length t_kind t_start t_end t_number t_sign t_letters t_fault t_faultPlace c_tape 9 (by decide)) lk_RX8_88 ⟨rfl, rfl⟩ ⟨Nat.le_of_ble_eq_true rfl, Nat.le_of_ble_eq_true rfl⟩ 8 rfl rfl rfl [0, 1] [] rfl rfl (by decide) rfl hl.1 rfl (lv_room (Nat.le_of_ble_eq_true rfl)) dX8_isName_94 ⟨Nat.le_of_ble_eq_true rfl, Nat.le_of_ble_eq_true rfl⟩ (fun r_46 u_47 H locs hw hP hD hS => ?_)
                      have hP : va_P G vwCl [(t, .inr (8, [.ref tape, .int t_fed, .int t_length, .int t_kind, .int t_start, .int t_end, .int t_number, .int t_sign, .long t_letters, .int t_fault, .int t_faultPlace])), (tape, .inl (cA.1 2, 900, .inl c_tape))] H := hP
                      have hD : va_D A [(t, .inr (8, [.ref tape, .int t_fed, .int t_length, .int t_kind, .int t_start, .int t_end, .int t_number, .int t_sign, .long t_letters, .int t_fault, .int t_faultPlace])), (tape, .inl (cA.1 2, 900, .inl c_tape))] := hD
                      have hz_r_46 := hw
                      refine lv_if_ne (tgt := 158) hx hb dX8_isName_97 (by decide) (fun c_48 => ?_) (fun c_48 => ?_)
                      · skip
                        refine lv_iconst (v := 0) hx hb dX8_isName_158 (by decide) ?_
                        exact hret _ _ _ _ _ _ () [0, 1] hP hD hS rfl (by decide) dX8_isName_159 (Or.inl rfl) (Or.inl rfl)
                      · skip
                        refine lv_aload_n hx hb dX8_isName_100 rfl (lv_at hl 0 rfl) ?_
                        refine va_ldcS hx hb hown (show vk_R "DarkRing$Text" 108 "seconds" (cA.2.1 10) s from (hT.1 10 (by decide)).1) dX8_isName_101 ?_
                        refine z_callVi (As := [.ref (cA.2.1 10)]) (rest := []) (wr := []) ⟨hx, hb, hml, hown, hts⟩ hK hE hT hP hD hS hA (d_Te_is l G cA t tape t_fed t_length t_kind t_start t_end t_number t_sign t_letters t_fault t_faultPlace c_tape 10 (by decide)) lk_RX8_88 ⟨rfl, rfl⟩ ⟨Nat.le_of_ble_eq_true rfl, Nat.le_of_ble_eq_true rfl⟩ 8 rfl rfl rfl [0, 1] [] rfl rfl (by decide) rfl hl.1 rfl (lv_room (Nat.le_of_ble_eq_true rfl)) dX8_isName_103 ⟨Nat.le_of_ble_eq_true rfl, Nat.le_of_ble_eq_true rfl⟩ (fun r_51 u_52 H locs hw hP hD hS => ?_)
                        have hP : va_P G vwCl [(t, .inr (8, [.ref tape, .int t_fed, .int t_length, .int t_kind, .int t_start, .int t_end, .int t_number, .int t_sign, .long t_letters, .int t_fault, .int t_faultPlace])), (tape, .inl (cA.1 2, 900, .inl c_tape))] H := hP
                        have hD : va_D A [(t, .inr (8, [.ref tape, .int t_fed, .int t_length, .int t_kind, .int t_start, .int t_end, .int t_number, .int t_sign, .long t_letters, .int t_fault, .int t_faultPlace])), (tape, .inl (cA.1 2, 900, .inl c_tape))] := hD
                        have hz_r_51 := hw
                        refine lv_if_ne (tgt := 158) hx hb dX8_isName_106 (by decide) (fun c_53 => ?_) (fun c_53 => ?_)
                        · skip
                          refine lv_iconst (v := 0) hx hb dX8_isName_158 (by decide) ?_
                          exact hret _ _ _ _ _ _ () [0, 1] hP hD hS rfl (by decide) dX8_isName_159 (Or.inl rfl) (Or.inl rfl)
                        · skip
                          refine lv_aload_n hx hb dX8_isName_109 rfl (lv_at hl 0 rfl) ?_
                          refine va_ldcS hx hb hown (show vk_R "DarkRing$Text" 110 "feel" (cA.2.1 11) s from (hT.1 11 (by decide)).1) dX8_isName_110 ?_
                          refine z_callVi (As := [.ref (cA.2.1 11)]) (rest := []) (wr := []) ⟨hx, hb, hml, hown, hts⟩ hK hE hT hP hD hS hA (d_Te_is l G cA t tape t_fed t_length t_kind t_start t_end t_number t_sign t_letters t_fault t_faultPlace c_tape 11 (by decide)) lk_RX8_88 ⟨rfl, rfl⟩ ⟨Nat.le_of_ble_eq_true rfl, Nat.le_of_ble_eq_true rfl⟩ 8 rfl rfl rfl [0, 1] [] rfl rfl (by decide) rfl hl.1 rfl (lv_room (Nat.le_of_ble_eq_true rfl)) dX8_isName_112 ⟨Nat.le_of_ble_eq_true rfl, Nat.le_of_ble_eq_true rfl⟩ (fun r_56 u_57 H locs hw hP hD hS => ?_)
                          have hP : va_P G vwCl [(t, .inr (8, [.ref tape, .int t_fed, .int t_length, .int t_kind, .int t_start, .int t_end, .int t_number, .int t_sign, .long t_letters, .int t_fault, .int t_faultPlace])), (tape, .inl (cA.1 2, 900, .inl c_tape))] H := hP
                          have hD : va_D A [(t, .inr (8, [.ref tape, .int t_fed, .int t_length, .int t_kind, .int t_start, .int t_end, .int t_number, .int t_sign, .long t_letters, .int t_fault, .int t_faultPlace])), (tape, .inl (cA.1 2, 900, .inl c_tape))] := hD
                          have hz_r_56 := hw
                          refine lv_if_ne (tgt := 158) hx hb dX8_isName_115 (by decide) (fun c_58 => ?_) (fun c_58 => ?_)
                          · skip
                            refine lv_iconst (v := 0) hx hb dX8_isName_158 (by decide) ?_
                            exact hret _ _ _ _ _ _ () [0, 1] hP hD hS rfl (by decide) dX8_isName_159 (Or.inl rfl) (Or.inl rfl)
                          · skip
                            refine lv_aload_n hx hb dX8_isName_118 rfl (lv_at hl 0 rfl) ?_
                            refine va_ldcS hx hb hown (show vk_R "DarkRing$Text" 112 "try" (cA.2.1 12) s from (hT.1 12 (by decide)).1) dX8_isName_119 ?_
                            refine z_callVi (As := [.ref (cA.2.1 12)]) (rest := []) (wr := []) ⟨hx, hb, hml, hown, hts⟩ hK hE hT hP hD hS hA (d_Te_is l G cA t tape t_fed t_length t_kind t_start t_end t_number t_sign t_letters t_fault t_faultPlace c_tape 12 (by decide)) lk_RX8_88 ⟨rfl, rfl⟩ ⟨Nat.le_of_ble_eq_true rfl, Nat.le_of_ble_eq_true rfl⟩ 8 rfl rfl rfl [0, 1] [] rfl rfl (by decide) rfl hl.1 rfl (lv_room (Nat.le_of_ble_eq_true rfl)) dX8_isName_121 ⟨Nat.le_of_ble_eq_true rfl, Nat.le_of_ble_eq_true rfl⟩ (fun r_61 u_62 H locs hw hP hD hS => ?_)
                            have hP : va_P G vwCl [(t, .inr (8, [.ref tape, .int t_fed, .int t_length, .int t_kind, .int t_start, .int t_end, .int t_number, .int t_sign, .long t_letters, .int t_fault, .int t_faultPlace])), (tape, .inl (cA.1 2, 900, .inl c_tape))] H := hP
                            have hD : va_D A [(t, .inr (8, [.ref tape, .int t_fed, .int t_length, .int t_kind, .int t_start, .int t_end, .int t_number, .int t_sign, .long t_letters, .int t_fault, .int t_faultPlace])), (tape, .inl (cA.1 2, 900, .inl c_tape))] := hD
                            have hz_r_61 := hw
                            refine lv_if_ne (tgt := 158) hx hb dX8_isName_124 (by decide) (fun c_63 => ?_) (fun c_63 => ?_)
                            · skip
                              refine lv_iconst (v := 0) hx hb dX8_isName_158 (by decide) ?_
                              exact hret _ _ _ _ _ _ () [0, 1] hP hD hS rfl (by decide) dX8_isName_159 (Or.inl rfl) (Or.inl rfl)
                            · skip
                              refine lv_aload_n hx hb dX8_isName_127 rfl (lv_at hl 0 rfl) ?_
                              refine va_ldcS hx hb hown (show vk_R "DarkRing$Text" 114 "go" (cA.2.1 13) s from (hT.1 13 (by decide)).1) dX8_isName_128 ?_
                              refine z_callVi (As := [.ref (cA.2.1 13)]) (rest := []) (wr := []) ⟨hx, hb, hml, hown, hts⟩ hK hE hT hP hD hS hA (d_Te_is l G cA t tape t_fed t_length t_kind t_start t_end t_number t_sign t_letters t_fault t_faultPlace c_tape 13 (by decide)) lk_RX8_88 ⟨rfl, rfl⟩ ⟨Nat.le_of_ble_eq_true rfl, Nat.le_of_ble_eq_true rfl⟩ 8 rfl rfl rfl [0, 1] [] rfl rfl (by decide) rfl hl.1 rfl (lv_room (Nat.le_of_ble_eq_true rfl)) dX8_isName_130 ⟨Nat.le_of_ble_eq_true rfl, Nat.le_of_ble_eq_true rfl⟩ (fun r_66 u_67 H locs hw hP hD hS => ?_)
                              have hP : va_P G vwCl [(t, .inr (8, [.ref tape, .int t_fed, .int t_length, .int t_kind, .int t_start, .int t_end, .int t_number, .int t_sign, .long t_letters, .int t_fault, .int t_faultPlace])), (tape, .inl (cA.1 2, 900, .inl c_tape))] H := hP
                              have hD : va_D A [(t, .inr (8, [.ref tape, .int t_fed, .int t_length, .int t_kind, .int t_start, .int t_end, .int t_number, .int t_sign, .long t_letters, .int t_fault, .int t_faultPlace])), (tape, .inl (cA.1 2, 900, .inl c_tape))] := hD
                              have hz_r_66 := hw
                              refine lv_if_ne (tgt := 158) hx hb dX8_isName_133 (by decide) (fun c_68 => ?_) (fun c_68 => ?_)
                              · skip
                                refine lv_iconst (v := 0) hx hb dX8_isName_158 (by decide) ?_
                                exact hret _ _ _ _ _ _ () [0, 1] hP hD hS rfl (by decide) dX8_isName_159 (Or.inl rfl) (Or.inl rfl)
                              · skip
                                refine lv_aload_n hx hb dX8_isName_136 rfl (lv_at hl 0 rfl) ?_
                                refine va_ldcS hx hb hown (show vk_R "DarkRing$Text" 116 "drop" (cA.2.1 14) s from (hT.1 14 (by decide)).1) dX8_isName_137 ?_
                                refine z_callVi (As := [.ref (cA.2.1 14)]) (rest := []) (wr := []) ⟨hx, hb, hml, hown, hts⟩ hK hE hT hP hD hS hA (d_Te_is l G cA t tape t_fed t_length t_kind t_start t_end t_number t_sign t_letters t_fault t_faultPlace c_tape 14 (by decide)) lk_RX8_88 ⟨rfl, rfl⟩ ⟨Nat.le_of_ble_eq_true rfl, Nat.le_of_ble_eq_true rfl⟩ 8 rfl rfl rfl [0, 1] [] rfl rfl (by decide) rfl hl.1 rfl (lv_room (Nat.le_of_ble_eq_true rfl)) dX8_isName_139 ⟨Nat.le_of_ble_eq_true rfl, Nat.le_of_ble_eq_true rfl⟩ (fun r_71 u_72 H locs hw hP hD hS => ?_)
                                have hP : va_P G vwCl [(t, .inr (8, [.ref tape, .int t_fed, .int t_length, .int t_kind, .int t_start, .int t_end, .int t_number, .int t_sign, .long t_letters, .int t_fault, .int t_faultPlace])), (tape, .inl (cA.1 2, 900, .inl c_tape))] H := hP
                                have hD : va_D A [(t, .inr (8, [.ref tape, .int t_fed, .int t_length, .int t_kind, .int t_start, .int t_end, .int t_number, .int t_sign, .long t_letters, .int t_fault, .int t_faultPlace])), (tape, .inl (cA.1 2, 900, .inl c_tape))] := hD
                                have hz_r_71 := hw
                                refine lv_if_ne (tgt := 158) hx hb dX8_isName_142 (by decide) (fun c_73 => ?_) (fun c_73 => ?_)
                                · skip
                                  refine lv_iconst (v := 0) hx hb dX8_isName_158 (by decide) ?_
                                  exact hret _ _ _ _ _ _ () [0, 1] hP hD hS rfl (by decide) dX8_isName_159 (Or.inl rfl) (Or.inl rfl)
                                · skip
                                  refine lv_aload_n hx hb dX8_isName_145 rfl (lv_at hl 0 rfl) ?_
                                  refine va_ldcS hx hb hown (show vk_R "DarkRing$Text" 118 "round" (cA.2.1 15) s from (hT.1 15 (by decide)).1) dX8_isName_146 ?_
                                  refine z_callVi (As := [.ref (cA.2.1 15)]) (rest := []) (wr := []) ⟨hx, hb, hml, hown, hts⟩ hK hE hT hP hD hS hA (d_Te_is l G cA t tape t_fed t_length t_kind t_start t_end t_number t_sign t_letters t_fault t_faultPlace c_tape 15 (by decide)) lk_RX8_88 ⟨rfl, rfl⟩ ⟨Nat.le_of_ble_eq_true rfl, Nat.le_of_ble_eq_true rfl⟩ 8 rfl rfl rfl [0, 1] [] rfl rfl (by decide) rfl hl.1 rfl (lv_room (Nat.le_of_ble_eq_true rfl)) dX8_isName_148 ⟨Nat.le_of_ble_eq_true rfl, Nat.le_of_ble_eq_true rfl⟩ (fun r_76 u_77 H locs hw hP hD hS => ?_)
                                  have hP : va_P G vwCl [(t, .inr (8, [.ref tape, .int t_fed, .int t_length, .int t_kind, .int t_start, .int t_end, .int t_number, .int t_sign, .long t_letters, .int t_fault, .int t_faultPlace])), (tape, .inl (cA.1 2, 900, .inl c_tape))] H := hP
                                  have hD : va_D A [(t, .inr (8, [.ref tape, .int t_fed, .int t_length, .int t_kind, .int t_start, .int t_end, .int t_number, .int t_sign, .long t_letters, .int t_fault, .int t_faultPlace])), (tape, .inl (cA.1 2, 900, .inl c_tape))] := hD
                                  have hz_r_76 := hw
                                  refine lv_if_ne (tgt := 158) hx hb dX8_isName_151 (by decide) (fun c_78 => ?_) (fun c_78 => ?_)
                                  · skip
                                    refine lv_iconst (v := 0) hx hb dX8_isName_158 (by decide) ?_
                                    exact hret _ _ _ _ _ _ () [0, 1] hP hD hS rfl (by decide) dX8_isName_159 (Or.inl rfl) (Or.inl rfl)
                                  · skip
                                    refine lv_iconst (v := 1) hx hb dX8_isName_154 (by decide) ?_
                                    refine lv_goto (tgt := 159) hx hb dX8_isName_155 (by decide) ?_
                                    exact hret _ _ _ _ _ _ () [0, 1] hP hD hS rfl (by decide) dX8_isName_159 (Or.inr rfl) (Or.inr rfl)
    · skip
      refine lv_iconst (v := 0) hx hb dX8_isName_17 (by decide) ?_
      exact hret _ _ _ _ _ _ () [0, 1] hP hD hS rfl (by decide) dX8_isName_18 (Or.inl rfl) (Or.inl rfl)
