set_option maxHeartbeats 4000000 in
set_option maxRecDepth 100000 in
theorem lw_case_42 {p : Program} {e : Env} {s : State} {m : MethodId} {below : List Frame} {meth : Method} {c : Code} (l : Launch) (G : va_G) (cA : Nat → ClassId) {b : Nat} {xs : Nat → Int32} {A : Nat → Prop} (h0 : Nat) (atr : Nat) (atx : Nat) (aho : Nat) (ath : Nat) (aru : Nat) (ahr : Nat) (arr_ : Nat) (ase : Nat) (ali : Nat) (aac : Nat) (aga : Nat) (akh : Nat) (ako : Nat) (akr : Nat) (f1 : Value) (f2 : Value) (f3 : Value) (f4 : Value) (f6 : Value) (f9 : Value) (f10 : Value) (f12 : Value) (f13 : Value) (f14 : Value) (f17 : Value) (h0_m : Nat) (cf_m : Nat → Int32) (m4_m : Value) (m5_m : Value) (m6_m : Value) (m7_m : Value) (ca_m : Nat) (m21_m : Value) (m23_m : Value) (m24_m : Value) (m25_m : Value) (m26_m : Value) (m35_m : Value) (m36_m : Value) (m51_m : Value) (m52_m : Value) (m53_m : Value) (m57_m : Value) (m58_m : Value) (m62_m : Value) (a1 : Int32) (a2 : Int32) (a3 : Int32) (a4 : Int32) (a5 : Int32) (ha1 : xs (1 : Int32).toNatClampNeg = a1) (ha2 : xs (2 : Int32).toNatClampNeg = a2) (ha3 : xs (3 : Int32).toNatClampNeg = a3) (ha4 : xs (4 : Int32).toNatClampNeg = a4) (ha5 : xs (5 : Int32).toNatClampNeg = a5) (hc_m : zFr cf_m) {H : Heap} {locs : List Loc} {ls : Array Slot} (hx : p.tables.exec = Jvm.exec) (hb : c.code = code) (hr : meth.sig.returnType = ret) (hml : c.maxLocals = 4) (hown : s.vm.findClass RL = some m.cls) (hts : ∀ w ∈ TB, w.before #[Value.ref b] s = true) (hlocks : meth.locks = false) (hX : va_X b 6 xs s s.heap) (hbl : b < s.heap.size) (hbA : ¬ A b) (hA : ∀ q, s.heap.size ≤ q → A q) (hAf : ∀ q, A q → s.heap.size ≤ q) (hK : va_K G vwCl (zTY cA) s) (hE : zEX s) (hP : va_P G vwCl [(h0, .inr (11, [.int 0, .long 0, .long 1, .ref atr, .ref atx, .ref aho, .ref ath, .ref aru, .ref ahr, .ref arr_, .ref ase, .ref ali, .ref aac, .ref aga, .int 0, .ref akh, .ref ako, .ref akr])), (aho, .inr (2, [.int 0, f1, f2, f3, f4, .int 0, f6, .int 0, .int 0, f9, f10, .int 0, f12, f13, f14, .int 8, .int 0, f17])), (h0_m, .inr (12, [.int 0, .int 0, .long 0, .long 1, m4_m, m5_m, m6_m, m7_m, .int 0, .int 0, .int (-1), .int (-1), .int 0, .int 0, .int 0, .int 0, .int 0, .int 0, .int 0, .long 0, .ref ca_m, m21_m, .int 0, m23_m, m24_m, m25_m, m26_m, .int 0, .int 0, .int 0, .int 0, .int 0, .int 0, .long 0, .long 0, m35_m, m36_m, .int 0, .int 0, .int 0, .int 0, .int 0, .int 0, .int 0, .int 0, .int 0, .int 0, .int 0, .int 0, .int 0, .int 0, m51_m, m52_m, m53_m, .int 0, .int 0, .int 0, m57_m, m58_m, .int 0, .long 0, .long 0, m62_m, .int 0, .int 0])), (ca_m, .inl (cA 0, 1825, .inl cf_m))] H) (hD : va_D A [(h0, .inr (11, [.int 0, .long 0, .long 1, .ref atr, .ref atx, .ref aho, .ref ath, .ref aru, .ref ahr, .ref arr_, .ref ase, .ref ali, .ref aac, .ref aga, .int 0, .ref akh, .ref ako, .ref akr])), (aho, .inr (2, [.int 0, f1, f2, f3, f4, .int 0, f6, .int 0, .int 0, f9, f10, .int 0, f12, f13, f14, .int 8, .int 0, f17])), (h0_m, .inr (12, [.int 0, .int 0, .long 0, .long 1, m4_m, m5_m, m6_m, m7_m, .int 0, .int 0, .int (-1), .int (-1), .int 0, .int 0, .int 0, .int 0, .int 0, .int 0, .int 0, .long 0, .ref ca_m, m21_m, .int 0, m23_m, m24_m, m25_m, m26_m, .int 0, .int 0, .int 0, .int 0, .int 0, .int 0, .long 0, .long 0, m35_m, m36_m, .int 0, .int 0, .int 0, .int 0, .int 0, .int 0, .int 0, .int 0, .int 0, .int 0, .int 0, .int 0, .int 0, .int 0, m51_m, m52_m, m53_m, .int 0, .int 0, .int 0, m57_m, m58_m, .int 0, .long 0, .long 0, m62_m, .int 0, .int 0])), (ca_m, .inl (cA 0, 1825, .inl cf_m))]) (hS : va_S A s.heap H locs) (hl : lv_has ls 4 [(3, .int 0), (2, .ref h0_m), (1, .ref h0), (0, .ref b)]) : W p l e room_1 s m #[Value.ref b] below meth c H locs 166 7482 (lw_Z below #[Value.ref b] s) (F0 m 1607 ls []) := by
  refine lv_aload_n hx hb dL_law_1607 rfl (lv_at hl 2 rfl) ?_
  refine lv_aload_n hx hb dL_law_1608 rfl (lv_at hl 3 rfl) ?_
  refine lv_iload_n hx hb dL_law_1609 rfl (lv_at hl 0 rfl) ?_
  refine lv_iconst (v := 1) hx hb dL_law_1610 (by decide) ?_
  refine lv_iadd hx hb dL_law_1611 ?_
  refine z_topi (y := 1) (by decide +kernel) ?_
  refine va_sld hx hb hX hbl hbA hS (z_in (i := 1) (n := 6) (by decide +kernel) (by decide +kernel)) dL_law_1612 ?_
  refine z_topi (y := a1) ha1 ?_
  refine lv_aload_n hx hb dL_law_1613 rfl (lv_at hl 3 rfl) ?_
  refine lv_iload_n hx hb dL_law_1614 rfl (lv_at hl 0 rfl) ?_
  refine lv_iconst (v := 2) hx hb dL_law_1615 (by decide) ?_
  refine lv_iadd hx hb dL_law_1616 ?_
  refine z_topi (y := 2) (by decide +kernel) ?_
  refine va_sld hx hb hX hbl hbA hS (z_in (i := 2) (n := 6) (by decide +kernel) (by decide +kernel)) dL_law_1617 ?_
  refine z_topi (y := a2) ha2 ?_
  refine lv_if_eq (tgt := 1625) hx hb dL_law_1618 (by decide) (fun c_1 => ?_) (fun c_1 => ?_)
  · skip
    refine lv_iconst (v := 0) hx hb dL_law_1625 (by decide) ?_
    refine z_callVi (As := [.int a1, .int 0]) (rest := []) (wr := [(h0_m, .inr (12, [.int 0, .int 0, .long 0, .long 1, m4_m, m5_m, m6_m, m7_m, .int 0, .int 0, .int (-1), .int (-1), .int 0, .int 0, .int 0, .int 0, .int 0, .int 0, .int 0, .long 0, .ref ca_m, m21_m, .int 0, m23_m, m24_m, m25_m, m26_m, .int 0, .int 0, .int 0, .int 0, .int 0, .int 0, .long 0, .long 0, m35_m, m36_m, .int 0, .int 0, .int 0, .int 0, .int 0, .int 0, .int 0, .int 0, .int 0, .int 0, .int 0, .int 0, .int 0, .int 0, m51_m, m52_m, m53_m, .int 0, .int 0, .int 0, m57_m, m58_m, .int 0, .long 0, .long 0, m62_m, .int 0, .int 0])), (ca_m, .inl (cA 0, 1825, .inl cf_m))]) ⟨hx, hb, hml, hown, hts⟩ hK hE hP hD hS hA (c_DR_apart l G cA h0 atr atx aho ath aru ahr arr_ ase ali aac aga akh ako akr a1 0 f1 f2 f3 f4 f6 f9 f10 f12 f13 f14 f17) lk_RL_199 ⟨rfl, rfl⟩ ⟨Nat.le_of_ble_eq_true rfl, Nat.le_of_ble_eq_true rfl⟩ 11 rfl rfl rfl [0, 1] [2, 3] rfl rfl (by decide) rfl hl.1 rfl (lv_room (Nat.le_of_ble_eq_true rfl)) dL_law_1626 ⟨Nat.le_of_ble_eq_true rfl, Nat.le_of_ble_eq_true rfl⟩ (fun r_3 u_4 H locs hw hP hD hS => ?_)
    have hP : va_P G vwCl [(h0_m, .inr (12, [.int 0, .int 0, .long 0, .long 1, m4_m, m5_m, m6_m, m7_m, .int 0, .int 0, .int (-1), .int (-1), .int 0, .int 0, .int 0, .int 0, .int 0, .int 0, .int 0, .long 0, .ref ca_m, m21_m, .int 0, m23_m, m24_m, m25_m, m26_m, .int 0, .int 0, .int 0, .int 0, .int 0, .int 0, .long 0, .long 0, m35_m, m36_m, .int 0, .int 0, .int 0, .int 0, .int 0, .int 0, .int 0, .int 0, .int 0, .int 0, .int 0, .int 0, .int 0, .int 0, m51_m, m52_m, m53_m, .int 0, .int 0, .int 0, m57_m, m58_m, .int 0, .long 0, .long 0, m62_m, .int 0, .int 0])), (ca_m, .inl (cA 0, 1825, .inl cf_m))] H := hP
    have hD : va_D A [(h0_m, .inr (12, [.int 0, .int 0, .long 0, .long 1, m4_m, m5_m, m6_m, m7_m, .int 0, .int 0, .int (-1), .int (-1), .int 0, .int 0, .int 0, .int 0, .int 0, .int 0, .int 0, .long 0, .ref ca_m, m21_m, .int 0, m23_m, m24_m, m25_m, m26_m, .int 0, .int 0, .int 0, .int 0, .int 0, .int 0, .long 0, .long 0, m35_m, m36_m, .int 0, .int 0, .int 0, .int 0, .int 0, .int 0, .int 0, .int 0, .int 0, .int 0, .int 0, .int 0, .int 0, .int 0, m51_m, m52_m, m53_m, .int 0, .int 0, .int 0, m57_m, m58_m, .int 0, .long 0, .long 0, m62_m, .int 0, .int 0])), (ca_m, .inl (cA 0, 1825, .inl cf_m))] := hD
    obtain rfl : r_3 = (-1) := hw
    refine lv_aload_n hx hb dL_law_1629 rfl (lv_at hl 1 rfl) ?_
    refine lv_aload_n hx hb dL_law_1630 rfl (lv_at hl 3 rfl) ?_
    refine lv_iload_n hx hb dL_law_1631 rfl (lv_at hl 0 rfl) ?_
    refine lv_iconst (v := 1) hx hb dL_law_1632 (by decide) ?_
    refine lv_iadd hx hb dL_law_1633 ?_
    refine z_topi (y := 1) (by decide +kernel) ?_
    refine va_sld hx hb hX hbl hbA hS (z_in (i := 1) (n := 6) (by decide +kernel) (by decide +kernel)) dL_law_1634 ?_
    refine z_topi (y := a1) ha1 ?_
    refine lv_aload_n hx hb dL_law_1635 rfl (lv_at hl 3 rfl) ?_
    refine lv_iload_n hx hb dL_law_1636 rfl (lv_at hl 0 rfl) ?_
    refine lv_iconst (v := 2) hx hb dL_law_1637 (by decide) ?_
    refine lv_iadd hx hb dL_law_1638 ?_
    refine z_topi (y := 2) (by decide +kernel) ?_
    refine va_sld hx hb hX hbl hbA hS (z_in (i := 2) (n := 6) (by decide +kernel) (by decide +kernel)) dL_law_1639 ?_
    refine z_topi (y := a2) ha2 ?_
    refine lv_if_eq (tgt := 1647) hx hb dL_law_1640 (by decide) (fun c_5 => ?_) (fun c_5 => ?_)
    · skip
      refine lv_iconst (v := 0) hx hb dL_law_1647 (by decide) ?_
      refine z_callVi (As := [.int a1, .int 0]) (rest := [.int (-1)]) (wr := []) ⟨hx, hb, hml, hown, hts⟩ hK hE hP hD hS hA (c_M_apart l G cA h0_m a1 0 cf_m m4_m m5_m m6_m m7_m ca_m m21_m m23_m m24_m m25_m m26_m m35_m m36_m m51_m m52_m m53_m m57_m m58_m m62_m hc_m) lk_RL_202 ⟨rfl, rfl⟩ ⟨Nat.le_of_ble_eq_true rfl, Nat.le_of_ble_eq_true rfl⟩ 12 rfl rfl rfl [0, 1] [] rfl rfl (by decide) rfl hl.1 rfl (lv_room (Nat.le_of_ble_eq_true rfl)) dL_law_1648 ⟨Nat.le_of_ble_eq_true rfl, Nat.le_of_ble_eq_true rfl⟩ (fun r_7 u_8 H locs hw hP hD hS => ?_)
      have hP : va_P G vwCl [] H := hP
      have hD : va_D A [] := hD
      obtain rfl : r_7 = (-1) := hw
      refine lv_icmp_eq (tgt := 2032) hx hb dL_law_1651 (by decide) (fun _ => ?_) (fun h9 => absurd (by decide +kernel) h9)
      exact lw_exit l hx hb hr hlocks hX hbl hbA hAf (Nat.le_of_ble_eq_true rfl) (Nat.le_of_ble_eq_true rfl) hS (lv_sub hl [3, 0] rfl)
    · skip
      refine lv_iconst (v := 1) hx hb dL_law_1643 (by decide) ?_
      refine lv_goto (tgt := 1648) hx hb dL_law_1644 (by decide) ?_
      refine z_callVi (As := [.int a1, .int 1]) (rest := [.int (-1)]) (wr := []) ⟨hx, hb, hml, hown, hts⟩ hK hE hP hD hS hA (c_M_apart l G cA h0_m a1 1 cf_m m4_m m5_m m6_m m7_m ca_m m21_m m23_m m24_m m25_m m26_m m35_m m36_m m51_m m52_m m53_m m57_m m58_m m62_m hc_m) lk_RL_202 ⟨rfl, rfl⟩ ⟨Nat.le_of_ble_eq_true rfl, Nat.le_of_ble_eq_true rfl⟩ 12 rfl rfl rfl [0, 1] [] rfl rfl (by decide) rfl hl.1 rfl (lv_room (Nat.le_of_ble_eq_true rfl)) dL_law_1648 ⟨Nat.le_of_ble_eq_true rfl, Nat.le_of_ble_eq_true rfl⟩ (fun r_10 u_11 H locs hw hP hD hS => ?_)
      have hP : va_P G vwCl [] H := hP
      have hD : va_D A [] := hD
      obtain rfl : r_10 = (-1) := hw
      refine lv_icmp_eq (tgt := 2032) hx hb dL_law_1651 (by decide) (fun _ => ?_) (fun h9 => absurd (by decide +kernel) h9)
      exact lw_exit l hx hb hr hlocks hX hbl hbA hAf (Nat.le_of_ble_eq_true rfl) (Nat.le_of_ble_eq_true rfl) hS (lv_sub hl [3, 0] rfl)
  · skip
    refine lv_iconst (v := 1) hx hb dL_law_1621 (by decide) ?_
    refine lv_goto (tgt := 1626) hx hb dL_law_1622 (by decide) ?_
    refine z_callVi (As := [.int a1, .int 1]) (rest := []) (wr := [(h0_m, .inr (12, [.int 0, .int 0, .long 0, .long 1, m4_m, m5_m, m6_m, m7_m, .int 0, .int 0, .int (-1), .int (-1), .int 0, .int 0, .int 0, .int 0, .int 0, .int 0, .int 0, .long 0, .ref ca_m, m21_m, .int 0, m23_m, m24_m, m25_m, m26_m, .int 0, .int 0, .int 0, .int 0, .int 0, .int 0, .long 0, .long 0, m35_m, m36_m, .int 0, .int 0, .int 0, .int 0, .int 0, .int 0, .int 0, .int 0, .int 0, .int 0, .int 0, .int 0, .int 0, .int 0, m51_m, m52_m, m53_m, .int 0, .int 0, .int 0, m57_m, m58_m, .int 0, .long 0, .long 0, m62_m, .int 0, .int 0])), (ca_m, .inl (cA 0, 1825, .inl cf_m))]) ⟨hx, hb, hml, hown, hts⟩ hK hE hP hD hS hA (c_DR_apart l G cA h0 atr atx aho ath aru ahr arr_ ase ali aac aga akh ako akr a1 1 f1 f2 f3 f4 f6 f9 f10 f12 f13 f14 f17) lk_RL_199 ⟨rfl, rfl⟩ ⟨Nat.le_of_ble_eq_true rfl, Nat.le_of_ble_eq_true rfl⟩ 11 rfl rfl rfl [0, 1] [2, 3] rfl rfl (by decide) rfl hl.1 rfl (lv_room (Nat.le_of_ble_eq_true rfl)) dL_law_1626 ⟨Nat.le_of_ble_eq_true rfl, Nat.le_of_ble_eq_true rfl⟩ (fun r_13 u_14 H locs hw hP hD hS => ?_)
    have hP : va_P G vwCl [(h0_m, .inr (12, [.int 0, .int 0, .long 0, .long 1, m4_m, m5_m, m6_m, m7_m, .int 0, .int 0, .int (-1), .int (-1), .int 0, .int 0, .int 0, .int 0, .int 0, .int 0, .int 0, .long 0, .ref ca_m, m21_m, .int 0, m23_m, m24_m, m25_m, m26_m, .int 0, .int 0, .int 0, .int 0, .int 0, .int 0, .long 0, .long 0, m35_m, m36_m, .int 0, .int 0, .int 0, .int 0, .int 0, .int 0, .int 0, .int 0, .int 0, .int 0, .int 0, .int 0, .int 0, .int 0, m51_m, m52_m, m53_m, .int 0, .int 0, .int 0, m57_m, m58_m, .int 0, .long 0, .long 0, m62_m, .int 0, .int 0])), (ca_m, .inl (cA 0, 1825, .inl cf_m))] H := hP
    have hD : va_D A [(h0_m, .inr (12, [.int 0, .int 0, .long 0, .long 1, m4_m, m5_m, m6_m, m7_m, .int 0, .int 0, .int (-1), .int (-1), .int 0, .int 0, .int 0, .int 0, .int 0, .int 0, .int 0, .long 0, .ref ca_m, m21_m, .int 0, m23_m, m24_m, m25_m, m26_m, .int 0, .int 0, .int 0, .int 0, .int 0, .int 0, .long 0, .long 0, m35_m, m36_m, .int 0, .int 0, .int 0, .int 0, .int 0, .int 0, .int 0, .int 0, .int 0, .int 0, .int 0, .int 0, .int 0, .int 0, m51_m, m52_m, m53_m, .int 0, .int 0, .int 0, m57_m, m58_m, .int 0, .long 0, .long 0, m62_m, .int 0, .int 0])), (ca_m, .inl (cA 0, 1825, .inl cf_m))] := hD
    obtain rfl : r_13 = (-1) := hw
    refine lv_aload_n hx hb dL_law_1629 rfl (lv_at hl 1 rfl) ?_
    refine lv_aload_n hx hb dL_law_1630 rfl (lv_at hl 3 rfl) ?_
    refine lv_iload_n hx hb dL_law_1631 rfl (lv_at hl 0 rfl) ?_
    refine lv_iconst (v := 1) hx hb dL_law_1632 (by decide) ?_
    refine lv_iadd hx hb dL_law_1633 ?_
    refine z_topi (y := 1) (by decide +kernel) ?_
    refine va_sld hx hb hX hbl hbA hS (z_in (i := 1) (n := 6) (by decide +kernel) (by decide +kernel)) dL_law_1634 ?_
    refine z_topi (y := a1) ha1 ?_
    refine lv_aload_n hx hb dL_law_1635 rfl (lv_at hl 3 rfl) ?_
    refine lv_iload_n hx hb dL_law_1636 rfl (lv_at hl 0 rfl) ?_
    refine lv_iconst (v := 2) hx hb dL_law_1637 (by decide) ?_
    refine lv_iadd hx hb dL_law_1638 ?_
    refine z_topi (y := 2) (by decide +kernel) ?_
    refine va_sld hx hb hX hbl hbA hS (z_in (i := 2) (n := 6) (by decide +kernel) (by decide +kernel)) dL_law_1639 ?_
    refine z_topi (y := a2) ha2 ?_
    refine lv_if_eq (tgt := 1647) hx hb dL_law_1640 (by decide) (fun c_15 => ?_) (fun c_15 => ?_)
    · skip
      refine lv_iconst (v := 0) hx hb dL_law_1647 (by decide) ?_
      refine z_callVi (As := [.int a1, .int 0]) (rest := [.int (-1)]) (wr := []) ⟨hx, hb, hml, hown, hts⟩ hK hE hP hD hS hA (c_M_apart l G cA h0_m a1 0 cf_m m4_m m5_m m6_m m7_m ca_m m21_m m23_m m24_m m25_m m26_m m35_m m36_m m51_m m52_m m53_m m57_m m58_m m62_m hc_m) lk_RL_202 ⟨rfl, rfl⟩ ⟨Nat.le_of_ble_eq_true rfl, Nat.le_of_ble_eq_true rfl⟩ 12 rfl rfl rfl [0, 1] [] rfl rfl (by decide) rfl hl.1 rfl (lv_room (Nat.le_of_ble_eq_true rfl)) dL_law_1648 ⟨Nat.le_of_ble_eq_true rfl, Nat.le_of_ble_eq_true rfl⟩ (fun r_17 u_18 H locs hw hP hD hS => ?_)
      have hP : va_P G vwCl [] H := hP
      have hD : va_D A [] := hD
      obtain rfl : r_17 = (-1) := hw
      refine lv_icmp_eq (tgt := 2032) hx hb dL_law_1651 (by decide) (fun _ => ?_) (fun h9 => absurd (by decide +kernel) h9)
      exact lw_exit l hx hb hr hlocks hX hbl hbA hAf (Nat.le_of_ble_eq_true rfl) (Nat.le_of_ble_eq_true rfl) hS (lv_sub hl [3, 0] rfl)
    · skip
      refine lv_iconst (v := 1) hx hb dL_law_1643 (by decide) ?_
      refine lv_goto (tgt := 1648) hx hb dL_law_1644 (by decide) ?_
      refine z_callVi (As := [.int a1, .int 1]) (rest := [.int (-1)]) (wr := []) ⟨hx, hb, hml, hown, hts⟩ hK hE hP hD hS hA (c_M_apart l G cA h0_m a1 1 cf_m m4_m m5_m m6_m m7_m ca_m m21_m m23_m m24_m m25_m m26_m m35_m m36_m m51_m m52_m m53_m m57_m m58_m m62_m hc_m) lk_RL_202 ⟨rfl, rfl⟩ ⟨Nat.le_of_ble_eq_true rfl, Nat.le_of_ble_eq_true rfl⟩ 12 rfl rfl rfl [0, 1] [] rfl rfl (by decide) rfl hl.1 rfl (lv_room (Nat.le_of_ble_eq_true rfl)) dL_law_1648 ⟨Nat.le_of_ble_eq_true rfl, Nat.le_of_ble_eq_true rfl⟩ (fun r_20 u_21 H locs hw hP hD hS => ?_)
      have hP : va_P G vwCl [] H := hP
      have hD : va_D A [] := hD
      obtain rfl : r_20 = (-1) := hw
      refine lv_icmp_eq (tgt := 2032) hx hb dL_law_1651 (by decide) (fun _ => ?_) (fun h9 => absurd (by decide +kernel) h9)
      exact lw_exit l hx hb hr hlocks hX hbl hbA hAf (Nat.le_of_ble_eq_true rfl) (Nat.le_of_ble_eq_true rfl) hS (lv_sub hl [3, 0] rfl)
set_option maxHeartbeats 4000000 in
set_option maxRecDepth 100000 in
theorem lw_case_43 {p : Program} {e : Env} {s : State} {m : MethodId} {below : List Frame} {meth : Method} {c : Code} (l : Launch) (G : va_G) (cA : Nat → ClassId) {b : Nat} {xs : Nat → Int32} {A : Nat → Prop} (h0 : Nat) (atr : Nat) (atx : Nat) (aho : Nat) (ath : Nat) (aru : Nat) (ahr : Nat) (arr_ : Nat) (ase : Nat) (ali : Nat) (aac : Nat) (aga : Nat) (akh : Nat) (ako : Nat) (akr : Nat) (f1 : Value) (f2 : Value) (f3 : Value) (f4 : Value) (f6 : Value) (f9 : Value) (f10 : Value) (f12 : Value) (f13 : Value) (f14 : Value) (f17 : Value) (h0_m : Nat) (cf_m : Nat → Int32) (m4_m : Value) (m5_m : Value) (m6_m : Value) (m7_m : Value) (ca_m : Nat) (m21_m : Value) (m23_m : Value) (m24_m : Value) (m25_m : Value) (m26_m : Value) (m35_m : Value) (m36_m : Value) (m51_m : Value) (m52_m : Value) (m53_m : Value) (m57_m : Value) (m58_m : Value) (m62_m : Value) (a1 : Int32) (a2 : Int32) (a3 : Int32) (a4 : Int32) (a5 : Int32) (ha1 : xs (1 : Int32).toNatClampNeg = a1) (ha2 : xs (2 : Int32).toNatClampNeg = a2) (ha3 : xs (3 : Int32).toNatClampNeg = a3) (ha4 : xs (4 : Int32).toNatClampNeg = a4) (ha5 : xs (5 : Int32).toNatClampNeg = a5) (hc_m : zFr cf_m) {H : Heap} {locs : List Loc} {ls : Array Slot} (hx : p.tables.exec = Jvm.exec) (hb : c.code = code) (hr : meth.sig.returnType = ret) (hml : c.maxLocals = 4) (hown : s.vm.findClass RL = some m.cls) (hts : ∀ w ∈ TB, w.before #[Value.ref b] s = true) (hlocks : meth.locks = false) (hX : va_X b 6 xs s s.heap) (hbl : b < s.heap.size) (hbA : ¬ A b) (hA : ∀ q, s.heap.size ≤ q → A q) (hAf : ∀ q, A q → s.heap.size ≤ q) (hK : va_K G vwCl (zTY cA) s) (hE : zEX s) (hP : va_P G vwCl [(h0, .inr (11, [.int 0, .long 0, .long 1, .ref atr, .ref atx, .ref aho, .ref ath, .ref aru, .ref ahr, .ref arr_, .ref ase, .ref ali, .ref aac, .ref aga, .int 0, .ref akh, .ref ako, .ref akr])), (aho, .inr (2, [.int 0, f1, f2, f3, f4, .int 0, f6, .int 0, .int 0, f9, f10, .int 0, f12, f13, f14, .int 8, .int 0, f17])), (h0_m, .inr (12, [.int 0, .int 0, .long 0, .long 1, m4_m, m5_m, m6_m, m7_m, .int 0, .int 0, .int (-1), .int (-1), .int 0, .int 0, .int 0, .int 0, .int 0, .int 0, .int 0, .long 0, .ref ca_m, m21_m, .int 0, m23_m, m24_m, m25_m, m26_m, .int 0, .int 0, .int 0, .int 0, .int 0, .int 0, .long 0, .long 0, m35_m, m36_m, .int 0, .int 0, .int 0, .int 0, .int 0, .int 0, .int 0, .int 0, .int 0, .int 0, .int 0, .int 0, .int 0, .int 0, m51_m, m52_m, m53_m, .int 0, .int 0, .int 0, m57_m, m58_m, .int 0, .long 0, .long 0, m62_m, .int 0, .int 0])), (ca_m, .inl (cA 0, 1825, .inl cf_m))] H) (hD : va_D A [(h0, .inr (11, [.int 0, .long 0, .long 1, .ref atr, .ref atx, .ref aho, .ref ath, .ref aru, .ref ahr, .ref arr_, .ref ase, .ref ali, .ref aac, .ref aga, .int 0, .ref akh, .ref ako, .ref akr])), (aho, .inr (2, [.int 0, f1, f2, f3, f4, .int 0, f6, .int 0, .int 0, f9, f10, .int 0, f12, f13, f14, .int 8, .int 0, f17])), (h0_m, .inr (12, [.int 0, .int 0, .long 0, .long 1, m4_m, m5_m, m6_m, m7_m, .int 0, .int 0, .int (-1), .int (-1), .int 0, .int 0, .int 0, .int 0, .int 0, .int 0, .int 0, .long 0, .ref ca_m, m21_m, .int 0, m23_m, m24_m, m25_m, m26_m, .int 0, .int 0, .int 0, .int 0, .int 0, .int 0, .long 0, .long 0, m35_m, m36_m, .int 0, .int 0, .int 0, .int 0, .int 0, .int 0, .int 0, .int 0, .int 0, .int 0, .int 0, .int 0, .int 0, .int 0, m51_m, m52_m, m53_m, .int 0, .int 0, .int 0, m57_m, m58_m, .int 0, .long 0, .long 0, m62_m, .int 0, .int 0])), (ca_m, .inl (cA 0, 1825, .inl cf_m))]) (hS : va_S A s.heap H locs) (hl : lv_has ls 4 [(3, .int 0), (2, .ref h0_m), (1, .ref h0), (0, .ref b)]) : W p l e room_1 s m #[Value.ref b] below meth c H locs 166 7482 (lw_Z below #[Value.ref b] s) (F0 m 1656 ls []) := by
  refine lv_aload_n hx hb dL_law_1656 rfl (lv_at hl 2 rfl) ?_
  refine lv_aload_n hx hb dL_law_1657 rfl (lv_at hl 3 rfl) ?_
  refine lv_iload_n hx hb dL_law_1658 rfl (lv_at hl 0 rfl) ?_
  refine lv_iconst (v := 1) hx hb dL_law_1659 (by decide) ?_
  refine lv_iadd hx hb dL_law_1660 ?_
  refine z_topi (y := 1) (by decide +kernel) ?_
  refine va_sld hx hb hX hbl hbA hS (z_in (i := 1) (n := 6) (by decide +kernel) (by decide +kernel)) dL_law_1661 ?_
  refine z_topi (y := a1) ha1 ?_
  refine lv_aload_n hx hb dL_law_1662 rfl (lv_at hl 3 rfl) ?_
  refine lv_iload_n hx hb dL_law_1663 rfl (lv_at hl 0 rfl) ?_
  refine lv_iconst (v := 2) hx hb dL_law_1664 (by decide) ?_
  refine lv_iadd hx hb dL_law_1665 ?_
  refine z_topi (y := 2) (by decide +kernel) ?_
  refine va_sld hx hb hX hbl hbA hS (z_in (i := 2) (n := 6) (by decide +kernel) (by decide +kernel)) dL_law_1666 ?_
  refine z_topi (y := a2) ha2 ?_
  refine z_callVi (As := [.int a1, .int a2]) (rest := []) (wr := [(h0_m, .inr (12, [.int 0, .int 0, .long 0, .long 1, m4_m, m5_m, m6_m, m7_m, .int 0, .int 0, .int (-1), .int (-1), .int 0, .int 0, .int 0, .int 0, .int 0, .int 0, .int 0, .long 0, .ref ca_m, m21_m, .int 0, m23_m, m24_m, m25_m, m26_m, .int 0, .int 0, .int 0, .int 0, .int 0, .int 0, .long 0, .long 0, m35_m, m36_m, .int 0, .int 0, .int 0, .int 0, .int 0, .int 0, .int 0, .int 0, .int 0, .int 0, .int 0, .int 0, .int 0, .int 0, m51_m, m52_m, m53_m, .int 0, .int 0, .int 0, m57_m, m58_m, .int 0, .long 0, .long 0, m62_m, .int 0, .int 0])), (ca_m, .inl (cA 0, 1825, .inl cf_m))]) ⟨hx, hb, hml, hown, hts⟩ hK hE hP hD hS hA (c_DR_filed l G cA h0 atr atx aho ath aru ahr arr_ ase ali aac aga akh ako akr a1 a2 f1 f2 f3 f4 f6 f9 f10 f12 f13 f14 f17) lk_RL_203 ⟨rfl, rfl⟩ ⟨Nat.le_of_ble_eq_true rfl, Nat.le_of_ble_eq_true rfl⟩ 11 rfl rfl rfl [0, 1] [2, 3] rfl rfl (by decide) rfl hl.1 rfl (lv_room (Nat.le_of_ble_eq_true rfl)) dL_law_1667 ⟨Nat.le_of_ble_eq_true rfl, Nat.le_of_ble_eq_true rfl⟩ (fun r_1 u_2 H locs hw hP hD hS => ?_)
  have hP : va_P G vwCl [(h0_m, .inr (12, [.int 0, .int 0, .long 0, .long 1, m4_m, m5_m, m6_m, m7_m, .int 0, .int 0, .int (-1), .int (-1), .int 0, .int 0, .int 0, .int 0, .int 0, .int 0, .int 0, .long 0, .ref ca_m, m21_m, .int 0, m23_m, m24_m, m25_m, m26_m, .int 0, .int 0, .int 0, .int 0, .int 0, .int 0, .long 0, .long 0, m35_m, m36_m, .int 0, .int 0, .int 0, .int 0, .int 0, .int 0, .int 0, .int 0, .int 0, .int 0, .int 0, .int 0, .int 0, .int 0, m51_m, m52_m, m53_m, .int 0, .int 0, .int 0, m57_m, m58_m, .int 0, .long 0, .long 0, m62_m, .int 0, .int 0])), (ca_m, .inl (cA 0, 1825, .inl cf_m))] H := hP
  have hD : va_D A [(h0_m, .inr (12, [.int 0, .int 0, .long 0, .long 1, m4_m, m5_m, m6_m, m7_m, .int 0, .int 0, .int (-1), .int (-1), .int 0, .int 0, .int 0, .int 0, .int 0, .int 0, .int 0, .long 0, .ref ca_m, m21_m, .int 0, m23_m, m24_m, m25_m, m26_m, .int 0, .int 0, .int 0, .int 0, .int 0, .int 0, .long 0, .long 0, m35_m, m36_m, .int 0, .int 0, .int 0, .int 0, .int 0, .int 0, .int 0, .int 0, .int 0, .int 0, .int 0, .int 0, .int 0, .int 0, m51_m, m52_m, m53_m, .int 0, .int 0, .int 0, m57_m, m58_m, .int 0, .long 0, .long 0, m62_m, .int 0, .int 0])), (ca_m, .inl (cA 0, 1825, .inl cf_m))] := hD
  obtain rfl : r_1 = (-1) := hw
  refine lv_aload_n hx hb dL_law_1670 rfl (lv_at hl 1 rfl) ?_
  refine lv_aload_n hx hb dL_law_1671 rfl (lv_at hl 3 rfl) ?_
  refine lv_iload_n hx hb dL_law_1672 rfl (lv_at hl 0 rfl) ?_
  refine lv_iconst (v := 1) hx hb dL_law_1673 (by decide) ?_
  refine lv_iadd hx hb dL_law_1674 ?_
  refine z_topi (y := 1) (by decide +kernel) ?_
  refine va_sld hx hb hX hbl hbA hS (z_in (i := 1) (n := 6) (by decide +kernel) (by decide +kernel)) dL_law_1675 ?_
  refine z_topi (y := a1) ha1 ?_
  refine lv_aload_n hx hb dL_law_1676 rfl (lv_at hl 3 rfl) ?_
  refine lv_iload_n hx hb dL_law_1677 rfl (lv_at hl 0 rfl) ?_
  refine lv_iconst (v := 2) hx hb dL_law_1678 (by decide) ?_
  refine lv_iadd hx hb dL_law_1679 ?_
  refine z_topi (y := 2) (by decide +kernel) ?_
  refine va_sld hx hb hX hbl hbA hS (z_in (i := 2) (n := 6) (by decide +kernel) (by decide +kernel)) dL_law_1680 ?_
  refine z_topi (y := a2) ha2 ?_
  refine z_callVi (As := [.int a1, .int a2]) (rest := [.int (-1)]) (wr := []) ⟨hx, hb, hml, hown, hts⟩ hK hE hP hD hS hA (c_M_filed l G cA h0_m a1 a2 cf_m m4_m m5_m m6_m m7_m ca_m m21_m m23_m m24_m m25_m m26_m m35_m m36_m m51_m m52_m m53_m m57_m m58_m m62_m hc_m) lk_RL_206 ⟨rfl, rfl⟩ ⟨Nat.le_of_ble_eq_true rfl, Nat.le_of_ble_eq_true rfl⟩ 12 rfl rfl rfl [0, 1] [] rfl rfl (by decide) rfl hl.1 rfl (lv_room (Nat.le_of_ble_eq_true rfl)) dL_law_1681 ⟨Nat.le_of_ble_eq_true rfl, Nat.le_of_ble_eq_true rfl⟩ (fun r_3 u_4 H locs hw hP hD hS => ?_)
  have hP : va_P G vwCl [] H := hP
  have hD : va_D A [] := hD
  obtain rfl : r_3 = (-1) := hw
  refine lv_icmp_eq (tgt := 2032) hx hb dL_law_1684 (by decide) (fun _ => ?_) (fun h9 => absurd (by decide +kernel) h9)
  exact lw_exit l hx hb hr hlocks hX hbl hbA hAf (Nat.le_of_ble_eq_true rfl) (Nat.le_of_ble_eq_true rfl) hS (lv_sub hl [3, 0] rfl)
set_option maxHeartbeats 4000000 in
set_option maxRecDepth 100000 in
theorem lw_case_44 {p : Program} {e : Env} {s : State} {m : MethodId} {below : List Frame} {meth : Method} {c : Code} (l : Launch) (G : va_G) (cA : Nat → ClassId) {b : Nat} {xs : Nat → Int32} {A : Nat → Prop} (h0 : Nat) (atr : Nat) (atx : Nat) (aho : Nat) (ath : Nat) (aru : Nat) (ahr : Nat) (arr_ : Nat) (ase : Nat) (ali : Nat) (aac : Nat) (aga : Nat) (akh : Nat) (ako : Nat) (akr : Nat) (f1 : Value) (f2 : Value) (f3 : Value) (f4 : Value) (f6 : Value) (f9 : Value) (f10 : Value) (f12 : Value) (f13 : Value) (f14 : Value) (f17 : Value) (h0_m : Nat) (cf_m : Nat → Int32) (m4_m : Value) (m5_m : Value) (m6_m : Value) (m7_m : Value) (ca_m : Nat) (m21_m : Value) (m23_m : Value) (m24_m : Value) (m25_m : Value) (m26_m : Value) (m35_m : Value) (m36_m : Value) (m51_m : Value) (m52_m : Value) (m53_m : Value) (m57_m : Value) (m58_m : Value) (m62_m : Value) (a1 : Int32) (a2 : Int32) (a3 : Int32) (a4 : Int32) (a5 : Int32) (ha1 : xs (1 : Int32).toNatClampNeg = a1) (ha2 : xs (2 : Int32).toNatClampNeg = a2) (ha3 : xs (3 : Int32).toNatClampNeg = a3) (ha4 : xs (4 : Int32).toNatClampNeg = a4) (ha5 : xs (5 : Int32).toNatClampNeg = a5) (hc_m : zFr cf_m) {H : Heap} {locs : List Loc} {ls : Array Slot} (hx : p.tables.exec = Jvm.exec) (hb : c.code = code) (hr : meth.sig.returnType = ret) (hml : c.maxLocals = 4) (hown : s.vm.findClass RL = some m.cls) (hts : ∀ w ∈ TB, w.before #[Value.ref b] s = true) (hlocks : meth.locks = false) (hX : va_X b 6 xs s s.heap) (hbl : b < s.heap.size) (hbA : ¬ A b) (hA : ∀ q, s.heap.size ≤ q → A q) (hAf : ∀ q, A q → s.heap.size ≤ q) (hK : va_K G vwCl (zTY cA) s) (hE : zEX s) (hP : va_P G vwCl [(h0, .inr (11, [.int 0, .long 0, .long 1, .ref atr, .ref atx, .ref aho, .ref ath, .ref aru, .ref ahr, .ref arr_, .ref ase, .ref ali, .ref aac, .ref aga, .int 0, .ref akh, .ref ako, .ref akr])), (aho, .inr (2, [.int 0, f1, f2, f3, f4, .int 0, f6, .int 0, .int 0, f9, f10, .int 0, f12, f13, f14, .int 8, .int 0, f17])), (h0_m, .inr (12, [.int 0, .int 0, .long 0, .long 1, m4_m, m5_m, m6_m, m7_m, .int 0, .int 0, .int (-1), .int (-1), .int 0, .int 0, .int 0, .int 0, .int 0, .int 0, .int 0, .long 0, .ref ca_m, m21_m, .int 0, m23_m, m24_m, m25_m, m26_m, .int 0, .int 0, .int 0, .int 0, .int 0, .int 0, .long 0, .long 0, m35_m, m36_m, .int 0, .int 0, .int 0, .int 0, .int 0, .int 0, .int 0, .int 0, .int 0, .int 0, .int 0, .int 0, .int 0, .int 0, m51_m, m52_m, m53_m, .int 0, .int 0, .int 0, m57_m, m58_m, .int 0, .long 0, .long 0, m62_m, .int 0, .int 0])), (ca_m, .inl (cA 0, 1825, .inl cf_m))] H) (hD : va_D A [(h0, .inr (11, [.int 0, .long 0, .long 1, .ref atr, .ref atx, .ref aho, .ref ath, .ref aru, .ref ahr, .ref arr_, .ref ase, .ref ali, .ref aac, .ref aga, .int 0, .ref akh, .ref ako, .ref akr])), (aho, .inr (2, [.int 0, f1, f2, f3, f4, .int 0, f6, .int 0, .int 0, f9, f10, .int 0, f12, f13, f14, .int 8, .int 0, f17])), (h0_m, .inr (12, [.int 0, .int 0, .long 0, .long 1, m4_m, m5_m, m6_m, m7_m, .int 0, .int 0, .int (-1), .int (-1), .int 0, .int 0, .int 0, .int 0, .int 0, .int 0, .int 0, .long 0, .ref ca_m, m21_m, .int 0, m23_m, m24_m, m25_m, m26_m, .int 0, .int 0, .int 0, .int 0, .int 0, .int 0, .long 0, .long 0, m35_m, m36_m, .int 0, .int 0, .int 0, .int 0, .int 0, .int 0, .int 0, .int 0, .int 0, .int 0, .int 0, .int 0, .int 0, .int 0, m51_m, m52_m, m53_m, .int 0, .int 0, .int 0, m57_m, m58_m, .int 0, .long 0, .long 0, m62_m, .int 0, .int 0])), (ca_m, .inl (cA 0, 1825, .inl cf_m))]) (hS : va_S A s.heap H locs) (hl : lv_has ls 4 [(3, .int 0), (2, .ref h0_m), (1, .ref h0), (0, .ref b)]) : W p l e room_1 s m #[Value.ref b] below meth c H locs 166 7482 (lw_Z below #[Value.ref b] s) (F0 m 1689 ls []) := by
  refine lv_aload_n hx hb dL_law_1689 rfl (lv_at hl 2 rfl) ?_
  refine lv_aload_n hx hb dL_law_1690 rfl (lv_at hl 3 rfl) ?_
  refine lv_iload_n hx hb dL_law_1691 rfl (lv_at hl 0 rfl) ?_
  refine lv_iconst (v := 1) hx hb dL_law_1692 (by decide) ?_
  refine lv_iadd hx hb dL_law_1693 ?_
  refine z_topi (y := 1) (by decide +kernel) ?_
  refine va_sld hx hb hX hbl hbA hS (z_in (i := 1) (n := 6) (by decide +kernel) (by decide +kernel)) dL_law_1694 ?_
  refine z_topi (y := a1) ha1 ?_
  refine lv_aload_n hx hb dL_law_1695 rfl (lv_at hl 3 rfl) ?_
  refine lv_iload_n hx hb dL_law_1696 rfl (lv_at hl 0 rfl) ?_
  refine lv_iconst (v := 2) hx hb dL_law_1697 (by decide) ?_
  refine lv_iadd hx hb dL_law_1698 ?_
  refine z_topi (y := 2) (by decide +kernel) ?_
  refine va_sld hx hb hX hbl hbA hS (z_in (i := 2) (n := 6) (by decide +kernel) (by decide +kernel)) dL_law_1699 ?_
  refine z_topi (y := a2) ha2 ?_
  refine lv_if_eq (tgt := 1707) hx hb dL_law_1700 (by decide) (fun c_1 => ?_) (fun c_1 => ?_)
  · skip
    refine lv_iconst (v := 0) hx hb dL_law_1707 (by decide) ?_
    refine z_callVi (As := [.int a1, .int 0]) (rest := []) (wr := [(h0_m, .inr (12, [.int 0, .int 0, .long 0, .long 1, m4_m, m5_m, m6_m, m7_m, .int 0, .int 0, .int (-1), .int (-1), .int 0, .int 0, .int 0, .int 0, .int 0, .int 0, .int 0, .long 0, .ref ca_m, m21_m, .int 0, m23_m, m24_m, m25_m, m26_m, .int 0, .int 0, .int 0, .int 0, .int 0, .int 0, .long 0, .long 0, m35_m, m36_m, .int 0, .int 0, .int 0, .int 0, .int 0, .int 0, .int 0, .int 0, .int 0, .int 0, .int 0, .int 0, .int 0, .int 0, m51_m, m52_m, m53_m, .int 0, .int 0, .int 0, m57_m, m58_m, .int 0, .long 0, .long 0, m62_m, .int 0, .int 0])), (ca_m, .inl (cA 0, 1825, .inl cf_m))]) ⟨hx, hb, hml, hown, hts⟩ hK hE hP hD hS hA (c_DR_known l G cA h0 atr atx aho ath aru ahr arr_ ase ali aac aga akh ako akr a1 0 f1 f2 f3 f4 f6 f9 f10 f12 f13 f14 f17) lk_RL_207 ⟨rfl, rfl⟩ ⟨Nat.le_of_ble_eq_true rfl, Nat.le_of_ble_eq_true rfl⟩ 11 rfl rfl rfl [0, 1] [2, 3] rfl rfl (by decide) rfl hl.1 rfl (lv_room (Nat.le_of_ble_eq_true rfl)) dL_law_1708 ⟨Nat.le_of_ble_eq_true rfl, Nat.le_of_ble_eq_true rfl⟩ (fun r_3 u_4 H locs hw hP hD hS => ?_)
    have hP : va_P G vwCl [(h0_m, .inr (12, [.int 0, .int 0, .long 0, .long 1, m4_m, m5_m, m6_m, m7_m, .int 0, .int 0, .int (-1), .int (-1), .int 0, .int 0, .int 0, .int 0, .int 0, .int 0, .int 0, .long 0, .ref ca_m, m21_m, .int 0, m23_m, m24_m, m25_m, m26_m, .int 0, .int 0, .int 0, .int 0, .int 0, .int 0, .long 0, .long 0, m35_m, m36_m, .int 0, .int 0, .int 0, .int 0, .int 0, .int 0, .int 0, .int 0, .int 0, .int 0, .int 0, .int 0, .int 0, .int 0, m51_m, m52_m, m53_m, .int 0, .int 0, .int 0, m57_m, m58_m, .int 0, .long 0, .long 0, m62_m, .int 0, .int 0])), (ca_m, .inl (cA 0, 1825, .inl cf_m))] H := hP
    have hD : va_D A [(h0_m, .inr (12, [.int 0, .int 0, .long 0, .long 1, m4_m, m5_m, m6_m, m7_m, .int 0, .int 0, .int (-1), .int (-1), .int 0, .int 0, .int 0, .int 0, .int 0, .int 0, .int 0, .long 0, .ref ca_m, m21_m, .int 0, m23_m, m24_m, m25_m, m26_m, .int 0, .int 0, .int 0, .int 0, .int 0, .int 0, .long 0, .long 0, m35_m, m36_m, .int 0, .int 0, .int 0, .int 0, .int 0, .int 0, .int 0, .int 0, .int 0, .int 0, .int 0, .int 0, .int 0, .int 0, m51_m, m52_m, m53_m, .int 0, .int 0, .int 0, m57_m, m58_m, .int 0, .long 0, .long 0, m62_m, .int 0, .int 0])), (ca_m, .inl (cA 0, 1825, .inl cf_m))] := hD
    obtain rfl : r_3 = (-1) := hw
    refine lv_aload_n hx hb dL_law_1711 rfl (lv_at hl 1 rfl) ?_
    refine lv_aload_n hx hb dL_law_1712 rfl (lv_at hl 3 rfl) ?_
    refine lv_iload_n hx hb dL_law_1713 rfl (lv_at hl 0 rfl) ?_
    refine lv_iconst (v := 1) hx hb dL_law_1714 (by decide) ?_
    refine lv_iadd hx hb dL_law_1715 ?_
    refine z_topi (y := 1) (by decide +kernel) ?_
    refine va_sld hx hb hX hbl hbA hS (z_in (i := 1) (n := 6) (by decide +kernel) (by decide +kernel)) dL_law_1716 ?_
    refine z_topi (y := a1) ha1 ?_
    refine lv_aload_n hx hb dL_law_1717 rfl (lv_at hl 3 rfl) ?_
    refine lv_iload_n hx hb dL_law_1718 rfl (lv_at hl 0 rfl) ?_
    refine lv_iconst (v := 2) hx hb dL_law_1719 (by decide) ?_
    refine lv_iadd hx hb dL_law_1720 ?_
    refine z_topi (y := 2) (by decide +kernel) ?_
    refine va_sld hx hb hX hbl hbA hS (z_in (i := 2) (n := 6) (by decide +kernel) (by decide +kernel)) dL_law_1721 ?_
    refine z_topi (y := a2) ha2 ?_
    refine lv_if_eq (tgt := 1729) hx hb dL_law_1722 (by decide) (fun c_5 => ?_) (fun c_5 => ?_)
    · skip
      refine lv_iconst (v := 0) hx hb dL_law_1729 (by decide) ?_
      refine z_callVi (As := [.int a1, .int 0]) (rest := [.int (-1)]) (wr := []) ⟨hx, hb, hml, hown, hts⟩ hK hE hP hD hS hA (c_M_known l G cA h0_m a1 0 cf_m m4_m m5_m m6_m m7_m ca_m m21_m m23_m m24_m m25_m m26_m m35_m m36_m m51_m m52_m m53_m m57_m m58_m m62_m hc_m) lk_RL_210 ⟨rfl, rfl⟩ ⟨Nat.le_of_ble_eq_true rfl, Nat.le_of_ble_eq_true rfl⟩ 12 rfl rfl rfl [0, 1] [] rfl rfl (by decide) rfl hl.1 rfl (lv_room (Nat.le_of_ble_eq_true rfl)) dL_law_1730 ⟨Nat.le_of_ble_eq_true rfl, Nat.le_of_ble_eq_true rfl⟩ (fun r_7 u_8 H locs hw hP hD hS => ?_)
      have hP : va_P G vwCl [] H := hP
      have hD : va_D A [] := hD
      obtain rfl : r_7 = (-1) := hw
      refine lv_icmp_eq (tgt := 2032) hx hb dL_law_1733 (by decide) (fun _ => ?_) (fun h9 => absurd (by decide +kernel) h9)
      exact lw_exit l hx hb hr hlocks hX hbl hbA hAf (Nat.le_of_ble_eq_true rfl) (Nat.le_of_ble_eq_true rfl) hS (lv_sub hl [3, 0] rfl)
    · skip
      refine lv_iconst (v := 1) hx hb dL_law_1725 (by decide) ?_
      refine lv_goto (tgt := 1730) hx hb dL_law_1726 (by decide) ?_
      refine z_callVi (As := [.int a1, .int 1]) (rest := [.int (-1)]) (wr := []) ⟨hx, hb, hml, hown, hts⟩ hK hE hP hD hS hA (c_M_known l G cA h0_m a1 1 cf_m m4_m m5_m m6_m m7_m ca_m m21_m m23_m m24_m m25_m m26_m m35_m m36_m m51_m m52_m m53_m m57_m m58_m m62_m hc_m) lk_RL_210 ⟨rfl, rfl⟩ ⟨Nat.le_of_ble_eq_true rfl, Nat.le_of_ble_eq_true rfl⟩ 12 rfl rfl rfl [0, 1] [] rfl rfl (by decide) rfl hl.1 rfl (lv_room (Nat.le_of_ble_eq_true rfl)) dL_law_1730 ⟨Nat.le_of_ble_eq_true rfl, Nat.le_of_ble_eq_true rfl⟩ (fun r_10 u_11 H locs hw hP hD hS => ?_)
      have hP : va_P G vwCl [] H := hP
      have hD : va_D A [] := hD
      obtain rfl : r_10 = (-1) := hw
      refine lv_icmp_eq (tgt := 2032) hx hb dL_law_1733 (by decide) (fun _ => ?_) (fun h9 => absurd (by decide +kernel) h9)
      exact lw_exit l hx hb hr hlocks hX hbl hbA hAf (Nat.le_of_ble_eq_true rfl) (Nat.le_of_ble_eq_true rfl) hS (lv_sub hl [3, 0] rfl)
  · skip
    refine lv_iconst (v := 1) hx hb dL_law_1703 (by decide) ?_
    refine lv_goto (tgt := 1708) hx hb dL_law_1704 (by decide) ?_
    refine z_callVi (As := [.int a1, .int 1]) (rest := []) (wr := [(h0_m, .inr (12, [.int 0, .int 0, .long 0, .long 1, m4_m, m5_m, m6_m, m7_m, .int 0, .int 0, .int (-1), .int (-1), .int 0, .int 0, .int 0, .int 0, .int 0, .int 0, .int 0, .long 0, .ref ca_m, m21_m, .int 0, m23_m, m24_m, m25_m, m26_m, .int 0, .int 0, .int 0, .int 0, .int 0, .int 0, .long 0, .long 0, m35_m, m36_m, .int 0, .int 0, .int 0, .int 0, .int 0, .int 0, .int 0, .int 0, .int 0, .int 0, .int 0, .int 0, .int 0, .int 0, m51_m, m52_m, m53_m, .int 0, .int 0, .int 0, m57_m, m58_m, .int 0, .long 0, .long 0, m62_m, .int 0, .int 0])), (ca_m, .inl (cA 0, 1825, .inl cf_m))]) ⟨hx, hb, hml, hown, hts⟩ hK hE hP hD hS hA (c_DR_known l G cA h0 atr atx aho ath aru ahr arr_ ase ali aac aga akh ako akr a1 1 f1 f2 f3 f4 f6 f9 f10 f12 f13 f14 f17) lk_RL_207 ⟨rfl, rfl⟩ ⟨Nat.le_of_ble_eq_true rfl, Nat.le_of_ble_eq_true rfl⟩ 11 rfl rfl rfl [0, 1] [2, 3] rfl rfl (by decide) rfl hl.1 rfl (lv_room (Nat.le_of_ble_eq_true rfl)) dL_law_1708 ⟨Nat.le_of_ble_eq_true rfl, Nat.le_of_ble_eq_true rfl⟩ (fun r_13 u_14 H locs hw hP hD hS => ?_)
    have hP : va_P G vwCl [(h0_m, .inr (12, [.int 0, .int 0, .long 0, .long 1, m4_m, m5_m, m6_m, m7_m, .int 0, .int 0, .int (-1), .int (-1), .int 0, .int 0, .int 0, .int 0, .int 0, .int 0, .int 0, .long 0, .ref ca_m, m21_m, .int 0, m23_m, m24_m, m25_m, m26_m, .int 0, .int 0, .int 0, .int 0, .int 0, .int 0, .long 0, .long 0, m35_m, m36_m, .int 0, .int 0, .int 0, .int 0, .int 0, .int 0, .int 0, .int 0, .int 0, .int 0, .int 0, .int 0, .int 0, .int 0, m51_m, m52_m, m53_m, .int 0, .int 0, .int 0, m57_m, m58_m, .int 0, .long 0, .long 0, m62_m, .int 0, .int 0])), (ca_m, .inl (cA 0, 1825, .inl cf_m))] H := hP
    have hD : va_D A [(h0_m, .inr (12, [.int 0, .int 0, .long 0, .long 1, m4_m, m5_m, m6_m, m7_m, .int 0, .int 0, .int (-1), .int (-1), .int 0, .int 0, .int 0, .int 0, .int 0, .int 0, .int 0, .long 0, .ref ca_m, m21_m, .int 0, m23_m, m24_m, m25_m, m26_m, .int 0, .int 0, .int 0, .int 0, .int 0, .int 0, .long 0, .long 0, m35_m, m36_m, .int 0, .int 0, .int 0, .int 0, .int 0, .int 0, .int 0, .int 0, .int 0, .int 0, .int 0, .int 0, .int 0, .int 0, m51_m, m52_m, m53_m, .int 0, .int 0, .int 0, m57_m, m58_m, .int 0, .long 0, .long 0, m62_m, .int 0, .int 0])), (ca_m, .inl (cA 0, 1825, .inl cf_m))] := hD
    obtain rfl : r_13 = (-1) := hw
    refine lv_aload_n hx hb dL_law_1711 rfl (lv_at hl 1 rfl) ?_
    refine lv_aload_n hx hb dL_law_1712 rfl (lv_at hl 3 rfl) ?_
    refine lv_iload_n hx hb dL_law_1713 rfl (lv_at hl 0 rfl) ?_
    refine lv_iconst (v := 1) hx hb dL_law_1714 (by decide) ?_
    refine lv_iadd hx hb dL_law_1715 ?_
    refine z_topi (y := 1) (by decide +kernel) ?_
    refine va_sld hx hb hX hbl hbA hS (z_in (i := 1) (n := 6) (by decide +kernel) (by decide +kernel)) dL_law_1716 ?_
    refine z_topi (y := a1) ha1 ?_
    refine lv_aload_n hx hb dL_law_1717 rfl (lv_at hl 3 rfl) ?_
    refine lv_iload_n hx hb dL_law_1718 rfl (lv_at hl 0 rfl) ?_
    refine lv_iconst (v := 2) hx hb dL_law_1719 (by decide) ?_
    refine lv_iadd hx hb dL_law_1720 ?_
    refine z_topi (y := 2) (by decide +kernel) ?_
    refine va_sld hx hb hX hbl hbA hS (z_in (i := 2) (n := 6) (by decide +kernel) (by decide +kernel)) dL_law_1721 ?_
    refine z_topi (y := a2) ha2 ?_
    refine lv_if_eq (tgt := 1729) hx hb dL_law_1722 (by decide) (fun c_15 => ?_) (fun c_15 => ?_)
    · skip
      refine lv_iconst (v := 0) hx hb dL_law_1729 (by decide) ?_
      refine z_callVi (As := [.int a1, .int 0]) (rest := [.int (-1)]) (wr := []) ⟨hx, hb, hml, hown, hts⟩ hK hE hP hD hS hA (c_M_known l G cA h0_m a1 0 cf_m m4_m m5_m m6_m m7_m ca_m m21_m m23_m m24_m m25_m m26_m m35_m m36_m m51_m m52_m m53_m m57_m m58_m m62_m hc_m) lk_RL_210 ⟨rfl, rfl⟩ ⟨Nat.le_of_ble_eq_true rfl, Nat.le_of_ble_eq_true rfl⟩ 12 rfl rfl rfl [0, 1] [] rfl rfl (by decide) rfl hl.1 rfl (lv_room (Nat.le_of_ble_eq_true rfl)) dL_law_1730 ⟨Nat.le_of_ble_eq_true rfl, Nat.le_of_ble_eq_true rfl⟩ (fun r_17 u_18 H locs hw hP hD hS => ?_)
      have hP : va_P G vwCl [] H := hP
      have hD : va_D A [] := hD
      obtain rfl : r_17 = (-1) := hw
      refine lv_icmp_eq (tgt := 2032) hx hb dL_law_1733 (by decide) (fun _ => ?_) (fun h9 => absurd (by decide +kernel) h9)
      exact lw_exit l hx hb hr hlocks hX hbl hbA hAf (Nat.le_of_ble_eq_true rfl) (Nat.le_of_ble_eq_true rfl) hS (lv_sub hl [3, 0] rfl)
    · skip
      refine lv_iconst (v := 1) hx hb dL_law_1725 (by decide) ?_
      refine lv_goto (tgt := 1730) hx hb dL_law_1726 (by decide) ?_
      refine z_callVi (As := [.int a1, .int 1]) (rest := [.int (-1)]) (wr := []) ⟨hx, hb, hml, hown, hts⟩ hK hE hP hD hS hA (c_M_known l G cA h0_m a1 1 cf_m m4_m m5_m m6_m m7_m ca_m m21_m m23_m m24_m m25_m m26_m m35_m m36_m m51_m m52_m m53_m m57_m m58_m m62_m hc_m) lk_RL_210 ⟨rfl, rfl⟩ ⟨Nat.le_of_ble_eq_true rfl, Nat.le_of_ble_eq_true rfl⟩ 12 rfl rfl rfl [0, 1] [] rfl rfl (by decide) rfl hl.1 rfl (lv_room (Nat.le_of_ble_eq_true rfl)) dL_law_1730 ⟨Nat.le_of_ble_eq_true rfl, Nat.le_of_ble_eq_true rfl⟩ (fun r_20 u_21 H locs hw hP hD hS => ?_)
      have hP : va_P G vwCl [] H := hP
      have hD : va_D A [] := hD
      obtain rfl : r_20 = (-1) := hw
      refine lv_icmp_eq (tgt := 2032) hx hb dL_law_1733 (by decide) (fun _ => ?_) (fun h9 => absurd (by decide +kernel) h9)
      exact lw_exit l hx hb hr hlocks hX hbl hbA hAf (Nat.le_of_ble_eq_true rfl) (Nat.le_of_ble_eq_true rfl) hS (lv_sub hl [3, 0] rfl)
set_option maxHeartbeats 4000000 in
set_option maxRecDepth 100000 in
theorem lw_case_45 {p : Program} {e : Env} {s : State} {m : MethodId} {below : List Frame} {meth : Method} {c : Code} (l : Launch) (G : va_G) (cA : Nat → ClassId) {b : Nat} {xs : Nat → Int32} {A : Nat → Prop} (h0 : Nat) (atr : Nat) (atx : Nat) (aho : Nat) (ath : Nat) (aru : Nat) (ahr : Nat) (arr_ : Nat) (ase : Nat) (ali : Nat) (aac : Nat) (aga : Nat) (akh : Nat) (ako : Nat) (akr : Nat) (f1 : Value) (f2 : Value) (f3 : Value) (f4 : Value) (f6 : Value) (f9 : Value) (f10 : Value) (f12 : Value) (f13 : Value) (f14 : Value) (f17 : Value) (h0_m : Nat) (cf_m : Nat → Int32) (m4_m : Value) (m5_m : Value) (m6_m : Value) (m7_m : Value) (ca_m : Nat) (m21_m : Value) (m23_m : Value) (m24_m : Value) (m25_m : Value) (m26_m : Value) (m35_m : Value) (m36_m : Value) (m51_m : Value) (m52_m : Value) (m53_m : Value) (m57_m : Value) (m58_m : Value) (m62_m : Value) (a1 : Int32) (a2 : Int32) (a3 : Int32) (a4 : Int32) (a5 : Int32) (ha1 : xs (1 : Int32).toNatClampNeg = a1) (ha2 : xs (2 : Int32).toNatClampNeg = a2) (ha3 : xs (3 : Int32).toNatClampNeg = a3) (ha4 : xs (4 : Int32).toNatClampNeg = a4) (ha5 : xs (5 : Int32).toNatClampNeg = a5) (hc_m : zFr cf_m) {H : Heap} {locs : List Loc} {ls : Array Slot} (hx : p.tables.exec = Jvm.exec) (hb : c.code = code) (hr : meth.sig.returnType = ret) (hml : c.maxLocals = 4) (hown : s.vm.findClass RL = some m.cls) (hts : ∀ w ∈ TB, w.before #[Value.ref b] s = true) (hlocks : meth.locks = false) (hX : va_X b 6 xs s s.heap) (hbl : b < s.heap.size) (hbA : ¬ A b) (hA : ∀ q, s.heap.size ≤ q → A q) (hAf : ∀ q, A q → s.heap.size ≤ q) (hK : va_K G vwCl (zTY cA) s) (hE : zEX s) (hP : va_P G vwCl [(h0, .inr (11, [.int 0, .long 0, .long 1, .ref atr, .ref atx, .ref aho, .ref ath, .ref aru, .ref ahr, .ref arr_, .ref ase, .ref ali, .ref aac, .ref aga, .int 0, .ref akh, .ref ako, .ref akr])), (aho, .inr (2, [.int 0, f1, f2, f3, f4, .int 0, f6, .int 0, .int 0, f9, f10, .int 0, f12, f13, f14, .int 8, .int 0, f17])), (h0_m, .inr (12, [.int 0, .int 0, .long 0, .long 1, m4_m, m5_m, m6_m, m7_m, .int 0, .int 0, .int (-1), .int (-1), .int 0, .int 0, .int 0, .int 0, .int 0, .int 0, .int 0, .long 0, .ref ca_m, m21_m, .int 0, m23_m, m24_m, m25_m, m26_m, .int 0, .int 0, .int 0, .int 0, .int 0, .int 0, .long 0, .long 0, m35_m, m36_m, .int 0, .int 0, .int 0, .int 0, .int 0, .int 0, .int 0, .int 0, .int 0, .int 0, .int 0, .int 0, .int 0, .int 0, m51_m, m52_m, m53_m, .int 0, .int 0, .int 0, m57_m, m58_m, .int 0, .long 0, .long 0, m62_m, .int 0, .int 0])), (ca_m, .inl (cA 0, 1825, .inl cf_m))] H) (hD : va_D A [(h0, .inr (11, [.int 0, .long 0, .long 1, .ref atr, .ref atx, .ref aho, .ref ath, .ref aru, .ref ahr, .ref arr_, .ref ase, .ref ali, .ref aac, .ref aga, .int 0, .ref akh, .ref ako, .ref akr])), (aho, .inr (2, [.int 0, f1, f2, f3, f4, .int 0, f6, .int 0, .int 0, f9, f10, .int 0, f12, f13, f14, .int 8, .int 0, f17])), (h0_m, .inr (12, [.int 0, .int 0, .long 0, .long 1, m4_m, m5_m, m6_m, m7_m, .int 0, .int 0, .int (-1), .int (-1), .int 0, .int 0, .int 0, .int 0, .int 0, .int 0, .int 0, .long 0, .ref ca_m, m21_m, .int 0, m23_m, m24_m, m25_m, m26_m, .int 0, .int 0, .int 0, .int 0, .int 0, .int 0, .long 0, .long 0, m35_m, m36_m, .int 0, .int 0, .int 0, .int 0, .int 0, .int 0, .int 0, .int 0, .int 0, .int 0, .int 0, .int 0, .int 0, .int 0, m51_m, m52_m, m53_m, .int 0, .int 0, .int 0, m57_m, m58_m, .int 0, .long 0, .long 0, m62_m, .int 0, .int 0])), (ca_m, .inl (cA 0, 1825, .inl cf_m))]) (hS : va_S A s.heap H locs) (hl : lv_has ls 4 [(3, .int 0), (2, .ref h0_m), (1, .ref h0), (0, .ref b)]) : W p l e room_1 s m #[Value.ref b] below meth c H locs 166 7482 (lw_Z below #[Value.ref b] s) (F0 m 1738 ls []) := by
  refine lv_aload_n hx hb dL_law_1738 rfl (lv_at hl 2 rfl) ?_
  refine lv_aload_n hx hb dL_law_1739 rfl (lv_at hl 3 rfl) ?_
  refine lv_iload_n hx hb dL_law_1740 rfl (lv_at hl 0 rfl) ?_
  refine lv_iconst (v := 1) hx hb dL_law_1741 (by decide) ?_
  refine lv_iadd hx hb dL_law_1742 ?_
  refine z_topi (y := 1) (by decide +kernel) ?_
  refine va_sld hx hb hX hbl hbA hS (z_in (i := 1) (n := 6) (by decide +kernel) (by decide +kernel)) dL_law_1743 ?_
  refine z_topi (y := a1) ha1 ?_
  refine lv_aload_n hx hb dL_law_1744 rfl (lv_at hl 3 rfl) ?_
  refine lv_iload_n hx hb dL_law_1745 rfl (lv_at hl 0 rfl) ?_
  refine lv_iconst (v := 2) hx hb dL_law_1746 (by decide) ?_
  refine lv_iadd hx hb dL_law_1747 ?_
  refine z_topi (y := 2) (by decide +kernel) ?_
  refine va_sld hx hb hX hbl hbA hS (z_in (i := 2) (n := 6) (by decide +kernel) (by decide +kernel)) dL_law_1748 ?_
  refine z_topi (y := a2) ha2 ?_
  refine lv_aload_n hx hb dL_law_1749 rfl (lv_at hl 3 rfl) ?_
  refine lv_iload_n hx hb dL_law_1750 rfl (lv_at hl 0 rfl) ?_
  refine lv_iconst (v := 3) hx hb dL_law_1751 (by decide) ?_
  refine lv_iadd hx hb dL_law_1752 ?_
  refine z_topi (y := 3) (by decide +kernel) ?_
  refine va_sld hx hb hX hbl hbA hS (z_in (i := 3) (n := 6) (by decide +kernel) (by decide +kernel)) dL_law_1753 ?_
  refine z_topi (y := a3) ha3 ?_
  refine lv_aload_n hx hb dL_law_1754 rfl (lv_at hl 3 rfl) ?_
  refine lv_iload_n hx hb dL_law_1755 rfl (lv_at hl 0 rfl) ?_
  refine lv_iconst (v := 4) hx hb dL_law_1756 (by decide) ?_
  refine lv_iadd hx hb dL_law_1757 ?_
  refine z_topi (y := 4) (by decide +kernel) ?_
  refine va_sld hx hb hX hbl hbA hS (z_in (i := 4) (n := 6) (by decide +kernel) (by decide +kernel)) dL_law_1758 ?_
  refine z_topi (y := a4) ha4 ?_
  refine z_callVi (As := [.int a1, .int a2, .int a3, .int a4]) (rest := []) (wr := [(h0_m, .inr (12, [.int 0, .int 0, .long 0, .long 1, m4_m, m5_m, m6_m, m7_m, .int 0, .int 0, .int (-1), .int (-1), .int 0, .int 0, .int 0, .int 0, .int 0, .int 0, .int 0, .long 0, .ref ca_m, m21_m, .int 0, m23_m, m24_m, m25_m, m26_m, .int 0, .int 0, .int 0, .int 0, .int 0, .int 0, .long 0, .long 0, m35_m, m36_m, .int 0, .int 0, .int 0, .int 0, .int 0, .int 0, .int 0, .int 0, .int 0, .int 0, .int 0, .int 0, .int 0, .int 0, m51_m, m52_m, m53_m, .int 0, .int 0, .int 0, m57_m, m58_m, .int 0, .long 0, .long 0, m62_m, .int 0, .int 0])), (ca_m, .inl (cA 0, 1825, .inl cf_m))]) ⟨hx, hb, hml, hown, hts⟩ hK hE hP hD hS hA (c_DR_missing l G cA h0 atr atx aho ath aru ahr arr_ ase ali aac aga akh ako akr a1 a2 a3 a4 f1 f2 f3 f4 f6 f9 f10 f12 f13 f14 f17) lk_RL_211 ⟨rfl, rfl⟩ ⟨Nat.le_of_ble_eq_true rfl, Nat.le_of_ble_eq_true rfl⟩ 11 rfl rfl rfl [0, 1] [2, 3] rfl rfl (by decide) rfl hl.1 rfl (lv_room (Nat.le_of_ble_eq_true rfl)) dL_law_1759 ⟨Nat.le_of_ble_eq_true rfl, Nat.le_of_ble_eq_true rfl⟩ (fun r_1 u_2 H locs hw hP hD hS => ?_)
  have hP : va_P G vwCl [(h0_m, .inr (12, [.int 0, .int 0, .long 0, .long 1, m4_m, m5_m, m6_m, m7_m, .int 0, .int 0, .int (-1), .int (-1), .int 0, .int 0, .int 0, .int 0, .int 0, .int 0, .int 0, .long 0, .ref ca_m, m21_m, .int 0, m23_m, m24_m, m25_m, m26_m, .int 0, .int 0, .int 0, .int 0, .int 0, .int 0, .long 0, .long 0, m35_m, m36_m, .int 0, .int 0, .int 0, .int 0, .int 0, .int 0, .int 0, .int 0, .int 0, .int 0, .int 0, .int 0, .int 0, .int 0, m51_m, m52_m, m53_m, .int 0, .int 0, .int 0, m57_m, m58_m, .int 0, .long 0, .long 0, m62_m, .int 0, .int 0])), (ca_m, .inl (cA 0, 1825, .inl cf_m))] H := hP
  have hD : va_D A [(h0_m, .inr (12, [.int 0, .int 0, .long 0, .long 1, m4_m, m5_m, m6_m, m7_m, .int 0, .int 0, .int (-1), .int (-1), .int 0, .int 0, .int 0, .int 0, .int 0, .int 0, .int 0, .long 0, .ref ca_m, m21_m, .int 0, m23_m, m24_m, m25_m, m26_m, .int 0, .int 0, .int 0, .int 0, .int 0, .int 0, .long 0, .long 0, m35_m, m36_m, .int 0, .int 0, .int 0, .int 0, .int 0, .int 0, .int 0, .int 0, .int 0, .int 0, .int 0, .int 0, .int 0, .int 0, m51_m, m52_m, m53_m, .int 0, .int 0, .int 0, m57_m, m58_m, .int 0, .long 0, .long 0, m62_m, .int 0, .int 0])), (ca_m, .inl (cA 0, 1825, .inl cf_m))] := hD
  obtain rfl : r_1 = 0 := hw
  refine lv_aload_n hx hb dL_law_1762 rfl (lv_at hl 1 rfl) ?_
  refine lv_aload_n hx hb dL_law_1763 rfl (lv_at hl 3 rfl) ?_
  refine lv_iload_n hx hb dL_law_1764 rfl (lv_at hl 0 rfl) ?_
  refine lv_iconst (v := 1) hx hb dL_law_1765 (by decide) ?_
  refine lv_iadd hx hb dL_law_1766 ?_
  refine z_topi (y := 1) (by decide +kernel) ?_
  refine va_sld hx hb hX hbl hbA hS (z_in (i := 1) (n := 6) (by decide +kernel) (by decide +kernel)) dL_law_1767 ?_
  refine z_topi (y := a1) ha1 ?_
  refine lv_aload_n hx hb dL_law_1768 rfl (lv_at hl 3 rfl) ?_
  refine lv_iload_n hx hb dL_law_1769 rfl (lv_at hl 0 rfl) ?_
  refine lv_iconst (v := 2) hx hb dL_law_1770 (by decide) ?_
  refine lv_iadd hx hb dL_law_1771 ?_
  refine z_topi (y := 2) (by decide +kernel) ?_
  refine va_sld hx hb hX hbl hbA hS (z_in (i := 2) (n := 6) (by decide +kernel) (by decide +kernel)) dL_law_1772 ?_
  refine z_topi (y := a2) ha2 ?_
  refine lv_aload_n hx hb dL_law_1773 rfl (lv_at hl 3 rfl) ?_
  refine lv_iload_n hx hb dL_law_1774 rfl (lv_at hl 0 rfl) ?_
  refine lv_iconst (v := 3) hx hb dL_law_1775 (by decide) ?_
  refine lv_iadd hx hb dL_law_1776 ?_
  refine z_topi (y := 3) (by decide +kernel) ?_
  refine va_sld hx hb hX hbl hbA hS (z_in (i := 3) (n := 6) (by decide +kernel) (by decide +kernel)) dL_law_1777 ?_
  refine z_topi (y := a3) ha3 ?_
  refine lv_aload_n hx hb dL_law_1778 rfl (lv_at hl 3 rfl) ?_
  refine lv_iload_n hx hb dL_law_1779 rfl (lv_at hl 0 rfl) ?_
  refine lv_iconst (v := 4) hx hb dL_law_1780 (by decide) ?_
  refine lv_iadd hx hb dL_law_1781 ?_
  refine z_topi (y := 4) (by decide +kernel) ?_
  refine va_sld hx hb hX hbl hbA hS (z_in (i := 4) (n := 6) (by decide +kernel) (by decide +kernel)) dL_law_1782 ?_
  refine z_topi (y := a4) ha4 ?_
  refine z_callVi (As := [.int a1, .int a2, .int a3, .int a4]) (rest := [.int 0]) (wr := []) ⟨hx, hb, hml, hown, hts⟩ hK hE hP hD hS hA (c_M_missing l G cA h0_m a1 a2 a3 a4 cf_m m4_m m5_m m6_m m7_m ca_m m21_m m23_m m24_m m25_m m26_m m35_m m36_m m51_m m52_m m53_m m57_m m58_m m62_m hc_m) lk_RL_215 ⟨rfl, rfl⟩ ⟨Nat.le_of_ble_eq_true rfl, Nat.le_of_ble_eq_true rfl⟩ 12 rfl rfl rfl [0, 1] [] rfl rfl (by decide) rfl hl.1 rfl (lv_room (Nat.le_of_ble_eq_true rfl)) dL_law_1783 ⟨Nat.le_of_ble_eq_true rfl, Nat.le_of_ble_eq_true rfl⟩ (fun r_3 u_4 H locs hw hP hD hS => ?_)
  have hP : va_P G vwCl [] H := hP
  have hD : va_D A [] := hD
  obtain rfl : r_3 = 0 := hw
  refine lv_icmp_eq (tgt := 2032) hx hb dL_law_1786 (by decide) (fun _ => ?_) (fun h9 => absurd (by decide +kernel) h9)
  exact lw_exit l hx hb hr hlocks hX hbl hbA hAf (Nat.le_of_ble_eq_true rfl) (Nat.le_of_ble_eq_true rfl) hS (lv_sub hl [3, 0] rfl)
set_option maxHeartbeats 4000000 in
set_option maxRecDepth 100000 in
theorem lw_case_46 {p : Program} {e : Env} {s : State} {m : MethodId} {below : List Frame} {meth : Method} {c : Code} (l : Launch) (G : va_G) (cA : Nat → ClassId) {b : Nat} {xs : Nat → Int32} {A : Nat → Prop} (h0 : Nat) (atr : Nat) (atx : Nat) (aho : Nat) (ath : Nat) (aru : Nat) (ahr : Nat) (arr_ : Nat) (ase : Nat) (ali : Nat) (aac : Nat) (aga : Nat) (akh : Nat) (ako : Nat) (akr : Nat) (f1 : Value) (f2 : Value) (f3 : Value) (f4 : Value) (f6 : Value) (f9 : Value) (f10 : Value) (f12 : Value) (f13 : Value) (f14 : Value) (f17 : Value) (h0_m : Nat) (cf_m : Nat → Int32) (m4_m : Value) (m5_m : Value) (m6_m : Value) (m7_m : Value) (ca_m : Nat) (m21_m : Value) (m23_m : Value) (m24_m : Value) (m25_m : Value) (m26_m : Value) (m35_m : Value) (m36_m : Value) (m51_m : Value) (m52_m : Value) (m53_m : Value) (m57_m : Value) (m58_m : Value) (m62_m : Value) (a1 : Int32) (a2 : Int32) (a3 : Int32) (a4 : Int32) (a5 : Int32) (ha1 : xs (1 : Int32).toNatClampNeg = a1) (ha2 : xs (2 : Int32).toNatClampNeg = a2) (ha3 : xs (3 : Int32).toNatClampNeg = a3) (ha4 : xs (4 : Int32).toNatClampNeg = a4) (ha5 : xs (5 : Int32).toNatClampNeg = a5) (hc_m : zFr cf_m) {H : Heap} {locs : List Loc} {ls : Array Slot} (hx : p.tables.exec = Jvm.exec) (hb : c.code = code) (hr : meth.sig.returnType = ret) (hml : c.maxLocals = 4) (hown : s.vm.findClass RL = some m.cls) (hts : ∀ w ∈ TB, w.before #[Value.ref b] s = true) (hlocks : meth.locks = false) (hX : va_X b 6 xs s s.heap) (hbl : b < s.heap.size) (hbA : ¬ A b) (hA : ∀ q, s.heap.size ≤ q → A q) (hAf : ∀ q, A q → s.heap.size ≤ q) (hK : va_K G vwCl (zTY cA) s) (hE : zEX s) (hP : va_P G vwCl [(h0, .inr (11, [.int 0, .long 0, .long 1, .ref atr, .ref atx, .ref aho, .ref ath, .ref aru, .ref ahr, .ref arr_, .ref ase, .ref ali, .ref aac, .ref aga, .int 0, .ref akh, .ref ako, .ref akr])), (aho, .inr (2, [.int 0, f1, f2, f3, f4, .int 0, f6, .int 0, .int 0, f9, f10, .int 0, f12, f13, f14, .int 8, .int 0, f17])), (h0_m, .inr (12, [.int 0, .int 0, .long 0, .long 1, m4_m, m5_m, m6_m, m7_m, .int 0, .int 0, .int (-1), .int (-1), .int 0, .int 0, .int 0, .int 0, .int 0, .int 0, .int 0, .long 0, .ref ca_m, m21_m, .int 0, m23_m, m24_m, m25_m, m26_m, .int 0, .int 0, .int 0, .int 0, .int 0, .int 0, .long 0, .long 0, m35_m, m36_m, .int 0, .int 0, .int 0, .int 0, .int 0, .int 0, .int 0, .int 0, .int 0, .int 0, .int 0, .int 0, .int 0, .int 0, m51_m, m52_m, m53_m, .int 0, .int 0, .int 0, m57_m, m58_m, .int 0, .long 0, .long 0, m62_m, .int 0, .int 0])), (ca_m, .inl (cA 0, 1825, .inl cf_m))] H) (hD : va_D A [(h0, .inr (11, [.int 0, .long 0, .long 1, .ref atr, .ref atx, .ref aho, .ref ath, .ref aru, .ref ahr, .ref arr_, .ref ase, .ref ali, .ref aac, .ref aga, .int 0, .ref akh, .ref ako, .ref akr])), (aho, .inr (2, [.int 0, f1, f2, f3, f4, .int 0, f6, .int 0, .int 0, f9, f10, .int 0, f12, f13, f14, .int 8, .int 0, f17])), (h0_m, .inr (12, [.int 0, .int 0, .long 0, .long 1, m4_m, m5_m, m6_m, m7_m, .int 0, .int 0, .int (-1), .int (-1), .int 0, .int 0, .int 0, .int 0, .int 0, .int 0, .int 0, .long 0, .ref ca_m, m21_m, .int 0, m23_m, m24_m, m25_m, m26_m, .int 0, .int 0, .int 0, .int 0, .int 0, .int 0, .long 0, .long 0, m35_m, m36_m, .int 0, .int 0, .int 0, .int 0, .int 0, .int 0, .int 0, .int 0, .int 0, .int 0, .int 0, .int 0, .int 0, .int 0, m51_m, m52_m, m53_m, .int 0, .int 0, .int 0, m57_m, m58_m, .int 0, .long 0, .long 0, m62_m, .int 0, .int 0])), (ca_m, .inl (cA 0, 1825, .inl cf_m))]) (hS : va_S A s.heap H locs) (hl : lv_has ls 4 [(3, .int 0), (2, .ref h0_m), (1, .ref h0), (0, .ref b)]) : W p l e room_1 s m #[Value.ref b] below meth c H locs 166 7482 (lw_Z below #[Value.ref b] s) (F0 m 1791 ls []) := by
  refine lv_aload_n hx hb dL_law_1791 rfl (lv_at hl 2 rfl) ?_
  refine lv_aload_n hx hb dL_law_1792 rfl (lv_at hl 3 rfl) ?_
  refine lv_iload_n hx hb dL_law_1793 rfl (lv_at hl 0 rfl) ?_
  refine lv_iconst (v := 1) hx hb dL_law_1794 (by decide) ?_
  refine lv_iadd hx hb dL_law_1795 ?_
  refine z_topi (y := 1) (by decide +kernel) ?_
  refine va_sld hx hb hX hbl hbA hS (z_in (i := 1) (n := 6) (by decide +kernel) (by decide +kernel)) dL_law_1796 ?_
  refine z_topi (y := a1) ha1 ?_
  refine lv_aload_n hx hb dL_law_1797 rfl (lv_at hl 3 rfl) ?_
  refine lv_iload_n hx hb dL_law_1798 rfl (lv_at hl 0 rfl) ?_
  refine lv_iconst (v := 2) hx hb dL_law_1799 (by decide) ?_
  refine lv_iadd hx hb dL_law_1800 ?_
  refine z_topi (y := 2) (by decide +kernel) ?_
  refine va_sld hx hb hX hbl hbA hS (z_in (i := 2) (n := 6) (by decide +kernel) (by decide +kernel)) dL_law_1801 ?_
  refine z_topi (y := a2) ha2 ?_
  refine lv_aload_n hx hb dL_law_1802 rfl (lv_at hl 3 rfl) ?_
  refine lv_iload_n hx hb dL_law_1803 rfl (lv_at hl 0 rfl) ?_
  refine lv_iconst (v := 3) hx hb dL_law_1804 (by decide) ?_
  refine lv_iadd hx hb dL_law_1805 ?_
  refine z_topi (y := 3) (by decide +kernel) ?_
  refine va_sld hx hb hX hbl hbA hS (z_in (i := 3) (n := 6) (by decide +kernel) (by decide +kernel)) dL_law_1806 ?_
  refine z_topi (y := a3) ha3 ?_
  refine lv_aload_n hx hb dL_law_1807 rfl (lv_at hl 3 rfl) ?_
  refine lv_iload_n hx hb dL_law_1808 rfl (lv_at hl 0 rfl) ?_
  refine lv_iconst (v := 4) hx hb dL_law_1809 (by decide) ?_
  refine lv_iadd hx hb dL_law_1810 ?_
  refine z_topi (y := 4) (by decide +kernel) ?_
  refine va_sld hx hb hX hbl hbA hS (z_in (i := 4) (n := 6) (by decide +kernel) (by decide +kernel)) dL_law_1811 ?_
  refine z_topi (y := a4) ha4 ?_
  refine z_callVi (As := [.int a1, .int a2, .int a3, .int a4]) (rest := []) (wr := [(h0_m, .inr (12, [.int 0, .int 0, .long 0, .long 1, m4_m, m5_m, m6_m, m7_m, .int 0, .int 0, .int (-1), .int (-1), .int 0, .int 0, .int 0, .int 0, .int 0, .int 0, .int 0, .long 0, .ref ca_m, m21_m, .int 0, m23_m, m24_m, m25_m, m26_m, .int 0, .int 0, .int 0, .int 0, .int 0, .int 0, .long 0, .long 0, m35_m, m36_m, .int 0, .int 0, .int 0, .int 0, .int 0, .int 0, .int 0, .int 0, .int 0, .int 0, .int 0, .int 0, .int 0, .int 0, m51_m, m52_m, m53_m, .int 0, .int 0, .int 0, m57_m, m58_m, .int 0, .long 0, .long 0, m62_m, .int 0, .int 0])), (ca_m, .inl (cA 0, 1825, .inl cf_m))]) ⟨hx, hb, hml, hown, hts⟩ hK hE hP hD hS hA (c_DR_soon l G cA h0 atr atx aho ath aru ahr arr_ ase ali aac aga akh ako akr a1 a2 a3 a4 f1 f2 f3 f4 f6 f9 f10 f12 f13 f14 f17) lk_RL_216 ⟨rfl, rfl⟩ ⟨Nat.le_of_ble_eq_true rfl, Nat.le_of_ble_eq_true rfl⟩ 11 rfl rfl rfl [0, 1] [2, 3] rfl rfl (by decide) rfl hl.1 rfl (lv_room (Nat.le_of_ble_eq_true rfl)) dL_law_1812 ⟨Nat.le_of_ble_eq_true rfl, Nat.le_of_ble_eq_true rfl⟩ (fun r_1 u_2 H locs hw hP hD hS => ?_)
  have hP : va_P G vwCl [(h0_m, .inr (12, [.int 0, .int 0, .long 0, .long 1, m4_m, m5_m, m6_m, m7_m, .int 0, .int 0, .int (-1), .int (-1), .int 0, .int 0, .int 0, .int 0, .int 0, .int 0, .int 0, .long 0, .ref ca_m, m21_m, .int 0, m23_m, m24_m, m25_m, m26_m, .int 0, .int 0, .int 0, .int 0, .int 0, .int 0, .long 0, .long 0, m35_m, m36_m, .int 0, .int 0, .int 0, .int 0, .int 0, .int 0, .int 0, .int 0, .int 0, .int 0, .int 0, .int 0, .int 0, .int 0, m51_m, m52_m, m53_m, .int 0, .int 0, .int 0, m57_m, m58_m, .int 0, .long 0, .long 0, m62_m, .int 0, .int 0])), (ca_m, .inl (cA 0, 1825, .inl cf_m))] H := hP
  have hD : va_D A [(h0_m, .inr (12, [.int 0, .int 0, .long 0, .long 1, m4_m, m5_m, m6_m, m7_m, .int 0, .int 0, .int (-1), .int (-1), .int 0, .int 0, .int 0, .int 0, .int 0, .int 0, .int 0, .long 0, .ref ca_m, m21_m, .int 0, m23_m, m24_m, m25_m, m26_m, .int 0, .int 0, .int 0, .int 0, .int 0, .int 0, .long 0, .long 0, m35_m, m36_m, .int 0, .int 0, .int 0, .int 0, .int 0, .int 0, .int 0, .int 0, .int 0, .int 0, .int 0, .int 0, .int 0, .int 0, m51_m, m52_m, m53_m, .int 0, .int 0, .int 0, m57_m, m58_m, .int 0, .long 0, .long 0, m62_m, .int 0, .int 0])), (ca_m, .inl (cA 0, 1825, .inl cf_m))] := hD
  obtain rfl : r_1 = (-1) := hw
  refine lv_aload_n hx hb dL_law_1815 rfl (lv_at hl 1 rfl) ?_
  refine lv_aload_n hx hb dL_law_1816 rfl (lv_at hl 3 rfl) ?_
  refine lv_iload_n hx hb dL_law_1817 rfl (lv_at hl 0 rfl) ?_
  refine lv_iconst (v := 1) hx hb dL_law_1818 (by decide) ?_
  refine lv_iadd hx hb dL_law_1819 ?_
  refine z_topi (y := 1) (by decide +kernel) ?_
  refine va_sld hx hb hX hbl hbA hS (z_in (i := 1) (n := 6) (by decide +kernel) (by decide +kernel)) dL_law_1820 ?_
  refine z_topi (y := a1) ha1 ?_
  refine lv_aload_n hx hb dL_law_1821 rfl (lv_at hl 3 rfl) ?_
  refine lv_iload_n hx hb dL_law_1822 rfl (lv_at hl 0 rfl) ?_
  refine lv_iconst (v := 2) hx hb dL_law_1823 (by decide) ?_
  refine lv_iadd hx hb dL_law_1824 ?_
  refine z_topi (y := 2) (by decide +kernel) ?_
  refine va_sld hx hb hX hbl hbA hS (z_in (i := 2) (n := 6) (by decide +kernel) (by decide +kernel)) dL_law_1825 ?_
  refine z_topi (y := a2) ha2 ?_
  refine lv_aload_n hx hb dL_law_1826 rfl (lv_at hl 3 rfl) ?_
  refine lv_iload_n hx hb dL_law_1827 rfl (lv_at hl 0 rfl) ?_
  refine lv_iconst (v := 3) hx hb dL_law_1828 (by decide) ?_
  refine lv_iadd hx hb dL_law_1829 ?_
  refine z_topi (y := 3) (by decide +kernel) ?_
  refine va_sld hx hb hX hbl hbA hS (z_in (i := 3) (n := 6) (by decide +kernel) (by decide +kernel)) dL_law_1830 ?_
  refine z_topi (y := a3) ha3 ?_
  refine lv_aload_n hx hb dL_law_1831 rfl (lv_at hl 3 rfl) ?_
  refine lv_iload_n hx hb dL_law_1832 rfl (lv_at hl 0 rfl) ?_
  refine lv_iconst (v := 4) hx hb dL_law_1833 (by decide) ?_
  refine lv_iadd hx hb dL_law_1834 ?_
  refine z_topi (y := 4) (by decide +kernel) ?_
  refine va_sld hx hb hX hbl hbA hS (z_in (i := 4) (n := 6) (by decide +kernel) (by decide +kernel)) dL_law_1835 ?_
  refine z_topi (y := a4) ha4 ?_
  refine z_callVi (As := [.int a1, .int a2, .int a3, .int a4]) (rest := [.int (-1)]) (wr := []) ⟨hx, hb, hml, hown, hts⟩ hK hE hP hD hS hA (c_M_soon l G cA h0_m a1 a2 a3 a4 cf_m m4_m m5_m m6_m m7_m ca_m m21_m m23_m m24_m m25_m m26_m m35_m m36_m m51_m m52_m m53_m m57_m m58_m m62_m hc_m) lk_RL_219 ⟨rfl, rfl⟩ ⟨Nat.le_of_ble_eq_true rfl, Nat.le_of_ble_eq_true rfl⟩ 12 rfl rfl rfl [0, 1] [] rfl rfl (by decide) rfl hl.1 rfl (lv_room (Nat.le_of_ble_eq_true rfl)) dL_law_1836 ⟨Nat.le_of_ble_eq_true rfl, Nat.le_of_ble_eq_true rfl⟩ (fun r_3 u_4 H locs hw hP hD hS => ?_)
  have hP : va_P G vwCl [] H := hP
  have hD : va_D A [] := hD
  obtain rfl : r_3 = (-1) := hw
  refine lv_icmp_eq (tgt := 2032) hx hb dL_law_1839 (by decide) (fun _ => ?_) (fun h9 => absurd (by decide +kernel) h9)
  exact lw_exit l hx hb hr hlocks hX hbl hbA hAf (Nat.le_of_ble_eq_true rfl) (Nat.le_of_ble_eq_true rfl) hS (lv_sub hl [3, 0] rfl)
set_option maxHeartbeats 4000000 in
set_option maxRecDepth 100000 in
theorem lw_case_47 {p : Program} {e : Env} {s : State} {m : MethodId} {below : List Frame} {meth : Method} {c : Code} (l : Launch) (G : va_G) (cA : Nat → ClassId) {b : Nat} {xs : Nat → Int32} {A : Nat → Prop} (h0 : Nat) (atr : Nat) (atx : Nat) (aho : Nat) (ath : Nat) (aru : Nat) (ahr : Nat) (arr_ : Nat) (ase : Nat) (ali : Nat) (aac : Nat) (aga : Nat) (akh : Nat) (ako : Nat) (akr : Nat) (f1 : Value) (f2 : Value) (f3 : Value) (f4 : Value) (f6 : Value) (f9 : Value) (f10 : Value) (f12 : Value) (f13 : Value) (f14 : Value) (f17 : Value) (h0_m : Nat) (cf_m : Nat → Int32) (m4_m : Value) (m5_m : Value) (m6_m : Value) (m7_m : Value) (ca_m : Nat) (m21_m : Value) (m23_m : Value) (m24_m : Value) (m25_m : Value) (m26_m : Value) (m35_m : Value) (m36_m : Value) (m51_m : Value) (m52_m : Value) (m53_m : Value) (m57_m : Value) (m58_m : Value) (m62_m : Value) (a1 : Int32) (a2 : Int32) (a3 : Int32) (a4 : Int32) (a5 : Int32) (ha1 : xs (1 : Int32).toNatClampNeg = a1) (ha2 : xs (2 : Int32).toNatClampNeg = a2) (ha3 : xs (3 : Int32).toNatClampNeg = a3) (ha4 : xs (4 : Int32).toNatClampNeg = a4) (ha5 : xs (5 : Int32).toNatClampNeg = a5) (hc_m : zFr cf_m) {H : Heap} {locs : List Loc} {ls : Array Slot} (hx : p.tables.exec = Jvm.exec) (hb : c.code = code) (hr : meth.sig.returnType = ret) (hml : c.maxLocals = 4) (hown : s.vm.findClass RL = some m.cls) (hts : ∀ w ∈ TB, w.before #[Value.ref b] s = true) (hlocks : meth.locks = false) (hX : va_X b 6 xs s s.heap) (hbl : b < s.heap.size) (hbA : ¬ A b) (hA : ∀ q, s.heap.size ≤ q → A q) (hAf : ∀ q, A q → s.heap.size ≤ q) (hK : va_K G vwCl (zTY cA) s) (hE : zEX s) (hP : va_P G vwCl [(h0, .inr (11, [.int 0, .long 0, .long 1, .ref atr, .ref atx, .ref aho, .ref ath, .ref aru, .ref ahr, .ref arr_, .ref ase, .ref ali, .ref aac, .ref aga, .int 0, .ref akh, .ref ako, .ref akr])), (aho, .inr (2, [.int 0, f1, f2, f3, f4, .int 0, f6, .int 0, .int 0, f9, f10, .int 0, f12, f13, f14, .int 8, .int 0, f17])), (h0_m, .inr (12, [.int 0, .int 0, .long 0, .long 1, m4_m, m5_m, m6_m, m7_m, .int 0, .int 0, .int (-1), .int (-1), .int 0, .int 0, .int 0, .int 0, .int 0, .int 0, .int 0, .long 0, .ref ca_m, m21_m, .int 0, m23_m, m24_m, m25_m, m26_m, .int 0, .int 0, .int 0, .int 0, .int 0, .int 0, .long 0, .long 0, m35_m, m36_m, .int 0, .int 0, .int 0, .int 0, .int 0, .int 0, .int 0, .int 0, .int 0, .int 0, .int 0, .int 0, .int 0, .int 0, m51_m, m52_m, m53_m, .int 0, .int 0, .int 0, m57_m, m58_m, .int 0, .long 0, .long 0, m62_m, .int 0, .int 0])), (ca_m, .inl (cA 0, 1825, .inl cf_m))] H) (hD : va_D A [(h0, .inr (11, [.int 0, .long 0, .long 1, .ref atr, .ref atx, .ref aho, .ref ath, .ref aru, .ref ahr, .ref arr_, .ref ase, .ref ali, .ref aac, .ref aga, .int 0, .ref akh, .ref ako, .ref akr])), (aho, .inr (2, [.int 0, f1, f2, f3, f4, .int 0, f6, .int 0, .int 0, f9, f10, .int 0, f12, f13, f14, .int 8, .int 0, f17])), (h0_m, .inr (12, [.int 0, .int 0, .long 0, .long 1, m4_m, m5_m, m6_m, m7_m, .int 0, .int 0, .int (-1), .int (-1), .int 0, .int 0, .int 0, .int 0, .int 0, .int 0, .int 0, .long 0, .ref ca_m, m21_m, .int 0, m23_m, m24_m, m25_m, m26_m, .int 0, .int 0, .int 0, .int 0, .int 0, .int 0, .long 0, .long 0, m35_m, m36_m, .int 0, .int 0, .int 0, .int 0, .int 0, .int 0, .int 0, .int 0, .int 0, .int 0, .int 0, .int 0, .int 0, .int 0, m51_m, m52_m, m53_m, .int 0, .int 0, .int 0, m57_m, m58_m, .int 0, .long 0, .long 0, m62_m, .int 0, .int 0])), (ca_m, .inl (cA 0, 1825, .inl cf_m))]) (hS : va_S A s.heap H locs) (hl : lv_has ls 4 [(3, .int 0), (2, .ref h0_m), (1, .ref h0), (0, .ref b)]) : W p l e room_1 s m #[Value.ref b] below meth c H locs 166 7482 (lw_Z below #[Value.ref b] s) (F0 m 1844 ls []) := by
  refine lv_aload_n hx hb dL_law_1844 rfl (lv_at hl 2 rfl) ?_
  refine lv_aload_n hx hb dL_law_1845 rfl (lv_at hl 3 rfl) ?_
  refine lv_iload_n hx hb dL_law_1846 rfl (lv_at hl 0 rfl) ?_
  refine lv_iconst (v := 1) hx hb dL_law_1847 (by decide) ?_
  refine lv_iadd hx hb dL_law_1848 ?_
  refine z_topi (y := 1) (by decide +kernel) ?_
  refine va_sld hx hb hX hbl hbA hS (z_in (i := 1) (n := 6) (by decide +kernel) (by decide +kernel)) dL_law_1849 ?_
  refine z_topi (y := a1) ha1 ?_
  refine lv_aload_n hx hb dL_law_1850 rfl (lv_at hl 3 rfl) ?_
  refine lv_iload_n hx hb dL_law_1851 rfl (lv_at hl 0 rfl) ?_
  refine lv_iconst (v := 2) hx hb dL_law_1852 (by decide) ?_
  refine lv_iadd hx hb dL_law_1853 ?_
  refine z_topi (y := 2) (by decide +kernel) ?_
  refine va_sld hx hb hX hbl hbA hS (z_in (i := 2) (n := 6) (by decide +kernel) (by decide +kernel)) dL_law_1854 ?_
  refine z_topi (y := a2) ha2 ?_
  refine lv_aload_n hx hb dL_law_1855 rfl (lv_at hl 3 rfl) ?_
  refine lv_iload_n hx hb dL_law_1856 rfl (lv_at hl 0 rfl) ?_
  refine lv_iconst (v := 3) hx hb dL_law_1857 (by decide) ?_
  refine lv_iadd hx hb dL_law_1858 ?_
  refine z_topi (y := 3) (by decide +kernel) ?_
  refine va_sld hx hb hX hbl hbA hS (z_in (i := 3) (n := 6) (by decide +kernel) (by decide +kernel)) dL_law_1859 ?_
  refine z_topi (y := a3) ha3 ?_
  refine z_callVi (As := [.int a1, .int a2, .int a3]) (rest := []) (wr := [(h0_m, .inr (12, [.int 0, .int 0, .long 0, .long 1, m4_m, m5_m, m6_m, m7_m, .int 0, .int 0, .int (-1), .int (-1), .int 0, .int 0, .int 0, .int 0, .int 0, .int 0, .int 0, .long 0, .ref ca_m, m21_m, .int 0, m23_m, m24_m, m25_m, m26_m, .int 0, .int 0, .int 0, .int 0, .int 0, .int 0, .long 0, .long 0, m35_m, m36_m, .int 0, .int 0, .int 0, .int 0, .int 0, .int 0, .int 0, .int 0, .int 0, .int 0, .int 0, .int 0, .int 0, .int 0, m51_m, m52_m, m53_m, .int 0, .int 0, .int 0, m57_m, m58_m, .int 0, .long 0, .long 0, m62_m, .int 0, .int 0])), (ca_m, .inl (cA 0, 1825, .inl cf_m))]) ⟨hx, hb, hml, hown, hts⟩ hK hE hP hD hS hA (c_DR_newly l G cA h0 atr atx aho ath aru ahr arr_ ase ali aac aga akh ako akr a1 a2 a3 f1 f2 f3 f4 f6 f9 f10 f12 f13 f14 f17) lk_RL_220 ⟨rfl, rfl⟩ ⟨Nat.le_of_ble_eq_true rfl, Nat.le_of_ble_eq_true rfl⟩ 11 rfl rfl rfl [0, 1] [2, 3] rfl rfl (by decide) rfl hl.1 rfl (lv_room (Nat.le_of_ble_eq_true rfl)) dL_law_1860 ⟨Nat.le_of_ble_eq_true rfl, Nat.le_of_ble_eq_true rfl⟩ (fun r_1 u_2 H locs hw hP hD hS => ?_)
  have hP : va_P G vwCl [(h0_m, .inr (12, [.int 0, .int 0, .long 0, .long 1, m4_m, m5_m, m6_m, m7_m, .int 0, .int 0, .int (-1), .int (-1), .int 0, .int 0, .int 0, .int 0, .int 0, .int 0, .int 0, .long 0, .ref ca_m, m21_m, .int 0, m23_m, m24_m, m25_m, m26_m, .int 0, .int 0, .int 0, .int 0, .int 0, .int 0, .long 0, .long 0, m35_m, m36_m, .int 0, .int 0, .int 0, .int 0, .int 0, .int 0, .int 0, .int 0, .int 0, .int 0, .int 0, .int 0, .int 0, .int 0, m51_m, m52_m, m53_m, .int 0, .int 0, .int 0, m57_m, m58_m, .int 0, .long 0, .long 0, m62_m, .int 0, .int 0])), (ca_m, .inl (cA 0, 1825, .inl cf_m))] H := hP
  have hD : va_D A [(h0_m, .inr (12, [.int 0, .int 0, .long 0, .long 1, m4_m, m5_m, m6_m, m7_m, .int 0, .int 0, .int (-1), .int (-1), .int 0, .int 0, .int 0, .int 0, .int 0, .int 0, .int 0, .long 0, .ref ca_m, m21_m, .int 0, m23_m, m24_m, m25_m, m26_m, .int 0, .int 0, .int 0, .int 0, .int 0, .int 0, .long 0, .long 0, m35_m, m36_m, .int 0, .int 0, .int 0, .int 0, .int 0, .int 0, .int 0, .int 0, .int 0, .int 0, .int 0, .int 0, .int 0, .int 0, m51_m, m52_m, m53_m, .int 0, .int 0, .int 0, m57_m, m58_m, .int 0, .long 0, .long 0, m62_m, .int 0, .int 0])), (ca_m, .inl (cA 0, 1825, .inl cf_m))] := hD
  obtain rfl : r_1 = (-1) := hw
  refine lv_aload_n hx hb dL_law_1863 rfl (lv_at hl 1 rfl) ?_
  refine lv_aload_n hx hb dL_law_1864 rfl (lv_at hl 3 rfl) ?_
  refine lv_iload_n hx hb dL_law_1865 rfl (lv_at hl 0 rfl) ?_
  refine lv_iconst (v := 1) hx hb dL_law_1866 (by decide) ?_
  refine lv_iadd hx hb dL_law_1867 ?_
  refine z_topi (y := 1) (by decide +kernel) ?_
  refine va_sld hx hb hX hbl hbA hS (z_in (i := 1) (n := 6) (by decide +kernel) (by decide +kernel)) dL_law_1868 ?_
  refine z_topi (y := a1) ha1 ?_
  refine lv_aload_n hx hb dL_law_1869 rfl (lv_at hl 3 rfl) ?_
  refine lv_iload_n hx hb dL_law_1870 rfl (lv_at hl 0 rfl) ?_
  refine lv_iconst (v := 2) hx hb dL_law_1871 (by decide) ?_
  refine lv_iadd hx hb dL_law_1872 ?_
  refine z_topi (y := 2) (by decide +kernel) ?_
  refine va_sld hx hb hX hbl hbA hS (z_in (i := 2) (n := 6) (by decide +kernel) (by decide +kernel)) dL_law_1873 ?_
  refine z_topi (y := a2) ha2 ?_
  refine lv_aload_n hx hb dL_law_1874 rfl (lv_at hl 3 rfl) ?_
  refine lv_iload_n hx hb dL_law_1875 rfl (lv_at hl 0 rfl) ?_
  refine lv_iconst (v := 3) hx hb dL_law_1876 (by decide) ?_
  refine lv_iadd hx hb dL_law_1877 ?_
  refine z_topi (y := 3) (by decide +kernel) ?_
  refine va_sld hx hb hX hbl hbA hS (z_in (i := 3) (n := 6) (by decide +kernel) (by decide +kernel)) dL_law_1878 ?_
  refine z_topi (y := a3) ha3 ?_
  refine z_callVi (As := [.int a1, .int a2, .int a3]) (rest := [.int (-1)]) (wr := []) ⟨hx, hb, hml, hown, hts⟩ hK hE hP hD hS hA (c_M_newly l G cA h0_m a1 a2 a3 cf_m m4_m m5_m m6_m m7_m ca_m m21_m m23_m m24_m m25_m m26_m m35_m m36_m m51_m m52_m m53_m m57_m m58_m m62_m hc_m) lk_RL_223 ⟨rfl, rfl⟩ ⟨Nat.le_of_ble_eq_true rfl, Nat.le_of_ble_eq_true rfl⟩ 12 rfl rfl rfl [0, 1] [] rfl rfl (by decide) rfl hl.1 rfl (lv_room (Nat.le_of_ble_eq_true rfl)) dL_law_1879 ⟨Nat.le_of_ble_eq_true rfl, Nat.le_of_ble_eq_true rfl⟩ (fun r_3 u_4 H locs hw hP hD hS => ?_)
  have hP : va_P G vwCl [] H := hP
  have hD : va_D A [] := hD
  obtain rfl : r_3 = (-1) := hw
  refine lv_icmp_eq (tgt := 2032) hx hb dL_law_1882 (by decide) (fun _ => ?_) (fun h9 => absurd (by decide +kernel) h9)
  exact lw_exit l hx hb hr hlocks hX hbl hbA hAf (Nat.le_of_ble_eq_true rfl) (Nat.le_of_ble_eq_true rfl) hS (lv_sub hl [3, 0] rfl)
set_option maxHeartbeats 4000000 in
set_option maxRecDepth 100000 in
theorem lw_case_48 {p : Program} {e : Env} {s : State} {m : MethodId} {below : List Frame} {meth : Method} {c : Code} (l : Launch) (G : va_G) (cA : Nat → ClassId) {b : Nat} {xs : Nat → Int32} {A : Nat → Prop} (h0 : Nat) (atr : Nat) (atx : Nat) (aho : Nat) (ath : Nat) (aru : Nat) (ahr : Nat) (arr_ : Nat) (ase : Nat) (ali : Nat) (aac : Nat) (aga : Nat) (akh : Nat) (ako : Nat) (akr : Nat) (f1 : Value) (f2 : Value) (f3 : Value) (f4 : Value) (f6 : Value) (f9 : Value) (f10 : Value) (f12 : Value) (f13 : Value) (f14 : Value) (f17 : Value) (h0_m : Nat) (cf_m : Nat → Int32) (m4_m : Value) (m5_m : Value) (m6_m : Value) (m7_m : Value) (ca_m : Nat) (m21_m : Value) (m23_m : Value) (m24_m : Value) (m25_m : Value) (m26_m : Value) (m35_m : Value) (m36_m : Value) (m51_m : Value) (m52_m : Value) (m53_m : Value) (m57_m : Value) (m58_m : Value) (m62_m : Value) (a1 : Int32) (a2 : Int32) (a3 : Int32) (a4 : Int32) (a5 : Int32) (ha1 : xs (1 : Int32).toNatClampNeg = a1) (ha2 : xs (2 : Int32).toNatClampNeg = a2) (ha3 : xs (3 : Int32).toNatClampNeg = a3) (ha4 : xs (4 : Int32).toNatClampNeg = a4) (ha5 : xs (5 : Int32).toNatClampNeg = a5) (hc_m : zFr cf_m) {H : Heap} {locs : List Loc} {ls : Array Slot} (hx : p.tables.exec = Jvm.exec) (hb : c.code = code) (hr : meth.sig.returnType = ret) (hml : c.maxLocals = 4) (hown : s.vm.findClass RL = some m.cls) (hts : ∀ w ∈ TB, w.before #[Value.ref b] s = true) (hlocks : meth.locks = false) (hX : va_X b 6 xs s s.heap) (hbl : b < s.heap.size) (hbA : ¬ A b) (hA : ∀ q, s.heap.size ≤ q → A q) (hAf : ∀ q, A q → s.heap.size ≤ q) (hK : va_K G vwCl (zTY cA) s) (hE : zEX s) (hP : va_P G vwCl [(h0, .inr (11, [.int 0, .long 0, .long 1, .ref atr, .ref atx, .ref aho, .ref ath, .ref aru, .ref ahr, .ref arr_, .ref ase, .ref ali, .ref aac, .ref aga, .int 0, .ref akh, .ref ako, .ref akr])), (aho, .inr (2, [.int 0, f1, f2, f3, f4, .int 0, f6, .int 0, .int 0, f9, f10, .int 0, f12, f13, f14, .int 8, .int 0, f17])), (h0_m, .inr (12, [.int 0, .int 0, .long 0, .long 1, m4_m, m5_m, m6_m, m7_m, .int 0, .int 0, .int (-1), .int (-1), .int 0, .int 0, .int 0, .int 0, .int 0, .int 0, .int 0, .long 0, .ref ca_m, m21_m, .int 0, m23_m, m24_m, m25_m, m26_m, .int 0, .int 0, .int 0, .int 0, .int 0, .int 0, .long 0, .long 0, m35_m, m36_m, .int 0, .int 0, .int 0, .int 0, .int 0, .int 0, .int 0, .int 0, .int 0, .int 0, .int 0, .int 0, .int 0, .int 0, m51_m, m52_m, m53_m, .int 0, .int 0, .int 0, m57_m, m58_m, .int 0, .long 0, .long 0, m62_m, .int 0, .int 0])), (ca_m, .inl (cA 0, 1825, .inl cf_m))] H) (hD : va_D A [(h0, .inr (11, [.int 0, .long 0, .long 1, .ref atr, .ref atx, .ref aho, .ref ath, .ref aru, .ref ahr, .ref arr_, .ref ase, .ref ali, .ref aac, .ref aga, .int 0, .ref akh, .ref ako, .ref akr])), (aho, .inr (2, [.int 0, f1, f2, f3, f4, .int 0, f6, .int 0, .int 0, f9, f10, .int 0, f12, f13, f14, .int 8, .int 0, f17])), (h0_m, .inr (12, [.int 0, .int 0, .long 0, .long 1, m4_m, m5_m, m6_m, m7_m, .int 0, .int 0, .int (-1), .int (-1), .int 0, .int 0, .int 0, .int 0, .int 0, .int 0, .int 0, .long 0, .ref ca_m, m21_m, .int 0, m23_m, m24_m, m25_m, m26_m, .int 0, .int 0, .int 0, .int 0, .int 0, .int 0, .long 0, .long 0, m35_m, m36_m, .int 0, .int 0, .int 0, .int 0, .int 0, .int 0, .int 0, .int 0, .int 0, .int 0, .int 0, .int 0, .int 0, .int 0, m51_m, m52_m, m53_m, .int 0, .int 0, .int 0, m57_m, m58_m, .int 0, .long 0, .long 0, m62_m, .int 0, .int 0])), (ca_m, .inl (cA 0, 1825, .inl cf_m))]) (hS : va_S A s.heap H locs) (hl : lv_has ls 4 [(3, .int 0), (2, .ref h0_m), (1, .ref h0), (0, .ref b)]) : W p l e room_1 s m #[Value.ref b] below meth c H locs 166 7482 (lw_Z below #[Value.ref b] s) (F0 m 1887 ls []) := by
  refine lv_aload_n hx hb dL_law_1887 rfl (lv_at hl 2 rfl) ?_
  refine lv_aload_n hx hb dL_law_1888 rfl (lv_at hl 3 rfl) ?_
  refine lv_iload_n hx hb dL_law_1889 rfl (lv_at hl 0 rfl) ?_
  refine lv_iconst (v := 1) hx hb dL_law_1890 (by decide) ?_
  refine lv_iadd hx hb dL_law_1891 ?_
  refine z_topi (y := 1) (by decide +kernel) ?_
  refine va_sld hx hb hX hbl hbA hS (z_in (i := 1) (n := 6) (by decide +kernel) (by decide +kernel)) dL_law_1892 ?_
  refine z_topi (y := a1) ha1 ?_
  refine lv_aload_n hx hb dL_law_1893 rfl (lv_at hl 3 rfl) ?_
  refine lv_iload_n hx hb dL_law_1894 rfl (lv_at hl 0 rfl) ?_
  refine lv_iconst (v := 2) hx hb dL_law_1895 (by decide) ?_
  refine lv_iadd hx hb dL_law_1896 ?_
  refine z_topi (y := 2) (by decide +kernel) ?_
  refine va_sld hx hb hX hbl hbA hS (z_in (i := 2) (n := 6) (by decide +kernel) (by decide +kernel)) dL_law_1897 ?_
  refine z_topi (y := a2) ha2 ?_
  refine lv_aload_n hx hb dL_law_1898 rfl (lv_at hl 3 rfl) ?_
  refine lv_iload_n hx hb dL_law_1899 rfl (lv_at hl 0 rfl) ?_
  refine lv_iconst (v := 3) hx hb dL_law_1900 (by decide) ?_
  refine lv_iadd hx hb dL_law_1901 ?_
  refine z_topi (y := 3) (by decide +kernel) ?_
  refine va_sld hx hb hX hbl hbA hS (z_in (i := 3) (n := 6) (by decide +kernel) (by decide +kernel)) dL_law_1902 ?_
  refine z_topi (y := a3) ha3 ?_
  refine z_callVi (As := [.int a1, .int a2, .int a3]) (rest := []) (wr := [(h0_m, .inr (12, [.int 0, .int 0, .long 0, .long 1, m4_m, m5_m, m6_m, m7_m, .int 0, .int 0, .int (-1), .int (-1), .int 0, .int 0, .int 0, .int 0, .int 0, .int 0, .int 0, .long 0, .ref ca_m, m21_m, .int 0, m23_m, m24_m, m25_m, m26_m, .int 0, .int 0, .int 0, .int 0, .int 0, .int 0, .long 0, .long 0, m35_m, m36_m, .int 0, .int 0, .int 0, .int 0, .int 0, .int 0, .int 0, .int 0, .int 0, .int 0, .int 0, .int 0, .int 0, .int 0, m51_m, m52_m, m53_m, .int 0, .int 0, .int 0, m57_m, m58_m, .int 0, .long 0, .long 0, m62_m, .int 0, .int 0])), (ca_m, .inl (cA 0, 1825, .inl cf_m))]) ⟨hx, hb, hml, hown, hts⟩ hK hE hP hD hS hA (c_DR_play l G cA h0 atr atx aho ath aru ahr arr_ ase ali aac aga akh ako akr a1 a2 a3 f1 f2 f3 f4 f6 f9 f10 f12 f13 f14 f17) lk_RL_224 ⟨rfl, rfl⟩ ⟨Nat.le_of_ble_eq_true rfl, Nat.le_of_ble_eq_true rfl⟩ 11 rfl rfl rfl [0, 1] [2, 3] rfl rfl (by decide) rfl hl.1 rfl (lv_room (Nat.le_of_ble_eq_true rfl)) dL_law_1903 ⟨Nat.le_of_ble_eq_true rfl, Nat.le_of_ble_eq_true rfl⟩ (fun r_1 u_2 H locs hw hP hD hS => ?_)
  have hP : va_P G vwCl [(h0_m, .inr (12, [.int 0, .int 0, .long 0, .long 1, m4_m, m5_m, m6_m, m7_m, .int 0, .int 0, .int (-1), .int (-1), .int 0, .int 0, .int 0, .int 0, .int 0, .int 0, .int 0, .long 0, .ref ca_m, m21_m, .int 0, m23_m, m24_m, m25_m, m26_m, .int 0, .int 0, .int 0, .int 0, .int 0, .int 0, .long 0, .long 0, m35_m, m36_m, .int 0, .int 0, .int 0, .int 0, .int 0, .int 0, .int 0, .int 0, .int 0, .int 0, .int 0, .int 0, .int 0, .int 0, m51_m, m52_m, m53_m, .int 0, .int 0, .int 0, m57_m, m58_m, .int 0, .long 0, .long 0, m62_m, .int 0, .int 0])), (ca_m, .inl (cA 0, 1825, .inl cf_m))] H := hP
  have hD : va_D A [(h0_m, .inr (12, [.int 0, .int 0, .long 0, .long 1, m4_m, m5_m, m6_m, m7_m, .int 0, .int 0, .int (-1), .int (-1), .int 0, .int 0, .int 0, .int 0, .int 0, .int 0, .int 0, .long 0, .ref ca_m, m21_m, .int 0, m23_m, m24_m, m25_m, m26_m, .int 0, .int 0, .int 0, .int 0, .int 0, .int 0, .long 0, .long 0, m35_m, m36_m, .int 0, .int 0, .int 0, .int 0, .int 0, .int 0, .int 0, .int 0, .int 0, .int 0, .int 0, .int 0, .int 0, .int 0, m51_m, m52_m, m53_m, .int 0, .int 0, .int 0, m57_m, m58_m, .int 0, .long 0, .long 0, m62_m, .int 0, .int 0])), (ca_m, .inl (cA 0, 1825, .inl cf_m))] := hD
  obtain rfl : r_1 = (-1) := hw
  refine lv_aload_n hx hb dL_law_1906 rfl (lv_at hl 1 rfl) ?_
  refine lv_aload_n hx hb dL_law_1907 rfl (lv_at hl 3 rfl) ?_
  refine lv_iload_n hx hb dL_law_1908 rfl (lv_at hl 0 rfl) ?_
  refine lv_iconst (v := 1) hx hb dL_law_1909 (by decide) ?_
  refine lv_iadd hx hb dL_law_1910 ?_
  refine z_topi (y := 1) (by decide +kernel) ?_
  refine va_sld hx hb hX hbl hbA hS (z_in (i := 1) (n := 6) (by decide +kernel) (by decide +kernel)) dL_law_1911 ?_
  refine z_topi (y := a1) ha1 ?_
  refine lv_aload_n hx hb dL_law_1912 rfl (lv_at hl 3 rfl) ?_
  refine lv_iload_n hx hb dL_law_1913 rfl (lv_at hl 0 rfl) ?_
  refine lv_iconst (v := 2) hx hb dL_law_1914 (by decide) ?_
  refine lv_iadd hx hb dL_law_1915 ?_
  refine z_topi (y := 2) (by decide +kernel) ?_
  refine va_sld hx hb hX hbl hbA hS (z_in (i := 2) (n := 6) (by decide +kernel) (by decide +kernel)) dL_law_1916 ?_
  refine z_topi (y := a2) ha2 ?_
  refine lv_aload_n hx hb dL_law_1917 rfl (lv_at hl 3 rfl) ?_
  refine lv_iload_n hx hb dL_law_1918 rfl (lv_at hl 0 rfl) ?_
  refine lv_iconst (v := 3) hx hb dL_law_1919 (by decide) ?_
  refine lv_iadd hx hb dL_law_1920 ?_
  refine z_topi (y := 3) (by decide +kernel) ?_
  refine va_sld hx hb hX hbl hbA hS (z_in (i := 3) (n := 6) (by decide +kernel) (by decide +kernel)) dL_law_1921 ?_
  refine z_topi (y := a3) ha3 ?_
  refine z_callVi (As := [.int a1, .int a2, .int a3]) (rest := [.int (-1)]) (wr := []) ⟨hx, hb, hml, hown, hts⟩ hK hE hP hD hS hA (c_M_play l G cA h0_m a1 a2 a3 cf_m m4_m m5_m m6_m m7_m ca_m m21_m m23_m m24_m m25_m m26_m m35_m m36_m m51_m m52_m m53_m m57_m m58_m m62_m hc_m) lk_RL_227 ⟨rfl, rfl⟩ ⟨Nat.le_of_ble_eq_true rfl, Nat.le_of_ble_eq_true rfl⟩ 12 rfl rfl rfl [0, 1] [] rfl rfl (by decide) rfl hl.1 rfl (lv_room (Nat.le_of_ble_eq_true rfl)) dL_law_1922 ⟨Nat.le_of_ble_eq_true rfl, Nat.le_of_ble_eq_true rfl⟩ (fun r_3 u_4 H locs hw hP hD hS => ?_)
  have hP : va_P G vwCl [] H := hP
  have hD : va_D A [] := hD
  obtain rfl : r_3 = (-1) := hw
  refine lv_icmp_eq (tgt := 2032) hx hb dL_law_1925 (by decide) (fun _ => ?_) (fun h9 => absurd (by decide +kernel) h9)
  exact lw_exit l hx hb hr hlocks hX hbl hbA hAf (Nat.le_of_ble_eq_true rfl) (Nat.le_of_ble_eq_true rfl) hS (lv_sub hl [3, 0] rfl)
set_option maxHeartbeats 4000000 in
set_option maxRecDepth 100000 in
theorem lw_case_49 {p : Program} {e : Env} {s : State} {m : MethodId} {below : List Frame} {meth : Method} {c : Code} (l : Launch) (G : va_G) (cA : Nat → ClassId) {b : Nat} {xs : Nat → Int32} {A : Nat → Prop} (h0 : Nat) (atr : Nat) (atx : Nat) (aho : Nat) (ath : Nat) (aru : Nat) (ahr : Nat) (arr_ : Nat) (ase : Nat) (ali : Nat) (aac : Nat) (aga : Nat) (akh : Nat) (ako : Nat) (akr : Nat) (kp : Nat) (f : Nat → Int32) (g0 : Value) (g1 : Value) (g2 : Value) (g3 : Value) (g4 : Value) (g5 : Value) (g6 : Value) (g7 : Value) (g8 : Value) (g9 : Value) (g10 : Value) (g11 : Value) (g12 : Value) (g13 : Value) (g14 : Value) (g15 : Value) (g16 : Value) (g17 : Value) (h0_m : Nat) (m4_m : Value) (m5_m : Value) (m6_m : Value) (m7_m : Value) (m20_m : Value) (m21_m : Value) (m23_m : Value) (m24_m : Value) (m25_m : Value) (m26_m : Value) (m35_m : Value) (m36_m : Value) (m51_m : Value) (m52_m : Value) (m53_m : Value) (m57_m : Value) (m58_m : Value) (m62_m : Value) (a1 : Int32) (a2 : Int32) (a3 : Int32) (a4 : Int32) (a5 : Int32) (ha1 : xs (1 : Int32).toNatClampNeg = a1) (ha2 : xs (2 : Int32).toNatClampNeg = a2) (ha3 : xs (3 : Int32).toNatClampNeg = a3) (ha4 : xs (4 : Int32).toNatClampNeg = a4) (ha5 : xs (5 : Int32).toNatClampNeg = a5) {H : Heap} {locs : List Loc} {ls : Array Slot} (hx : p.tables.exec = Jvm.exec) (hb : c.code = code) (hr : meth.sig.returnType = ret) (hml : c.maxLocals = 4) (hown : s.vm.findClass RL = some m.cls) (hts : ∀ w ∈ TB, w.before #[Value.ref b] s = true) (hlocks : meth.locks = false) (hX : va_X b 6 xs s s.heap) (hbl : b < s.heap.size) (hbA : ¬ A b) (hA : ∀ q, s.heap.size ≤ q → A q) (hAf : ∀ q, A q → s.heap.size ≤ q) (hK : va_K G vwCl (zTY cA) s) (hE : zEX s) (hP : va_P G vwCl [(h0, .inr (11, [.int 0, .long 0, .long 1, .ref atr, .ref atx, .ref aho, .ref ath, .ref aru, .ref ahr, .ref arr_, .ref ase, .ref ali, .ref aac, .ref aga, .int 0, .ref akh, .ref ako, .ref akr])), (aga, .inr (1, [g0, g1, g2, g3, g4, g5, g6, g7, g8, g9, g10, g11, g12, g13, g14, g15, g16, g17, .ref kp, .int 0])), (kp, .inl (cA 0, 7, .inl f)), (h0_m, .inr (12, [.int 0, .int 0, .long 0, .long 1, m4_m, m5_m, m6_m, m7_m, .int 0, .int 0, .int (-1), .int (-1), .int 0, .int 0, .int 0, .int 0, .int 0, .int 0, .int 0, .long 0, m20_m, m21_m, .int 0, m23_m, m24_m, m25_m, m26_m, .int 0, .int 0, .int 0, .int 0, .int 0, .int 0, .long 0, .long 0, m35_m, m36_m, .int 0, .int 0, .int 0, .int 0, .int 0, .int 0, .int 0, .int 0, .int 0, .int 0, .int 0, .int 0, .int 0, .int 0, m51_m, m52_m, m53_m, .int 0, .int 0, .int 0, m57_m, m58_m, .int 0, .long 0, .long 0, m62_m, .int 0, .int 0]))] H) (hD : va_D A [(h0, .inr (11, [.int 0, .long 0, .long 1, .ref atr, .ref atx, .ref aho, .ref ath, .ref aru, .ref ahr, .ref arr_, .ref ase, .ref ali, .ref aac, .ref aga, .int 0, .ref akh, .ref ako, .ref akr])), (aga, .inr (1, [g0, g1, g2, g3, g4, g5, g6, g7, g8, g9, g10, g11, g12, g13, g14, g15, g16, g17, .ref kp, .int 0])), (kp, .inl (cA 0, 7, .inl f)), (h0_m, .inr (12, [.int 0, .int 0, .long 0, .long 1, m4_m, m5_m, m6_m, m7_m, .int 0, .int 0, .int (-1), .int (-1), .int 0, .int 0, .int 0, .int 0, .int 0, .int 0, .int 0, .long 0, m20_m, m21_m, .int 0, m23_m, m24_m, m25_m, m26_m, .int 0, .int 0, .int 0, .int 0, .int 0, .int 0, .long 0, .long 0, m35_m, m36_m, .int 0, .int 0, .int 0, .int 0, .int 0, .int 0, .int 0, .int 0, .int 0, .int 0, .int 0, .int 0, .int 0, .int 0, m51_m, m52_m, m53_m, .int 0, .int 0, .int 0, m57_m, m58_m, .int 0, .long 0, .long 0, m62_m, .int 0, .int 0]))]) (hS : va_S A s.heap H locs) (hl : lv_has ls 4 [(3, .int 0), (2, .ref h0_m), (1, .ref h0), (0, .ref b)]) : W p l e room_1 s m #[Value.ref b] below meth c H locs 166 7482 (lw_Z below #[Value.ref b] s) (F0 m 1930 ls []) := by
  refine lv_aload_n hx hb dL_law_1930 rfl (lv_at hl 2 rfl) ?_
  refine lv_aload_n hx hb dL_law_1931 rfl (lv_at hl 3 rfl) ?_
  refine lv_iload_n hx hb dL_law_1932 rfl (lv_at hl 0 rfl) ?_
  refine lv_iconst (v := 1) hx hb dL_law_1933 (by decide) ?_
  refine lv_iadd hx hb dL_law_1934 ?_
  refine z_topi (y := 1) (by decide +kernel) ?_
  refine va_sld hx hb hX hbl hbA hS (z_in (i := 1) (n := 6) (by decide +kernel) (by decide +kernel)) dL_law_1935 ?_
  refine z_topi (y := a1) ha1 ?_
  refine z_callVi (As := [.int a1]) (rest := []) (wr := [(h0_m, .inr (12, [.int 0, .int 0, .long 0, .long 1, m4_m, m5_m, m6_m, m7_m, .int 0, .int 0, .int (-1), .int (-1), .int 0, .int 0, .int 0, .int 0, .int 0, .int 0, .int 0, .long 0, m20_m, m21_m, .int 0, m23_m, m24_m, m25_m, m26_m, .int 0, .int 0, .int 0, .int 0, .int 0, .int 0, .long 0, .long 0, m35_m, m36_m, .int 0, .int 0, .int 0, .int 0, .int 0, .int 0, .int 0, .int 0, .int 0, .int 0, .int 0, .int 0, .int 0, .int 0, m51_m, m52_m, m53_m, .int 0, .int 0, .int 0, m57_m, m58_m, .int 0, .long 0, .long 0, m62_m, .int 0, .int 0]))]) ⟨hx, hb, hml, hown, hts⟩ hK hE hP hD hS hA (c_DR_played l G cA h0 atr atx aho ath aru ahr arr_ ase ali aac aga akh ako akr a1 kp f g0 g1 g2 g3 g4 g5 g6 g7 g8 g9 g10 g11 g12 g13 g14 g15 g16 g17) lk_RL_228 ⟨rfl, rfl⟩ ⟨Nat.le_of_ble_eq_true rfl, Nat.le_of_ble_eq_true rfl⟩ 11 rfl rfl rfl [0, 1, 2] [3] rfl rfl (by decide) rfl hl.1 rfl (lv_room (Nat.le_of_ble_eq_true rfl)) dL_law_1936 ⟨Nat.le_of_ble_eq_true rfl, Nat.le_of_ble_eq_true rfl⟩ (fun r_1 u_2 H locs hw hP hD hS => ?_)
  have hP : va_P G vwCl [(h0_m, .inr (12, [.int 0, .int 0, .long 0, .long 1, m4_m, m5_m, m6_m, m7_m, .int 0, .int 0, .int (-1), .int (-1), .int 0, .int 0, .int 0, .int 0, .int 0, .int 0, .int 0, .long 0, m20_m, m21_m, .int 0, m23_m, m24_m, m25_m, m26_m, .int 0, .int 0, .int 0, .int 0, .int 0, .int 0, .long 0, .long 0, m35_m, m36_m, .int 0, .int 0, .int 0, .int 0, .int 0, .int 0, .int 0, .int 0, .int 0, .int 0, .int 0, .int 0, .int 0, .int 0, m51_m, m52_m, m53_m, .int 0, .int 0, .int 0, m57_m, m58_m, .int 0, .long 0, .long 0, m62_m, .int 0, .int 0]))] H := hP
  have hD : va_D A [(h0_m, .inr (12, [.int 0, .int 0, .long 0, .long 1, m4_m, m5_m, m6_m, m7_m, .int 0, .int 0, .int (-1), .int (-1), .int 0, .int 0, .int 0, .int 0, .int 0, .int 0, .int 0, .long 0, m20_m, m21_m, .int 0, m23_m, m24_m, m25_m, m26_m, .int 0, .int 0, .int 0, .int 0, .int 0, .int 0, .long 0, .long 0, m35_m, m36_m, .int 0, .int 0, .int 0, .int 0, .int 0, .int 0, .int 0, .int 0, .int 0, .int 0, .int 0, .int 0, .int 0, .int 0, m51_m, m52_m, m53_m, .int 0, .int 0, .int 0, m57_m, m58_m, .int 0, .long 0, .long 0, m62_m, .int 0, .int 0]))] := hD
  obtain rfl : r_1 = (-1) := hw
  refine lv_aload_n hx hb dL_law_1939 rfl (lv_at hl 1 rfl) ?_
  refine lv_aload_n hx hb dL_law_1940 rfl (lv_at hl 3 rfl) ?_
  refine lv_iload_n hx hb dL_law_1941 rfl (lv_at hl 0 rfl) ?_
  refine lv_iconst (v := 1) hx hb dL_law_1942 (by decide) ?_
  refine lv_iadd hx hb dL_law_1943 ?_
  refine z_topi (y := 1) (by decide +kernel) ?_
  refine va_sld hx hb hX hbl hbA hS (z_in (i := 1) (n := 6) (by decide +kernel) (by decide +kernel)) dL_law_1944 ?_
  refine z_topi (y := a1) ha1 ?_
  refine z_callVi (As := [.int a1]) (rest := [.int (-1)]) (wr := []) ⟨hx, hb, hml, hown, hts⟩ hK hE hP hD hS hA (c_M_played l G cA h0_m a1 m4_m m5_m m6_m m7_m m20_m m21_m m23_m m24_m m25_m m26_m m35_m m36_m m51_m m52_m m53_m m57_m m58_m m62_m) lk_RL_231 ⟨rfl, rfl⟩ ⟨Nat.le_of_ble_eq_true rfl, Nat.le_of_ble_eq_true rfl⟩ 12 rfl rfl rfl [0] [] rfl rfl (by decide) rfl hl.1 rfl (lv_room (Nat.le_of_ble_eq_true rfl)) dL_law_1945 ⟨Nat.le_of_ble_eq_true rfl, Nat.le_of_ble_eq_true rfl⟩ (fun r_3 u_4 H locs hw hP hD hS => ?_)
  have hP : va_P G vwCl [] H := hP
  have hD : va_D A [] := hD
  obtain rfl : r_3 = (-1) := hw
  refine lv_icmp_eq (tgt := 2032) hx hb dL_law_1948 (by decide) (fun _ => ?_) (fun h9 => absurd (by decide +kernel) h9)
  exact lw_exit l hx hb hr hlocks hX hbl hbA hAf (Nat.le_of_ble_eq_true rfl) (Nat.le_of_ble_eq_true rfl) hS (lv_sub hl [3, 0] rfl)
set_option maxHeartbeats 4000000 in
set_option maxRecDepth 100000 in
theorem lw_case_50 {p : Program} {e : Env} {s : State} {m : MethodId} {below : List Frame} {meth : Method} {c : Code} (l : Launch) (G : va_G) (cA : Nat → ClassId) {b : Nat} {xs : Nat → Int32} {A : Nat → Prop} (h0 : Nat) (atr : Nat) (atx : Nat) (aho : Nat) (ath : Nat) (aru : Nat) (ahr : Nat) (arr_ : Nat) (ase : Nat) (ali : Nat) (aac : Nat) (aga : Nat) (akh : Nat) (ako : Nat) (akr : Nat) (f1 : Value) (f2 : Value) (f3 : Value) (f4 : Value) (f6 : Value) (f9 : Value) (f10 : Value) (f12 : Value) (f13 : Value) (f14 : Value) (f17 : Value) (h0_m : Nat) (cf_m : Nat → Int32) (m4_m : Value) (m5_m : Value) (m6_m : Value) (m7_m : Value) (ca_m : Nat) (m21_m : Value) (m23_m : Value) (m24_m : Value) (m25_m : Value) (m26_m : Value) (m35_m : Value) (m36_m : Value) (m51_m : Value) (m52_m : Value) (m53_m : Value) (m57_m : Value) (m58_m : Value) (m62_m : Value) (a1 : Int32) (a2 : Int32) (a3 : Int32) (a4 : Int32) (a5 : Int32) (ha1 : xs (1 : Int32).toNatClampNeg = a1) (ha2 : xs (2 : Int32).toNatClampNeg = a2) (ha3 : xs (3 : Int32).toNatClampNeg = a3) (ha4 : xs (4 : Int32).toNatClampNeg = a4) (ha5 : xs (5 : Int32).toNatClampNeg = a5) (hc_m : zFr cf_m) {H : Heap} {locs : List Loc} {ls : Array Slot} (hx : p.tables.exec = Jvm.exec) (hb : c.code = code) (hr : meth.sig.returnType = ret) (hml : c.maxLocals = 4) (hown : s.vm.findClass RL = some m.cls) (hts : ∀ w ∈ TB, w.before #[Value.ref b] s = true) (hlocks : meth.locks = false) (hX : va_X b 6 xs s s.heap) (hbl : b < s.heap.size) (hbA : ¬ A b) (hA : ∀ q, s.heap.size ≤ q → A q) (hAf : ∀ q, A q → s.heap.size ≤ q) (hK : va_K G vwCl (zTY cA) s) (hE : zEX s) (hP : va_P G vwCl [(h0, .inr (11, [.int 0, .long 0, .long 1, .ref atr, .ref atx, .ref aho, .ref ath, .ref aru, .ref ahr, .ref arr_, .ref ase, .ref ali, .ref aac, .ref aga, .int 0, .ref akh, .ref ako, .ref akr])), (aho, .inr (2, [.int 0, f1, f2, f3, f4, .int 0, f6, .int 0, .int 0, f9, f10, .int 0, f12, f13, f14, .int 8, .int 0, f17])), (h0_m, .inr (12, [.int 0, .int 0, .long 0, .long 1, m4_m, m5_m, m6_m, m7_m, .int 0, .int 0, .int (-1), .int (-1), .int 0, .int 0, .int 0, .int 0, .int 0, .int 0, .int 0, .long 0, .ref ca_m, m21_m, .int 0, m23_m, m24_m, m25_m, m26_m, .int 0, .int 0, .int 0, .int 0, .int 0, .int 0, .long 0, .long 0, m35_m, m36_m, .int 0, .int 0, .int 0, .int 0, .int 0, .int 0, .int 0, .int 0, .int 0, .int 0, .int 0, .int 0, .int 0, .int 0, m51_m, m52_m, m53_m, .int 0, .int 0, .int 0, m57_m, m58_m, .int 0, .long 0, .long 0, m62_m, .int 0, .int 0])), (ca_m, .inl (cA 0, 1825, .inl cf_m))] H) (hD : va_D A [(h0, .inr (11, [.int 0, .long 0, .long 1, .ref atr, .ref atx, .ref aho, .ref ath, .ref aru, .ref ahr, .ref arr_, .ref ase, .ref ali, .ref aac, .ref aga, .int 0, .ref akh, .ref ako, .ref akr])), (aho, .inr (2, [.int 0, f1, f2, f3, f4, .int 0, f6, .int 0, .int 0, f9, f10, .int 0, f12, f13, f14, .int 8, .int 0, f17])), (h0_m, .inr (12, [.int 0, .int 0, .long 0, .long 1, m4_m, m5_m, m6_m, m7_m, .int 0, .int 0, .int (-1), .int (-1), .int 0, .int 0, .int 0, .int 0, .int 0, .int 0, .int 0, .long 0, .ref ca_m, m21_m, .int 0, m23_m, m24_m, m25_m, m26_m, .int 0, .int 0, .int 0, .int 0, .int 0, .int 0, .long 0, .long 0, m35_m, m36_m, .int 0, .int 0, .int 0, .int 0, .int 0, .int 0, .int 0, .int 0, .int 0, .int 0, .int 0, .int 0, .int 0, .int 0, m51_m, m52_m, m53_m, .int 0, .int 0, .int 0, m57_m, m58_m, .int 0, .long 0, .long 0, m62_m, .int 0, .int 0])), (ca_m, .inl (cA 0, 1825, .inl cf_m))]) (hS : va_S A s.heap H locs) (hl : lv_has ls 4 [(3, .int 0), (2, .ref h0_m), (1, .ref h0), (0, .ref b)]) : W p l e room_1 s m #[Value.ref b] below meth c H locs 166 7482 (lw_Z below #[Value.ref b] s) (F0 m 1953 ls []) := by
  refine lv_aload_n hx hb dL_law_1953 rfl (lv_at hl 2 rfl) ?_
  refine lv_aload_n hx hb dL_law_1954 rfl (lv_at hl 3 rfl) ?_
  refine lv_iload_n hx hb dL_law_1955 rfl (lv_at hl 0 rfl) ?_
  refine lv_iconst (v := 1) hx hb dL_law_1956 (by decide) ?_
  refine lv_iadd hx hb dL_law_1957 ?_
  refine z_topi (y := 1) (by decide +kernel) ?_
  refine va_sld hx hb hX hbl hbA hS (z_in (i := 1) (n := 6) (by decide +kernel) (by decide +kernel)) dL_law_1958 ?_
  refine z_topi (y := a1) ha1 ?_
  refine lv_aload_n hx hb dL_law_1959 rfl (lv_at hl 3 rfl) ?_
  refine lv_iload_n hx hb dL_law_1960 rfl (lv_at hl 0 rfl) ?_
  refine lv_iconst (v := 2) hx hb dL_law_1961 (by decide) ?_
  refine lv_iadd hx hb dL_law_1962 ?_
  refine z_topi (y := 2) (by decide +kernel) ?_
  refine va_sld hx hb hX hbl hbA hS (z_in (i := 2) (n := 6) (by decide +kernel) (by decide +kernel)) dL_law_1963 ?_
  refine z_topi (y := a2) ha2 ?_
  refine lv_aload_n hx hb dL_law_1964 rfl (lv_at hl 3 rfl) ?_
  refine lv_iload_n hx hb dL_law_1965 rfl (lv_at hl 0 rfl) ?_
  refine lv_iconst (v := 3) hx hb dL_law_1966 (by decide) ?_
  refine lv_iadd hx hb dL_law_1967 ?_
  refine z_topi (y := 3) (by decide +kernel) ?_
  refine va_sld hx hb hX hbl hbA hS (z_in (i := 3) (n := 6) (by decide +kernel) (by decide +kernel)) dL_law_1968 ?_
  refine z_topi (y := a3) ha3 ?_
  refine lv_aload_n hx hb dL_law_1969 rfl (lv_at hl 3 rfl) ?_
  refine lv_iload_n hx hb dL_law_1970 rfl (lv_at hl 0 rfl) ?_
  refine lv_iconst (v := 4) hx hb dL_law_1971 (by decide) ?_
  refine lv_iadd hx hb dL_law_1972 ?_
  refine z_topi (y := 4) (by decide +kernel) ?_
  refine va_sld hx hb hX hbl hbA hS (z_in (i := 4) (n := 6) (by decide +kernel) (by decide +kernel)) dL_law_1973 ?_
  refine z_topi (y := a4) ha4 ?_
  refine z_callVi (As := [.int a1, .int a2, .int a3, .int a4]) (rest := []) (wr := [(h0_m, .inr (12, [.int 0, .int 0, .long 0, .long 1, m4_m, m5_m, m6_m, m7_m, .int 0, .int 0, .int (-1), .int (-1), .int 0, .int 0, .int 0, .int 0, .int 0, .int 0, .int 0, .long 0, .ref ca_m, m21_m, .int 0, m23_m, m24_m, m25_m, m26_m, .int 0, .int 0, .int 0, .int 0, .int 0, .int 0, .long 0, .long 0, m35_m, m36_m, .int 0, .int 0, .int 0, .int 0, .int 0, .int 0, .int 0, .int 0, .int 0, .int 0, .int 0, .int 0, .int 0, .int 0, m51_m, m52_m, m53_m, .int 0, .int 0, .int 0, m57_m, m58_m, .int 0, .long 0, .long 0, m62_m, .int 0, .int 0])), (ca_m, .inl (cA 0, 1825, .inl cf_m))]) ⟨hx, hb, hml, hown, hts⟩ hK hE hP hD hS hA (c_DR_tally l G cA h0 atr atx aho ath aru ahr arr_ ase ali aac aga akh ako akr a1 a2 a3 a4 f1 f2 f3 f4 f6 f9 f10 f12 f13 f14 f17) lk_RL_232 ⟨rfl, rfl⟩ ⟨Nat.le_of_ble_eq_true rfl, Nat.le_of_ble_eq_true rfl⟩ 11 rfl rfl rfl [0, 1] [2, 3] rfl rfl (by decide) rfl hl.1 rfl (lv_room (Nat.le_of_ble_eq_true rfl)) dL_law_1974 ⟨Nat.le_of_ble_eq_true rfl, Nat.le_of_ble_eq_true rfl⟩ (fun r_1 u_2 H locs hw hP hD hS => ?_)
  have hP : va_P G vwCl [(h0_m, .inr (12, [.int 0, .int 0, .long 0, .long 1, m4_m, m5_m, m6_m, m7_m, .int 0, .int 0, .int (-1), .int (-1), .int 0, .int 0, .int 0, .int 0, .int 0, .int 0, .int 0, .long 0, .ref ca_m, m21_m, .int 0, m23_m, m24_m, m25_m, m26_m, .int 0, .int 0, .int 0, .int 0, .int 0, .int 0, .long 0, .long 0, m35_m, m36_m, .int 0, .int 0, .int 0, .int 0, .int 0, .int 0, .int 0, .int 0, .int 0, .int 0, .int 0, .int 0, .int 0, .int 0, m51_m, m52_m, m53_m, .int 0, .int 0, .int 0, m57_m, m58_m, .int 0, .long 0, .long 0, m62_m, .int 0, .int 0])), (ca_m, .inl (cA 0, 1825, .inl cf_m))] H := hP
  have hD : va_D A [(h0_m, .inr (12, [.int 0, .int 0, .long 0, .long 1, m4_m, m5_m, m6_m, m7_m, .int 0, .int 0, .int (-1), .int (-1), .int 0, .int 0, .int 0, .int 0, .int 0, .int 0, .int 0, .long 0, .ref ca_m, m21_m, .int 0, m23_m, m24_m, m25_m, m26_m, .int 0, .int 0, .int 0, .int 0, .int 0, .int 0, .long 0, .long 0, m35_m, m36_m, .int 0, .int 0, .int 0, .int 0, .int 0, .int 0, .int 0, .int 0, .int 0, .int 0, .int 0, .int 0, .int 0, .int 0, m51_m, m52_m, m53_m, .int 0, .int 0, .int 0, m57_m, m58_m, .int 0, .long 0, .long 0, m62_m, .int 0, .int 0])), (ca_m, .inl (cA 0, 1825, .inl cf_m))] := hD
  obtain rfl : r_1 = (-1) := hw
  refine lv_aload_n hx hb dL_law_1977 rfl (lv_at hl 1 rfl) ?_
  refine lv_aload_n hx hb dL_law_1978 rfl (lv_at hl 3 rfl) ?_
  refine lv_iload_n hx hb dL_law_1979 rfl (lv_at hl 0 rfl) ?_
  refine lv_iconst (v := 1) hx hb dL_law_1980 (by decide) ?_
  refine lv_iadd hx hb dL_law_1981 ?_
  refine z_topi (y := 1) (by decide +kernel) ?_
  refine va_sld hx hb hX hbl hbA hS (z_in (i := 1) (n := 6) (by decide +kernel) (by decide +kernel)) dL_law_1982 ?_
  refine z_topi (y := a1) ha1 ?_
  refine lv_aload_n hx hb dL_law_1983 rfl (lv_at hl 3 rfl) ?_
  refine lv_iload_n hx hb dL_law_1984 rfl (lv_at hl 0 rfl) ?_
  refine lv_iconst (v := 2) hx hb dL_law_1985 (by decide) ?_
  refine lv_iadd hx hb dL_law_1986 ?_
  refine z_topi (y := 2) (by decide +kernel) ?_
  refine va_sld hx hb hX hbl hbA hS (z_in (i := 2) (n := 6) (by decide +kernel) (by decide +kernel)) dL_law_1987 ?_
  refine z_topi (y := a2) ha2 ?_
  refine lv_aload_n hx hb dL_law_1988 rfl (lv_at hl 3 rfl) ?_
  refine lv_iload_n hx hb dL_law_1989 rfl (lv_at hl 0 rfl) ?_
  refine lv_iconst (v := 3) hx hb dL_law_1990 (by decide) ?_
  refine lv_iadd hx hb dL_law_1991 ?_
  refine z_topi (y := 3) (by decide +kernel) ?_
  refine va_sld hx hb hX hbl hbA hS (z_in (i := 3) (n := 6) (by decide +kernel) (by decide +kernel)) dL_law_1992 ?_
  refine z_topi (y := a3) ha3 ?_
  refine lv_aload_n hx hb dL_law_1993 rfl (lv_at hl 3 rfl) ?_
  refine lv_iload_n hx hb dL_law_1994 rfl (lv_at hl 0 rfl) ?_
  refine lv_iconst (v := 4) hx hb dL_law_1995 (by decide) ?_
  refine lv_iadd hx hb dL_law_1996 ?_
  refine z_topi (y := 4) (by decide +kernel) ?_
  refine va_sld hx hb hX hbl hbA hS (z_in (i := 4) (n := 6) (by decide +kernel) (by decide +kernel)) dL_law_1997 ?_
  refine z_topi (y := a4) ha4 ?_
  refine z_callVi (As := [.int a1, .int a2, .int a3, .int a4]) (rest := [.int (-1)]) (wr := []) ⟨hx, hb, hml, hown, hts⟩ hK hE hP hD hS hA (c_M_tally l G cA h0_m a1 a2 a3 a4 cf_m m4_m m5_m m6_m m7_m ca_m m21_m m23_m m24_m m25_m m26_m m35_m m36_m m51_m m52_m m53_m m57_m m58_m m62_m hc_m) lk_RL_235 ⟨rfl, rfl⟩ ⟨Nat.le_of_ble_eq_true rfl, Nat.le_of_ble_eq_true rfl⟩ 12 rfl rfl rfl [0, 1] [] rfl rfl (by decide) rfl hl.1 rfl (lv_room (Nat.le_of_ble_eq_true rfl)) dL_law_1998 ⟨Nat.le_of_ble_eq_true rfl, Nat.le_of_ble_eq_true rfl⟩ (fun r_3 u_4 H locs hw hP hD hS => ?_)
  have hP : va_P G vwCl [] H := hP
  have hD : va_D A [] := hD
  obtain rfl : r_3 = (-1) := hw
  refine lv_icmp_eq (tgt := 2032) hx hb dL_law_2001 (by decide) (fun _ => ?_) (fun h9 => absurd (by decide +kernel) h9)
  exact lw_exit l hx hb hr hlocks hX hbl hbA hAf (Nat.le_of_ble_eq_true rfl) (Nat.le_of_ble_eq_true rfl) hS (lv_sub hl [3, 0] rfl)
set_option maxHeartbeats 4000000 in
set_option maxRecDepth 100000 in
theorem lw_case_51 {p : Program} {e : Env} {s : State} {m : MethodId} {below : List Frame} {meth : Method} {c : Code} (l : Launch) (G : va_G) (cA : Nat → ClassId) {b : Nat} {xs : Nat → Int32} {A : Nat → Prop} (h0 : Nat) (atr : Nat) (atx : Nat) (aho : Nat) (ath : Nat) (aru : Nat) (ahr : Nat) (arr_ : Nat) (ase : Nat) (ali : Nat) (aac : Nat) (aga : Nat) (akh : Nat) (ako : Nat) (akr : Nat) (kh : Nat → Option Nat) (ko : Nat → Option Nat) (kr : Nat → Option Nat) (fb : Nat) (tb : Nat) (ub : Nat) (qa0 : Nat) (qa1 : Nat) (qa2 : Nat) (qa3 : Nat) (qa4 : Nat) (qa5 : Nat) (qa6 : Nat) (qa7 : Nat) (qa8 : Nat) (qa9 : Nat) (qa10 : Nat) (fa0 : Nat → Int64) (fa1 : Nat → Int32) (fa2 : Nat → Int32) (fa3 : Nat → Int32) (fa4 : Nat → Int32) (fa5 : Nat → Int32) (fa6 : Nat → Int32) (fa7 : Nat → Int32) (fa8 : Nat → Int32) (fa9 : Nat → Int32) (fa10 : Nat → Int32) (qb0 : Nat) (qb1 : Nat) (qb2 : Nat) (qb3 : Nat) (qb4 : Nat) (qb5 : Nat) (qb6 : Nat) (qb7 : Nat) (qb8 : Nat) (qb9 : Nat) (qb10 : Nat) (fb0 : Nat → Int64) (fb1 : Nat → Int32) (fb2 : Nat → Int32) (fb3 : Nat → Int32) (fb4 : Nat → Int32) (fb5 : Nat → Int32) (fb6 : Nat → Int32) (fb7 : Nat → Int32) (fb8 : Nat → Int32) (fb9 : Nat → Int32) (fb10 : Nat → Int32) (oh1 : Nat) (oh2 : Nat) (ra : Nat) (pa : Nat) (wa : Nat) (rb : Nat) (pb : Nat) (wb : Nat) (f1 : Nat → Int32) (f2 : Nat → Int64) (f3 : Nat → Int32) (f4 : Nat → Int64) (ka0 : Nat) (ka1 : Nat) (ka2 : Nat) (ka3 : Nat) (ka4 : Nat) (kb0 : Nat) (kb1 : Nat) (kb2 : Nat) (kb3 : Nat) (kb4 : Nat) (ga0 : Nat → Int32) (ga1 : Nat → Int32) (ga2 : Nat → Int32) (ga3 : Nat → Int32) (ga4 : Nat → Int32) (gb0 : Nat → Int32) (gb1 : Nat → Int32) (gb2 : Nat → Int32) (gb3 : Nat → Int32) (gb4 : Nat → Int32) (h0_m : Nat) (f_m : Nat → Int32) (g_m : Nat → Int64) (m4_m : Value) (m5_m : Value) (m6_m : Value) (m7_m : Value) (ca_m : Nat) (wo_m : Nat) (m23_m : Value) (m24_m : Value) (m25_m : Value) (m26_m : Value) (m35_m : Value) (m36_m : Value) (m51_m : Value) (m52_m : Value) (m53_m : Value) (m57_m : Value) (m58_m : Value) (m62_m : Value) (a1 : Int32) (a2 : Int32) (a3 : Int32) (a4 : Int32) (a5 : Int32) (ha1 : xs (1 : Int32).toNatClampNeg = a1) (ha2 : xs (2 : Int32).toNatClampNeg = a2) (ha3 : xs (3 : Int32).toNatClampNeg = a3) (ha4 : xs (4 : Int32).toNatClampNeg = a4) (ha5 : xs (5 : Int32).toNatClampNeg = a5) (hkh : kh 0 = some fb) (hko : ko 0 = some tb) (hkr : kr 0 = some ub) {H : Heap} {locs : List Loc} {ls : Array Slot} (hx : p.tables.exec = Jvm.exec) (hb : c.code = code) (hr : meth.sig.returnType = ret) (hml : c.maxLocals = 4) (hown : s.vm.findClass RL = some m.cls) (hts : ∀ w ∈ TB, w.before #[Value.ref b] s = true) (hlocks : meth.locks = false) (hX : va_X b 6 xs s s.heap) (hbl : b < s.heap.size) (hbA : ¬ A b) (hA : ∀ q, s.heap.size ≤ q → A q) (hAf : ∀ q, A q → s.heap.size ≤ q) (hK : va_K G vwCl (zTY cA) s) (hE : zEX s) (hP : va_P G vwCl [(h0, .inr (11, [.int 0, .long 0, .long 1, .ref atr, .ref atx, .ref aho, .ref ath, .ref aru, .ref ahr, .ref arr_, .ref ase, .ref ali, .ref aac, .ref aga, .int 0, .ref akh, .ref ako, .ref akr])), (aho, .inr (2, [.int 0, .ref qa0, .ref qa1, .ref qa2, .ref qa3, .int 0, .ref qa4, .int 0, .int 0, .ref qa5, .ref qa6, .int 0, .ref qa7, .ref qa8, .ref qa9, .int 8, .int 0, .ref qa10])), (qa0, .inl (cA 1, 3, .inr (.inl fa0))), (qa1, .inl (cA 0, 3, .inl fa1)), (qa2, .inl (cA 0, 3, .inl fa2)), (qa3, .inl (cA 0, 48, .inl fa3)), (qa4, .inl (cA 0, 30, .inl fa4)), (qa5, .inl (cA 0, 30, .inl fa5)), (qa6, .inl (cA 0, 3, .inl fa6)), (qa7, .inl (cA 0, 5, .inl fa7)), (qa8, .inl (cA 0, 5, .inl fa8)), (qa9, .inl (cA 0, 4, .inl fa9)), (qa10, .inl (cA 0, 12, .inl fa10)), (akh, .inl (cA 5, 3, .inr (.inr (.inr (.inr kh))))), (fb, .inr (2, [.int 0, .ref qb0, .ref qb1, .ref qb2, .ref qb3, .int 0, .ref qb4, .int 0, .int 0, .ref qb5, .ref qb6, .int 0, .ref qb7, .ref qb8, .ref qb9, .int 8, .int 0, .ref qb10])), (qb0, .inl (cA 1, 3, .inr (.inl fb0))), (qb1, .inl (cA 0, 3, .inl fb1)), (qb2, .inl (cA 0, 3, .inl fb2)), (qb3, .inl (cA 0, 48, .inl fb3)), (qb4, .inl (cA 0, 30, .inl fb4)), (qb5, .inl (cA 0, 30, .inl fb5)), (qb6, .inl (cA 0, 3, .inl fb6)), (qb7, .inl (cA 0, 5, .inl fb7)), (qb8, .inl (cA 0, 5, .inl fb8)), (qb9, .inl (cA 0, 4, .inl fb9)), (qb10, .inl (cA 0, 12, .inl fb10)), (ath, .inr (9, [.ref oh1, .int (-1), .int 0, .ref ra, .ref pa, .ref wa])), (ako, .inl (cA 6, 3, .inr (.inr (.inr (.inr ko))))), (tb, .inr (9, [.ref oh2, .int (-1), .int 0, .ref rb, .ref pb, .ref wb])), (ra, .inl (cA 0, 10, .inl f1)), (pa, .inl (cA 1, 20, .inr (.inl f2))), (rb, .inl (cA 0, 10, .inl f3)), (pb, .inl (cA 1, 20, .inr (.inl f4))), (aru, .inr (5, [.int 0, .int 0, .int 0, .ref ka0, .ref ka1, .ref ka2, .ref ka3, .ref ka4])), (akr, .inl (cA 7, 3, .inr (.inr (.inr (.inr kr))))), (ub, .inr (5, [.int 0, .int 0, .int 0, .ref kb0, .ref kb1, .ref kb2, .ref kb3, .ref kb4])), (ka0, .inl (cA 0, 60, .inl ga0)), (ka1, .inl (cA 0, 60, .inl ga1)), (ka2, .inl (cA 0, 60, .inl ga2)), (ka3, .inl (cA 0, 60, .inl ga3)), (ka4, .inl (cA 0, 60, .inl ga4)), (kb0, .inl (cA 0, 60, .inl gb0)), (kb1, .inl (cA 0, 60, .inl gb1)), (kb2, .inl (cA 0, 60, .inl gb2)), (kb3, .inl (cA 0, 60, .inl gb3)), (kb4, .inl (cA 0, 60, .inl gb4)), (h0_m, .inr (12, [.int 0, .int 0, .long 0, .long 1, m4_m, m5_m, m6_m, m7_m, .int 0, .int 0, .int (-1), .int (-1), .int 0, .int 0, .int 0, .int 0, .int 0, .int 0, .int 0, .long 0, .ref ca_m, .ref wo_m, .int 0, m23_m, m24_m, m25_m, m26_m, .int 0, .int 0, .int 0, .int 0, .int 0, .int 0, .long 0, .long 0, m35_m, m36_m, .int 0, .int 0, .int 0, .int 0, .int 0, .int 0, .int 0, .int 0, .int 0, .int 0, .int 0, .int 0, .int 0, .int 0, m51_m, m52_m, m53_m, .int 0, .int 0, .int 0, m57_m, m58_m, .int 0, .long 0, .long 0, m62_m, .int 0, .int 0])), (ca_m, .inl (cA 0, 1825, .inl f_m)), (wo_m, .inl (cA 1, 105, .inr (.inl g_m)))] H) (hD : va_D A [(h0, .inr (11, [.int 0, .long 0, .long 1, .ref atr, .ref atx, .ref aho, .ref ath, .ref aru, .ref ahr, .ref arr_, .ref ase, .ref ali, .ref aac, .ref aga, .int 0, .ref akh, .ref ako, .ref akr])), (aho, .inr (2, [.int 0, .ref qa0, .ref qa1, .ref qa2, .ref qa3, .int 0, .ref qa4, .int 0, .int 0, .ref qa5, .ref qa6, .int 0, .ref qa7, .ref qa8, .ref qa9, .int 8, .int 0, .ref qa10])), (qa0, .inl (cA 1, 3, .inr (.inl fa0))), (qa1, .inl (cA 0, 3, .inl fa1)), (qa2, .inl (cA 0, 3, .inl fa2)), (qa3, .inl (cA 0, 48, .inl fa3)), (qa4, .inl (cA 0, 30, .inl fa4)), (qa5, .inl (cA 0, 30, .inl fa5)), (qa6, .inl (cA 0, 3, .inl fa6)), (qa7, .inl (cA 0, 5, .inl fa7)), (qa8, .inl (cA 0, 5, .inl fa8)), (qa9, .inl (cA 0, 4, .inl fa9)), (qa10, .inl (cA 0, 12, .inl fa10)), (akh, .inl (cA 5, 3, .inr (.inr (.inr (.inr kh))))), (fb, .inr (2, [.int 0, .ref qb0, .ref qb1, .ref qb2, .ref qb3, .int 0, .ref qb4, .int 0, .int 0, .ref qb5, .ref qb6, .int 0, .ref qb7, .ref qb8, .ref qb9, .int 8, .int 0, .ref qb10])), (qb0, .inl (cA 1, 3, .inr (.inl fb0))), (qb1, .inl (cA 0, 3, .inl fb1)), (qb2, .inl (cA 0, 3, .inl fb2)), (qb3, .inl (cA 0, 48, .inl fb3)), (qb4, .inl (cA 0, 30, .inl fb4)), (qb5, .inl (cA 0, 30, .inl fb5)), (qb6, .inl (cA 0, 3, .inl fb6)), (qb7, .inl (cA 0, 5, .inl fb7)), (qb8, .inl (cA 0, 5, .inl fb8)), (qb9, .inl (cA 0, 4, .inl fb9)), (qb10, .inl (cA 0, 12, .inl fb10)), (ath, .inr (9, [.ref oh1, .int (-1), .int 0, .ref ra, .ref pa, .ref wa])), (ako, .inl (cA 6, 3, .inr (.inr (.inr (.inr ko))))), (tb, .inr (9, [.ref oh2, .int (-1), .int 0, .ref rb, .ref pb, .ref wb])), (ra, .inl (cA 0, 10, .inl f1)), (pa, .inl (cA 1, 20, .inr (.inl f2))), (rb, .inl (cA 0, 10, .inl f3)), (pb, .inl (cA 1, 20, .inr (.inl f4))), (aru, .inr (5, [.int 0, .int 0, .int 0, .ref ka0, .ref ka1, .ref ka2, .ref ka3, .ref ka4])), (akr, .inl (cA 7, 3, .inr (.inr (.inr (.inr kr))))), (ub, .inr (5, [.int 0, .int 0, .int 0, .ref kb0, .ref kb1, .ref kb2, .ref kb3, .ref kb4])), (ka0, .inl (cA 0, 60, .inl ga0)), (ka1, .inl (cA 0, 60, .inl ga1)), (ka2, .inl (cA 0, 60, .inl ga2)), (ka3, .inl (cA 0, 60, .inl ga3)), (ka4, .inl (cA 0, 60, .inl ga4)), (kb0, .inl (cA 0, 60, .inl gb0)), (kb1, .inl (cA 0, 60, .inl gb1)), (kb2, .inl (cA 0, 60, .inl gb2)), (kb3, .inl (cA 0, 60, .inl gb3)), (kb4, .inl (cA 0, 60, .inl gb4)), (h0_m, .inr (12, [.int 0, .int 0, .long 0, .long 1, m4_m, m5_m, m6_m, m7_m, .int 0, .int 0, .int (-1), .int (-1), .int 0, .int 0, .int 0, .int 0, .int 0, .int 0, .int 0, .long 0, .ref ca_m, .ref wo_m, .int 0, m23_m, m24_m, m25_m, m26_m, .int 0, .int 0, .int 0, .int 0, .int 0, .int 0, .long 0, .long 0, m35_m, m36_m, .int 0, .int 0, .int 0, .int 0, .int 0, .int 0, .int 0, .int 0, .int 0, .int 0, .int 0, .int 0, .int 0, .int 0, m51_m, m52_m, m53_m, .int 0, .int 0, .int 0, m57_m, m58_m, .int 0, .long 0, .long 0, m62_m, .int 0, .int 0])), (ca_m, .inl (cA 0, 1825, .inl f_m)), (wo_m, .inl (cA 1, 105, .inr (.inl g_m)))]) (hS : va_S A s.heap H locs) (hl : lv_has ls 4 [(3, .int 0), (2, .ref h0_m), (1, .ref h0), (0, .ref b)]) : W p l e room_1 s m #[Value.ref b] below meth c H locs 166 7482 (lw_Z below #[Value.ref b] s) (F0 m 2006 ls []) := by
  refine lv_aload_n hx hb dL_law_2006 rfl (lv_at hl 2 rfl) ?_
  refine z_callVi (As := []) (rest := []) (wr := [(h0_m, .inr (12, [.int 0, .int 0, .long 0, .long 1, m4_m, m5_m, m6_m, m7_m, .int 0, .int 0, .int (-1), .int (-1), .int 0, .int 0, .int 0, .int 0, .int 0, .int 0, .int 0, .long 0, .ref ca_m, .ref wo_m, .int 0, m23_m, m24_m, m25_m, m26_m, .int 0, .int 0, .int 0, .int 0, .int 0, .int 0, .long 0, .long 0, m35_m, m36_m, .int 0, .int 0, .int 0, .int 0, .int 0, .int 0, .int 0, .int 0, .int 0, .int 0, .int 0, .int 0, .int 0, .int 0, m51_m, m52_m, m53_m, .int 0, .int 0, .int 0, m57_m, m58_m, .int 0, .long 0, .long 0, m62_m, .int 0, .int 0])), (ca_m, .inl (cA 0, 1825, .inl f_m)), (wo_m, .inl (cA 1, 105, .inr (.inl g_m)))]) ⟨hx, hb, hml, hown, hts⟩ hK hE hP hD hS hA (c_DR_mark l G cA h0 atr atx aho ath aru ahr arr_ ase ali aac aga akh ako akr kh ko kr fb tb ub qa0 qa1 qa2 qa3 qa4 qa5 qa6 qa7 qa8 qa9 qa10 fa0 fa1 fa2 fa3 fa4 fa5 fa6 fa7 fa8 fa9 fa10 qb0 qb1 qb2 qb3 qb4 qb5 qb6 qb7 qb8 qb9 qb10 fb0 fb1 fb2 fb3 fb4 fb5 fb6 fb7 fb8 fb9 fb10 oh1 oh2 ra pa wa rb pb wb f1 f2 f3 f4 ka0 ka1 ka2 ka3 ka4 kb0 kb1 kb2 kb3 kb4 ga0 ga1 ga2 ga3 ga4 gb0 gb1 gb2 gb3 gb4 hkh hko hkr) lk_RL_236 ⟨rfl, rfl⟩ ⟨Nat.le_of_ble_eq_true rfl, Nat.le_of_ble_eq_true rfl⟩ 11 rfl rfl rfl [0, 1, 2, 3, 4, 5, 6, 7, 8, 9, 10, 11, 12, 13, 14, 15, 16, 17, 18, 19, 20, 21, 22, 23, 24, 25, 26, 27, 28, 29, 30, 31, 32, 33, 34, 35, 36, 37, 38, 39, 40, 41, 42, 43, 44, 45] [46, 47, 48] rfl rfl (by decide) rfl hl.1 rfl (lv_room (Nat.le_of_ble_eq_true rfl)) dL_law_2007 ⟨Nat.le_of_ble_eq_true rfl, Nat.le_of_ble_eq_true rfl⟩ (fun r_1 u_2 H locs hw hP hD hS => ?_)
  have hP : va_P G vwCl [(h0_m, .inr (12, [.int 0, .int 0, .long 0, .long 1, m4_m, m5_m, m6_m, m7_m, .int 0, .int 0, .int (-1), .int (-1), .int 0, .int 0, .int 0, .int 0, .int 0, .int 0, .int 0, .long 0, .ref ca_m, .ref wo_m, .int 0, m23_m, m24_m, m25_m, m26_m, .int 0, .int 0, .int 0, .int 0, .int 0, .int 0, .long 0, .long 0, m35_m, m36_m, .int 0, .int 0, .int 0, .int 0, .int 0, .int 0, .int 0, .int 0, .int 0, .int 0, .int 0, .int 0, .int 0, .int 0, m51_m, m52_m, m53_m, .int 0, .int 0, .int 0, m57_m, m58_m, .int 0, .long 0, .long 0, m62_m, .int 0, .int 0])), (ca_m, .inl (cA 0, 1825, .inl f_m)), (wo_m, .inl (cA 1, 105, .inr (.inl g_m)))] H := hP
  have hD : va_D A [(h0_m, .inr (12, [.int 0, .int 0, .long 0, .long 1, m4_m, m5_m, m6_m, m7_m, .int 0, .int 0, .int (-1), .int (-1), .int 0, .int 0, .int 0, .int 0, .int 0, .int 0, .int 0, .long 0, .ref ca_m, .ref wo_m, .int 0, m23_m, m24_m, m25_m, m26_m, .int 0, .int 0, .int 0, .int 0, .int 0, .int 0, .long 0, .long 0, m35_m, m36_m, .int 0, .int 0, .int 0, .int 0, .int 0, .int 0, .int 0, .int 0, .int 0, .int 0, .int 0, .int 0, .int 0, .int 0, m51_m, m52_m, m53_m, .int 0, .int 0, .int 0, m57_m, m58_m, .int 0, .long 0, .long 0, m62_m, .int 0, .int 0])), (ca_m, .inl (cA 0, 1825, .inl f_m)), (wo_m, .inl (cA 1, 105, .inr (.inl g_m)))] := hD
  obtain rfl : r_1 = 1 := hw
  refine lv_aload_n hx hb dL_law_2010 rfl (lv_at hl 1 rfl) ?_
  refine z_callVi (As := []) (rest := [.int 1]) (wr := []) ⟨hx, hb, hml, hown, hts⟩ hK hE hP hD hS hA (c_M_mark l G cA h0_m f_m g_m m4_m m5_m m6_m m7_m ca_m wo_m m23_m m24_m m25_m m26_m m35_m m36_m m51_m m52_m m53_m m57_m m58_m m62_m) lk_RL_239 ⟨rfl, rfl⟩ ⟨Nat.le_of_ble_eq_true rfl, Nat.le_of_ble_eq_true rfl⟩ 12 rfl rfl rfl [0, 1, 2] [] rfl rfl (by decide) rfl hl.1 rfl (lv_room (Nat.le_of_ble_eq_true rfl)) dL_law_2011 ⟨Nat.le_of_ble_eq_true rfl, Nat.le_of_ble_eq_true rfl⟩ (fun r_3 u_4 H locs hw hP hD hS => ?_)
  have hP : va_P G vwCl [] H := hP
  have hD : va_D A [] := hD
  obtain rfl : r_3 = 1 := hw
  refine lv_icmp_eq (tgt := 2032) hx hb dL_law_2014 (by decide) (fun _ => ?_) (fun h9 => absurd (by decide +kernel) h9)
  exact lw_exit l hx hb hr hlocks hX hbl hbA hAf (Nat.le_of_ble_eq_true rfl) (Nat.le_of_ble_eq_true rfl) hS (lv_sub hl [3, 0] rfl)
set_option maxHeartbeats 4000000 in
set_option maxRecDepth 100000 in
theorem lw_case_52 {p : Program} {e : Env} {s : State} {m : MethodId} {below : List Frame} {meth : Method} {c : Code} (l : Launch) (G : va_G) (cA : Nat → ClassId) {b : Nat} {xs : Nat → Int32} {A : Nat → Prop} (h0 : Nat) (atr : Nat) (atx : Nat) (aho : Nat) (ath : Nat) (aru : Nat) (ahr : Nat) (arr_ : Nat) (ase : Nat) (ali : Nat) (aac : Nat) (aga : Nat) (akh : Nat) (ako : Nat) (akr : Nat) (h0_m : Nat) (m4_m : Value) (m5_m : Value) (m6_m : Value) (m7_m : Value) (m20_m : Value) (m21_m : Value) (m23_m : Value) (m24_m : Value) (m25_m : Value) (m26_m : Value) (m35_m : Value) (m36_m : Value) (m51_m : Value) (m52_m : Value) (m53_m : Value) (m57_m : Value) (m58_m : Value) (m62_m : Value) (a1 : Int32) (a2 : Int32) (a3 : Int32) (a4 : Int32) (a5 : Int32) (ha1 : xs (1 : Int32).toNatClampNeg = a1) (ha2 : xs (2 : Int32).toNatClampNeg = a2) (ha3 : xs (3 : Int32).toNatClampNeg = a3) (ha4 : xs (4 : Int32).toNatClampNeg = a4) (ha5 : xs (5 : Int32).toNatClampNeg = a5) {H : Heap} {locs : List Loc} {ls : Array Slot} (hx : p.tables.exec = Jvm.exec) (hb : c.code = code) (hr : meth.sig.returnType = ret) (hml : c.maxLocals = 4) (hown : s.vm.findClass RL = some m.cls) (hts : ∀ w ∈ TB, w.before #[Value.ref b] s = true) (hlocks : meth.locks = false) (hX : va_X b 6 xs s s.heap) (hbl : b < s.heap.size) (hbA : ¬ A b) (hA : ∀ q, s.heap.size ≤ q → A q) (hAf : ∀ q, A q → s.heap.size ≤ q) (hK : va_K G vwCl (zTY cA) s) (hE : zEX s) (hP : va_P G vwCl [(h0, .inr (11, [.int 0, .long 0, .long 1, .ref atr, .ref atx, .ref aho, .ref ath, .ref aru, .ref ahr, .ref arr_, .ref ase, .ref ali, .ref aac, .ref aga, .int 0, .ref akh, .ref ako, .ref akr])), (h0_m, .inr (12, [.int 0, .int 0, .long 0, .long 1, m4_m, m5_m, m6_m, m7_m, .int 0, .int 0, .int (-1), .int (-1), .int 0, .int 0, .int 0, .int 0, .int 0, .int 0, .int 0, .long 0, m20_m, m21_m, .int 0, m23_m, m24_m, m25_m, m26_m, .int 0, .int 0, .int 0, .int 0, .int 0, .int 0, .long 0, .long 0, m35_m, m36_m, .int 0, .int 0, .int 0, .int 0, .int 0, .int 0, .int 0, .int 0, .int 0, .int 0, .int 0, .int 0, .int 0, .int 0, m51_m, m52_m, m53_m, .int 0, .int 0, .int 0, m57_m, m58_m, .int 0, .long 0, .long 0, m62_m, .int 0, .int 0]))] H) (hD : va_D A [(h0, .inr (11, [.int 0, .long 0, .long 1, .ref atr, .ref atx, .ref aho, .ref ath, .ref aru, .ref ahr, .ref arr_, .ref ase, .ref ali, .ref aac, .ref aga, .int 0, .ref akh, .ref ako, .ref akr])), (h0_m, .inr (12, [.int 0, .int 0, .long 0, .long 1, m4_m, m5_m, m6_m, m7_m, .int 0, .int 0, .int (-1), .int (-1), .int 0, .int 0, .int 0, .int 0, .int 0, .int 0, .int 0, .long 0, m20_m, m21_m, .int 0, m23_m, m24_m, m25_m, m26_m, .int 0, .int 0, .int 0, .int 0, .int 0, .int 0, .long 0, .long 0, m35_m, m36_m, .int 0, .int 0, .int 0, .int 0, .int 0, .int 0, .int 0, .int 0, .int 0, .int 0, .int 0, .int 0, .int 0, .int 0, m51_m, m52_m, m53_m, .int 0, .int 0, .int 0, m57_m, m58_m, .int 0, .long 0, .long 0, m62_m, .int 0, .int 0]))]) (hS : va_S A s.heap H locs) (hl : lv_has ls 4 [(3, .int 0), (2, .ref h0_m), (1, .ref h0), (0, .ref b)]) : W p l e room_1 s m #[Value.ref b] below meth c H locs 166 7482 (lw_Z below #[Value.ref b] s) (F0 m 2019 ls []) := by
  refine lv_aload_n hx hb dL_law_2019 rfl (lv_at hl 2 rfl) ?_
  refine z_callVi (As := []) (rest := []) (wr := [(h0_m, .inr (12, [.int 0, .int 0, .long 0, .long 1, m4_m, m5_m, m6_m, m7_m, .int 0, .int 0, .int (-1), .int (-1), .int 0, .int 0, .int 0, .int 0, .int 0, .int 0, .int 0, .long 0, m20_m, m21_m, .int 0, m23_m, m24_m, m25_m, m26_m, .int 0, .int 0, .int 0, .int 0, .int 0, .int 0, .long 0, .long 0, m35_m, m36_m, .int 0, .int 0, .int 0, .int 0, .int 0, .int 0, .int 0, .int 0, .int 0, .int 0, .int 0, .int 0, .int 0, .int 0, m51_m, m52_m, m53_m, .int 0, .int 0, .int 0, m57_m, m58_m, .int 0, .long 0, .long 0, m62_m, .int 0, .int 0]))]) ⟨hx, hb, hml, hown, hts⟩ hK hE hP hD hS hA (c_DR_back l G cA h0 atr atx aho ath aru ahr arr_ ase ali aac aga akh ako akr) lk_RL_240 ⟨rfl, rfl⟩ ⟨Nat.le_of_ble_eq_true rfl, Nat.le_of_ble_eq_true rfl⟩ 11 rfl rfl rfl [0] [1] rfl rfl (by decide) rfl hl.1 rfl (lv_room (Nat.le_of_ble_eq_true rfl)) dL_law_2020 ⟨Nat.le_of_ble_eq_true rfl, Nat.le_of_ble_eq_true rfl⟩ (fun r_1 u_2 H locs hw hP hD hS => ?_)
  have hP : va_P G vwCl [(h0_m, .inr (12, [.int 0, .int 0, .long 0, .long 1, m4_m, m5_m, m6_m, m7_m, .int 0, .int 0, .int (-1), .int (-1), .int 0, .int 0, .int 0, .int 0, .int 0, .int 0, .int 0, .long 0, m20_m, m21_m, .int 0, m23_m, m24_m, m25_m, m26_m, .int 0, .int 0, .int 0, .int 0, .int 0, .int 0, .long 0, .long 0, m35_m, m36_m, .int 0, .int 0, .int 0, .int 0, .int 0, .int 0, .int 0, .int 0, .int 0, .int 0, .int 0, .int 0, .int 0, .int 0, m51_m, m52_m, m53_m, .int 0, .int 0, .int 0, m57_m, m58_m, .int 0, .long 0, .long 0, m62_m, .int 0, .int 0]))] H := hP
  have hD : va_D A [(h0_m, .inr (12, [.int 0, .int 0, .long 0, .long 1, m4_m, m5_m, m6_m, m7_m, .int 0, .int 0, .int (-1), .int (-1), .int 0, .int 0, .int 0, .int 0, .int 0, .int 0, .int 0, .long 0, m20_m, m21_m, .int 0, m23_m, m24_m, m25_m, m26_m, .int 0, .int 0, .int 0, .int 0, .int 0, .int 0, .long 0, .long 0, m35_m, m36_m, .int 0, .int 0, .int 0, .int 0, .int 0, .int 0, .int 0, .int 0, .int 0, .int 0, .int 0, .int 0, .int 0, .int 0, m51_m, m52_m, m53_m, .int 0, .int 0, .int 0, m57_m, m58_m, .int 0, .long 0, .long 0, m62_m, .int 0, .int 0]))] := hD
  obtain rfl : r_1 = (-1) := hw
  refine lv_aload_n hx hb dL_law_2023 rfl (lv_at hl 1 rfl) ?_
  refine z_callVi (As := []) (rest := [.int (-1)]) (wr := []) ⟨hx, hb, hml, hown, hts⟩ hK hE hP hD hS hA (c_M_back l G cA h0_m m4_m m5_m m6_m m7_m m20_m m21_m m23_m m24_m m25_m m26_m m35_m m36_m m51_m m52_m m53_m m57_m m58_m m62_m) lk_RL_243 ⟨rfl, rfl⟩ ⟨Nat.le_of_ble_eq_true rfl, Nat.le_of_ble_eq_true rfl⟩ 12 rfl rfl rfl [0] [] rfl rfl (by decide) rfl hl.1 rfl (lv_room (Nat.le_of_ble_eq_true rfl)) dL_law_2024 ⟨Nat.le_of_ble_eq_true rfl, Nat.le_of_ble_eq_true rfl⟩ (fun r_3 u_4 H locs hw hP hD hS => ?_)
  have hP : va_P G vwCl [] H := hP
  have hD : va_D A [] := hD
  obtain rfl : r_3 = (-1) := hw
  refine lv_icmp_eq (tgt := 2032) hx hb dL_law_2027 (by decide) (fun _ => ?_) (fun h9 => absurd (by decide +kernel) h9)
  exact lw_exit l hx hb hr hlocks hX hbl hbA hAf (Nat.le_of_ble_eq_true rfl) (Nat.le_of_ble_eq_true rfl) hS (lv_sub hl [3, 0] rfl)
