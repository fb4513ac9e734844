set_option maxHeartbeats 4000000 in
set_option maxRecDepth 100000 in
theorem lw_loop {p : Program} {e : Env} {s : State} {m : MethodId} {below : List Frame} {meth : Method} {c : Code} (l : Launch) (G : va_G) {cA : zCA} {x0 m0 : Nat} {ad am : Nat → Nat} {tf kh ko kr : Nat → Option Nat} {b L : Nat} {xs : Nat → Int32} {A : Nat → Prop} (hx : p.tables.exec = Jvm.exec) (hb : c.code = code) (hml : c.maxLocals = 4) (hown : s.vm.findClass RL = some m.cls) (hts : ∀ w ∈ TB, w.before #[Value.ref b] s = true) (hX : va_X b L xs s s.heap) (hbl : b < s.heap.size) (hbA : ¬ A b) (hA : ∀ q, s.heap.size ≤ q → A q) (hK : va_K G vwCl (zTY cA) s) (hE : zEX s) (hT : zST cA A s s.heap) (hR : zXR ad tf kh ko kr) (hL : L ≤ 3072) (hr : meth.sig.returnType = ret) (hlocks : meth.locks = false) (hAf : ∀ q, A q → s.heap.size ≤ q) : ∀ (n j : Nat) (x y : zXS) (H : Heap) (locs : List Loc) (ls : Array Slot), L < j + n → j ≤ 3072 → zXH x → zMH y → zRl x y → va_P G vwCl (zXW cA x0 ad tf kh ko kr x ++ zMW cA m0 am y) H → va_D A (zXW cA x0 ad tf kh ko kr x ++ zMW cA m0 am y) → va_S A s.heap H locs → lv_has ls 4 [(3, .int (nI j)), (2, .ref m0), (1, .ref x0), (0, .ref b)] → W p l e room_1 s m #[Value.ref b] below meth c H locs 166 7482 (lw_Z below #[Value.ref b] s) (F0 m 18 ls []) := by
  intro n
  induction n with
  | zero =>
    intro j x y H locs ls hn hj hxx hyy hrr hP hD hS hl
    skip
    refine lv_iload_n hx hb dL_law_18 rfl (lv_at hl 0 rfl) ?_
    refine lv_aload_n hx hb dL_law_19 rfl (lv_at hl 3 rfl) ?_
    refine va_slen hx hb hX hbl hbA hS dL_law_20 ?_
    refine lv_bipush (v := 6) hx hb dL_law_21 (by decide) ?_
    refine lv_isub hx hb dL_law_23 ?_
    refine lv_icmp_gt (tgt := 2035) hx hb dL_law_24 (by decide) (fun _ => ?_) (fun h9 => absurd (lw_ge hL hj h9) (by omega))
    exact lw_end l hx hb hr hlocks hAf (Nat.le_of_ble_eq_true rfl) (Nat.le_of_ble_eq_true rfl) hS
  | succ n ih =>
    intro j x y H locs ls hn hj hxx hyy hrr hP hD hS hl
    skip
    refine lv_iload_n hx hb dL_law_18 rfl (lv_at hl 0 rfl) ?_
    refine lv_aload_n hx hb dL_law_19 rfl (lv_at hl 3 rfl) ?_
    refine va_slen hx hb hX hbl hbA hS dL_law_20 ?_
    refine lv_bipush (v := 6) hx hb dL_law_21 (by decide) ?_
    refine lv_isub hx hb dL_law_23 ?_
    refine lv_icmp_gt (tgt := 2035) hx hb dL_law_24 (by decide) (fun _ => ?_) (fun h9 => ?_)
    · exact lw_end l hx hb hr hlocks hAf (Nat.le_of_ble_eq_true rfl) (Nat.le_of_ble_eq_true rfl) hS
    have hj6 := lw_ge hL hj h9
    have hin : ∀ (k : Int32) (n : Nat), k.toInt = (n : Int) → n < 6 → vp_in (nI j + k) L := fun k n hk hn => lw_in hL hj6 hk hn
    have kk : ∀ (x1 y1 : zXS) (H : Heap) (locs : List Loc) (ls : Array Slot), zXH x1 → zMH y1 → zRl x1 y1 → va_P G vwCl (zXW cA x0 ad tf kh ko kr x1 ++ zMW cA m0 am y1) H → va_D A (zXW cA x0 ad tf kh ko kr x1 ++ zMW cA m0 am y1) → va_S A s.heap H locs → lv_has ls 4 [(3, .int (nI j)), (2, .ref m0), (1, .ref x0), (0, .ref b)] → W p l e room_1 s m #[Value.ref b] below meth c H locs 166 7482 (lw_Z below #[Value.ref b] s) (F0 m 2029 ls []) := by
      intro x1 y1 H locs ls hxx hyy hrr hP hD hS hl
      refine lv_iinc (v := nI (j + 6)) (lv' := [(3, .int (nI (j + 6))), (2, .ref m0), (1, .ref x0), (0, .ref b)]) hx hb dL_law_2029 hl (k := 0) rfl (by rw [show Int32.ofInt 6 = nI 6 by decide +kernel]; exact nI_add j 6) (by decide) rfl (fun ls hl => ?_)
      refine lv_goto (tgt := 18) hx hb dL_law_2032 (by decide) ?_
      exact ih (j + 6) x1 y1 H locs ls (by omega) (by omega) hxx hyy hrr hP hD hS hl
    refine lv_aload_n hx hb dL_law_27 rfl (lv_at hl 3 rfl) ?_
    refine lv_iload_n hx hb dL_law_28 rfl (lv_at hl 0 rfl) ?_
    refine va_sld hx hb hX hbl hbA hS (lw_in0 hL hj6) dL_law_29 ?_
    refine lv_bipush (v := 63) hx hb dL_law_30 (by decide) ?_
    refine lv_iand hx hb dL_law_32 ?_
    obtain ⟨t, ht, et⟩ := pk_andE (xs (nI j).toNatClampNeg) (m := 63) 6 (by decide +kernel)
    refine z_topi (y := nI t) et ?_
    rcases (show t = 0 ∨ t = 1 ∨ t = 2 ∨ t = 3 ∨ t = 4 ∨ t = 5 ∨ t = 6 ∨ t = 7 ∨ t = 8 ∨ t = 9 ∨ t = 10 ∨ t = 11 ∨ t = 12 ∨ t = 13 ∨ t = 14 ∨ t = 15 ∨ t = 16 ∨ t = 17 ∨ t = 18 ∨ t = 19 ∨ t = 20 ∨ t = 21 ∨ t = 22 ∨ t = 23 ∨ t = 24 ∨ t = 25 ∨ t = 26 ∨ t = 27 ∨ t = 28 ∨ t = 29 ∨ t = 30 ∨ t = 31 ∨ t = 32 ∨ t = 33 ∨ t = 34 ∨ t = 35 ∨ t = 36 ∨ t = 37 ∨ t = 38 ∨ t = 39 ∨ t = 40 ∨ t = 41 ∨ t = 42 ∨ t = 43 ∨ t = 44 ∨ t = 45 ∨ t = 46 ∨ t = 47 ∨ t = 48 ∨ t = 49 ∨ t = 50 ∨ t = 51 ∨ t = 52 ∨ 53 ≤ t by omega) with rfl | rfl | rfl | rfl | rfl | rfl | rfl | rfl | rfl | rfl | rfl | rfl | rfl | rfl | rfl | rfl | rfl | rfl | rfl | rfl | rfl | rfl | rfl | rfl | rfl | rfl | rfl | rfl | rfl | rfl | rfl | rfl | rfl | rfl | rfl | rfl | rfl | rfl | rfl | rfl | rfl | rfl | rfl | rfl | rfl | rfl | rfl | rfl | rfl | rfl | rfl | rfl | rfl | ht2
    · refine lv_tableIn (off := 227) (tgt := 260) hx hb dL_law_33 (by decide +kernel) (by decide +kernel) (by decide +kernel) (by decide) ?_
      exact lw_case_0 l G x y (nI j) hx hb hml hown hts hX hbl hbA hA hK hE hT hR hin hxx hyy hrr hP hD hS hl kk
    · refine lv_tableIn (off := 240) (tgt := 273) hx hb dL_law_33 (by decide +kernel) (by decide +kernel) (by decide +kernel) (by decide) ?_
      exact lw_case_1 l G x y (nI j) hx hb hml hown hts hX hbl hbA hA hK hE hT hR hin hxx hyy hrr hP hD hS hl kk
    · refine lv_tableIn (off := 253) (tgt := 286) hx hb dL_law_33 (by decide +kernel) (by decide +kernel) (by decide +kernel) (by decide) ?_
      exact lw_case_2 l G x y (nI j) hx hb hml hown hts hX hbl hbA hA hK hE hT hR hin hxx hyy hrr hP hD hS hl kk
    · refine lv_tableIn (off := 266) (tgt := 299) hx hb dL_law_33 (by decide +kernel) (by decide +kernel) (by decide +kernel) (by decide) ?_
      exact lw_case_3 l G x y (nI j) hx hb hml hown hts hX hbl hbA hA hK hE hT hR hin hxx hyy hrr hP hD hS hl kk
    · refine lv_tableIn (off := 309) (tgt := 342) hx hb dL_law_33 (by decide +kernel) (by decide +kernel) (by decide +kernel) (by decide) ?_
      exact lw_case_4 l G x y (nI j) hx hb hml hown hts hX hbl hbA hA hK hE hT hR hin hxx hyy hrr hP hD hS hl kk
    · refine lv_tableIn (off := 382) (tgt := 415) hx hb dL_law_33 (by decide +kernel) (by decide +kernel) (by decide +kernel) (by decide) ?_
      exact lw_case_5 l G x y (nI j) hx hb hml hown hts hX hbl hbA hA hK hE hT hR hin hxx hyy hrr hP hD hS hl kk
    · refine lv_tableIn (off := 415) (tgt := 448) hx hb dL_law_33 (by decide +kernel) (by decide +kernel) (by decide +kernel) (by decide) ?_
      exact lw_case_6 l G x y (nI j) hx hb hml hown hts hX hbl hbA hA hK hE hT hR hin hxx hyy hrr hP hD hS hl kk
    · refine lv_tableIn (off := 478) (tgt := 511) hx hb dL_law_33 (by decide +kernel) (by decide +kernel) (by decide +kernel) (by decide) ?_
      exact lw_case_7 l G x y (nI j) hx hb hml hown hts hX hbl hbA hA hK hE hT hR hin hxx hyy hrr hP hD hS hl kk
    · refine lv_tableIn (off := 541) (tgt := 574) hx hb dL_law_33 (by decide +kernel) (by decide +kernel) (by decide +kernel) (by decide) ?_
      exact lw_case_8 l G x y (nI j) hx hb hml hown hts hX hbl hbA hA hK hE hT hR hin hxx hyy hrr hP hD hS hl kk
    · refine lv_tableIn (off := 564) (tgt := 597) hx hb dL_law_33 (by decide +kernel) (by decide +kernel) (by decide +kernel) (by decide) ?_
      exact lw_case_9 l G x y (nI j) hx hb hml hown hts hX hbl hbA hA hK hE hT hR hin hxx hyy hrr hP hD hS hl kk
    · refine lv_tableIn (off := 587) (tgt := 620) hx hb dL_law_33 (by decide +kernel) (by decide +kernel) (by decide +kernel) (by decide) ?_
      exact lw_case_10 l G x y (nI j) hx hb hml hown hts hX hbl hbA hA hK hE hT hR hin hxx hyy hrr hP hD hS hl kk
    · refine lv_tableIn (off := 610) (tgt := 643) hx hb dL_law_33 (by decide +kernel) (by decide +kernel) (by decide +kernel) (by decide) ?_
      exact lw_case_11 l G x y (nI j) hx hb hml hown hts hX hbl hbA hA hK hE hT hR hin hxx hyy hrr hP hD hS hl kk
    · refine lv_tableIn (off := 633) (tgt := 666) hx hb dL_law_33 (by decide +kernel) (by decide +kernel) (by decide +kernel) (by decide) ?_
      exact lw_case_12 l G x y (nI j) hx hb hml hown hts hX hbl hbA hA hK hE hT hR hin hxx hyy hrr hP hD hS hl kk
    · refine lv_tableIn (off := 666) (tgt := 699) hx hb dL_law_33 (by decide +kernel) (by decide +kernel) (by decide +kernel) (by decide) ?_
      exact lw_case_13 l G x y (nI j) hx hb hml hown hts hX hbl hbA hA hK hE hT hR hin hxx hyy hrr hP hD hS hl kk
    · refine lv_tableIn (off := 709) (tgt := 742) hx hb dL_law_33 (by decide +kernel) (by decide +kernel) (by decide +kernel) (by decide) ?_
      exact lw_case_14 l G x y (nI j) hx hb hml hown hts hX hbl hbA hA hK hE hT hR hin hxx hyy hrr hP hD hS hl kk
    · refine lv_tableIn (off := 742) (tgt := 775) hx hb dL_law_33 (by decide +kernel) (by decide +kernel) (by decide +kernel) (by decide) ?_
      exact lw_case_15 l G x y (nI j) hx hb hml hown hts hX hbl hbA hA hK hE hT hR hin hxx hyy hrr hP hD hS hl kk
    · refine lv_tableIn (off := 775) (tgt := 808) hx hb dL_law_33 (by decide +kernel) (by decide +kernel) (by decide +kernel) (by decide) ?_
      exact lw_case_16 l G x y (nI j) hx hb hml hown hts hX hbl hbA hA hK hE hT hR hin hxx hyy hrr hP hD hS hl kk
    · refine lv_tableIn (off := 808) (tgt := 841) hx hb dL_law_33 (by decide +kernel) (by decide +kernel) (by decide +kernel) (by decide) ?_
      exact lw_case_17 l G x y (nI j) hx hb hml hown hts hX hbl hbA hA hK hE hT hR hin hxx hyy hrr hP hD hS hl kk
    · refine lv_tableIn (off := 841) (tgt := 874) hx hb dL_law_33 (by decide +kernel) (by decide +kernel) (by decide +kernel) (by decide) ?_
      exact lw_case_18 l G x y (nI j) hx hb hml hown hts hX hbl hbA hA hK hE hT hR hin hxx hyy hrr hP hD hS hl kk
    · refine lv_tableIn (off := 864) (tgt := 897) hx hb dL_law_33 (by decide +kernel) (by decide +kernel) (by decide +kernel) (by decide) ?_
      exact lw_case_19 l G x y (nI j) hx hb hml hown hts hX hbl hbA hA hK hE hT hR hin hxx hyy hrr hP hD hS hl kk
    · refine lv_tableIn (off := 897) (tgt := 930) hx hb dL_law_33 (by decide +kernel) (by decide +kernel) (by decide +kernel) (by decide) ?_
      exact lw_case_20 l G x y (nI j) hx hb hml hown hts hX hbl hbA hA hK hE hT hR hin hxx hyy hrr hP hD hS hl kk
    · refine lv_tableIn (off := 946) (tgt := 979) hx hb dL_law_33 (by decide +kernel) (by decide +kernel) (by decide +kernel) (by decide) ?_
      exact lw_case_21 l G x y (nI j) hx hb hml hown hts hX hbl hbA hA hK hE hT hR hin hxx hyy hrr hP hD hS hl kk
    · refine lv_tableIn (off := 989) (tgt := 1022) hx hb dL_law_33 (by decide +kernel) (by decide +kernel) (by decide +kernel) (by decide) ?_
      exact lw_case_22 l G x y (nI j) hx hb hml hown hts hX hbl hbA hA hK hE hT hR hin hxx hyy hrr hP hD hS hl kk
    · refine lv_tableIn (off := 1012) (tgt := 1045) hx hb dL_law_33 (by decide +kernel) (by decide +kernel) (by decide +kernel) (by decide) ?_
      exact lw_case_23 l G x y (nI j) hx hb hml hown hts hX hbl hbA hA hK hE hT hR hin hxx hyy hrr hP hD hS hl kk
    · refine lv_tableIn (off := 1035) (tgt := 1068) hx hb dL_law_33 (by decide +kernel) (by decide +kernel) (by decide +kernel) (by decide) ?_
      exact lw_case_24 l G x y (nI j) hx hb hml hown hts hX hbl hbA hA hK hE hT hR hin hxx hyy hrr hP hD hS hl kk
    · refine lv_tableIn (off := 1068) (tgt := 1101) hx hb dL_law_33 (by decide +kernel) (by decide +kernel) (by decide +kernel) (by decide) ?_
      exact lw_case_25 l G x y (nI j) hx hb hml hown hts hX hbl hbA hA hK hE hT hR hin hxx hyy hrr hP hD hS hl kk
    · refine lv_tableIn (off := 1101) (tgt := 1134) hx hb dL_law_33 (by decide +kernel) (by decide +kernel) (by decide +kernel) (by decide) ?_
      exact lw_case_26 l G x y (nI j) hx hb hml hown hts hX hbl hbA hA hK hE hT hR hin hxx hyy hrr hP hD hS hl kk
    · refine lv_tableIn (off := 1114) (tgt := 1147) hx hb dL_law_33 (by decide +kernel) (by decide +kernel) (by decide +kernel) (by decide) ?_
      exact lw_case_27 l G x y (nI j) hx hb hml hown hts hX hbl hbA hA hK hE hT hR hin hxx hyy hrr hP hD hS hl kk
    · refine lv_tableIn (off := 1127) (tgt := 1160) hx hb dL_law_33 (by decide +kernel) (by decide +kernel) (by decide +kernel) (by decide) ?_
      exact lw_case_28 l G x y (nI j) hx hb hml hown hts hX hbl hbA hA hK hE hT hR hin hxx hyy hrr hP hD hS hl kk
    · refine lv_tableIn (off := 1176) (tgt := 1209) hx hb dL_law_33 (by decide +kernel) (by decide +kernel) (by decide +kernel) (by decide) ?_
      exact lw_case_29 l G x y (nI j) hx hb hml hown hts hX hbl hbA hA hK hE hT hR hin hxx hyy hrr hP hD hS hl kk
    · refine lv_tableIn (off := 1199) (tgt := 1232) hx hb dL_law_33 (by decide +kernel) (by decide +kernel) (by decide +kernel) (by decide) ?_
      exact lw_case_30 l G x y (nI j) hx hb hml hown hts hX hbl hbA hA hK hE hT hR hin hxx hyy hrr hP hD hS hl kk
    · refine lv_tableIn (off := 1222) (tgt := 1255) hx hb dL_law_33 (by decide +kernel) (by decide +kernel) (by decide +kernel) (by decide) ?_
      exact lw_case_31 l G x y (nI j) hx hb hml hown hts hX hbl hbA hA hK hE hT hR hin hxx hyy hrr hP hD hS hl kk
    · refine lv_tableIn (off := 1255) (tgt := 1288) hx hb dL_law_33 (by decide +kernel) (by decide +kernel) (by decide +kernel) (by decide) ?_
      exact lw_case_32 l G x y (nI j) hx hb hml hown hts hX hbl hbA hA hK hE hT hR hin hxx hyy hrr hP hD hS hl kk
    · refine lv_tableIn (off := 1288) (tgt := 1321) hx hb dL_law_33 (by decide +kernel) (by decide +kernel) (by decide +kernel) (by decide) ?_
      exact lw_case_33 l G x y (nI j) hx hb hml hown hts hX hbl hbA hA hK hE hT hR hin hxx hyy hrr hP hD hS hl kk
    · refine lv_tableIn (off := 1341) (tgt := 1374) hx hb dL_law_33 (by decide +kernel) (by decide +kernel) (by decide +kernel) (by decide) ?_
      exact lw_case_34 l G x y (nI j) hx hb hml hown hts hX hbl hbA hA hK hE hT hR hin hxx hyy hrr hP hD hS hl kk
    · refine lv_tableIn (off := 1384) (tgt := 1417) hx hb dL_law_33 (by decide +kernel) (by decide +kernel) (by decide +kernel) (by decide) ?_
      exact lw_case_35 l G x y (nI j) hx hb hml hown hts hX hbl hbA hA hK hE hT hR hin hxx hyy hrr hP hD hS hl kk
    · refine lv_tableIn (off := 1407) (tgt := 1440) hx hb dL_law_33 (by decide +kernel) (by decide +kernel) (by decide +kernel) (by decide) ?_
      exact lw_case_36 l G x y (nI j) hx hb hml hown hts hX hbl hbA hA hK hE hT hR hin hxx hyy hrr hP hD hS hl kk
    · refine lv_tableIn (off := 1456) (tgt := 1489) hx hb dL_law_33 (by decide +kernel) (by decide +kernel) (by decide +kernel) (by decide) ?_
      exact lw_case_37 l G x y (nI j) hx hb hml hown hts hX hbl hbA hA hK hE hT hR hin hxx hyy hrr hP hD hS hl kk
    · refine lv_tableIn (off := 1479) (tgt := 1512) hx hb dL_law_33 (by decide +kernel) (by decide +kernel) (by decide +kernel) (by decide) ?_
      exact lw_case_38 l G x y (nI j) hx hb hml hown hts hX hbl hbA hA hK hE hT hR hin hxx hyy hrr hP hD hS hl kk
    · refine lv_tableIn (off := 1502) (tgt := 1535) hx hb dL_law_33 (by decide +kernel) (by decide +kernel) (by decide +kernel) (by decide) ?_
      exact lw_case_39 l G x y (nI j) hx hb hml hown hts hX hbl hbA hA hK hE hT hR hin hxx hyy hrr hP hD hS hl kk
    · refine lv_tableIn (off := 1525) (tgt := 1558) hx hb dL_law_33 (by decide +kernel) (by decide +kernel) (by decide +kernel) (by decide) ?_
      exact lw_case_40 l G x y (nI j) hx hb hml hown hts hX hbl hbA hA hK hE hT hR hin hxx hyy hrr hP hD hS hl kk
    · refine lv_tableIn (off := 1548) (tgt := 1581) hx hb dL_law_33 (by decide +kernel) (by decide +kernel) (by decide +kernel) (by decide) ?_
      exact lw_case_41 l G x y (nI j) hx hb hml hown hts hX hbl hbA hA hK hE hT hR hin hxx hyy hrr hP hD hS hl kk
    · refine lv_tableIn (off := 1571) (tgt := 1604) hx hb dL_law_33 (by decide +kernel) (by decide +kernel) (by decide +kernel) (by decide) ?_
      exact lw_case_42 l G x y (nI j) hx hb hml hown hts hX hbl hbA hA hK hE hT hR hin hxx hyy hrr hP hD hS hl kk
    · refine lv_tableIn (off := 1620) (tgt := 1653) hx hb dL_law_33 (by decide +kernel) (by decide +kernel) (by decide +kernel) (by decide) ?_
      exact lw_case_43 l G x y (nI j) hx hb hml hown hts hX hbl hbA hA hK hE hT hR hin hxx hyy hrr hP hD hS hl kk
    · refine lv_tableIn (off := 1653) (tgt := 1686) hx hb dL_law_33 (by decide +kernel) (by decide +kernel) (by decide +kernel) (by decide) ?_
      exact lw_case_44 l G x y (nI j) hx hb hml hown hts hX hbl hbA hA hK hE hT hR hin hxx hyy hrr hP hD hS hl kk
    · refine lv_tableIn (off := 1702) (tgt := 1735) hx hb dL_law_33 (by decide +kernel) (by decide +kernel) (by decide +kernel) (by decide) ?_
      exact lw_case_45 l G x y (nI j) hx hb hml hown hts hX hbl hbA hA hK hE hT hR hin hxx hyy hrr hP hD hS hl kk
    · refine lv_tableIn (off := 1755) (tgt := 1788) hx hb dL_law_33 (by decide +kernel) (by decide +kernel) (by decide +kernel) (by decide) ?_
      exact lw_case_46 l G x y (nI j) hx hb hml hown hts hX hbl hbA hA hK hE hT hR hin hxx hyy hrr hP hD hS hl kk
    · refine lv_tableIn (off := 1808) (tgt := 1841) hx hb dL_law_33 (by decide +kernel) (by decide +kernel) (by decide +kernel) (by decide) ?_
      exact lw_case_47 l G x y (nI j) hx hb hml hown hts hX hbl hbA hA hK hE hT hR hin hxx hyy hrr hP hD hS hl kk
    · refine lv_tableIn (off := 1851) (tgt := 1884) hx hb dL_law_33 (by decide +kernel) (by decide +kernel) (by decide +kernel) (by decide) ?_
      exact lw_case_48 l G x y (nI j) hx hb hml hown hts hX hbl hbA hA hK hE hT hR hin hxx hyy hrr hP hD hS hl kk
    · refine lv_tableIn (off := 1894) (tgt := 1927) hx hb dL_law_33 (by decide +kernel) (by decide +kernel) (by decide +kernel) (by decide) ?_
      exact lw_case_49 l G x y (nI j) hx hb hml hown hts hX hbl hbA hA hK hE hT hR hin hxx hyy hrr hP hD hS hl kk
    · refine lv_tableIn (off := 1917) (tgt := 1950) hx hb dL_law_33 (by decide +kernel) (by decide +kernel) (by decide +kernel) (by decide) ?_
      exact lw_case_50 l G x y (nI j) hx hb hml hown hts hX hbl hbA hA hK hE hT hR hin hxx hyy hrr hP hD hS hl kk
    · refine lv_tableIn (off := 1970) (tgt := 2003) hx hb dL_law_33 (by decide +kernel) (by decide +kernel) (by decide +kernel) (by decide) ?_
      exact lw_case_51 l G x y (nI j) hx hb hml hown hts hX hbl hbA hA hK hE hT hR hin hxx hyy hrr hP hD hS hl kk
    · refine lv_tableIn (off := 1983) (tgt := 2016) hx hb dL_law_33 (by decide +kernel) (by decide +kernel) (by decide +kernel) (by decide) ?_
      exact lw_case_52 l G x y (nI j) hx hb hml hown hts hX hbl hbA hA hK hE hT hR hin hxx hyy hrr hP hD hS hl kk
    refine lv_tableOut (tgt := 2029) hx hb dL_law_33 (Or.inr ?_) (by decide) ?_
    · rw [nI_toInt (by omega)]
      omega
    exact kk x y H locs _ hxx hyy hrr hP hD hS hl
