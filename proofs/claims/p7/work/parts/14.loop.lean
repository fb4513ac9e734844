set_option maxHeartbeats 4000000 in
set_option maxRecDepth 100000 in
theorem lw_loop {p : Program} {e : Env} {s : State} {m : MethodId} {below : List Frame} {meth : Method} {c : Code} (l : Launch) (G : va_G) {cA : zCA} {x0 m0 : Nat} {ad am : Nat → Nat} {tf kh ko kr : Nat → Option Nat} {b L : Nat} {xs : Nat → Int32} {A : Nat → Prop} (hx : p.tables.exec = Jvm.exec) (hb : c.code = code) (hml : c.maxLocals = 4) (hown : s.vm.findClass RL = some m.cls) (hts : ∀ w ∈ TB, w.before #[Value.ref b] s = true) (hX : va_X b L xs s s.heap) (hbl : b < s.heap.size) (hbA : ¬ A b) (hA : ∀ q, s.heap.size ≤ q → A q) (hK : va_K G vwCl (zTY cA) s) (hE : zEX s) (hT : zST cA A s s.heap) (hR : zXR ad tf kh ko kr) (hL : L ≤ 3072) (hr : meth.sig.returnType = ret) (hlocks : meth.locks = false) (hAf : ∀ q, A q → s.heap.size ≤ q) : ∀ (n j : Nat) (x y : zXS) (H : Heap) (locs : List Loc) (ls : Array Slot), L < j + n → j ≤ 3072 → zXH x → zMH y → zRl x y → va_P G vwCl (zXW cA x0 ad tf kh ko kr x ++ zMW cA m0 am y) H → va_D A (zXW cA x0 ad tf kh ko kr x ++ zMW cA m0 am y) → va_S A s.heap H locs → lv_has ls 4 [(3, .int (nI j)), (2, .ref m0), (1, .ref x0), (0, .ref b)] → W p l e room_1 s m #[Value.ref b] below meth c H locs 166 7482 (lw_Z below #[Value.ref b] s) (F0 m 18 ls []) := by
  intro n
  induction n with
  | zero =>
    intro j x y H locs ls hn hj hxx hyy hrr hP hD hS hl
    skip
    refine lv_iload_n hx hb dL_law_18 rfl (lv_at hl 0 rfl) ?_
    refine lv_aload_n hx hb dL_law_19 rfl (lv_at hl 3 rfl) ?_
    refine va_slen hx hb hX hbl hbA hS dL_law_20 ?_
    refine lv_bipush (v := 6) hx hb dL_law_21 (by decide) ?_
    refine lv_isub hx hb dL_law_23 ?_
    refine lv_icmp_gt (tgt := 2036) hx hb dL_law_24 (by decide) (fun _ => ?_) (fun h9 => absurd (lw_ge hL hj h9) (by omega))
    exact lw_end l hx hb hr hlocks hAf (Nat.le_of_ble_eq_true rfl) (Nat.le_of_ble_eq_true rfl) hS
  | succ n ih =>
    intro j x y H locs ls hn hj hxx hyy hrr hP hD hS hl
    skip
    refine lv_iload_n hx hb dL_law_18 rfl (lv_at hl 0 rfl) ?_
    refine lv_aload_n hx hb dL_law_19 rfl (lv_at hl 3 rfl) ?_
    refine va_slen hx hb hX hbl hbA hS dL_law_20 ?_
    refine lv_bipush (v := 6) hx hb dL_law_21 (by decide) ?_
    refine lv_isub hx hb dL_law_23 ?_
    refine lv_icmp_gt (tgt := 2036) hx hb dL_law_24 (by decide) (fun _ => ?_) (fun h9 => ?_)
    · exact lw_end l hx hb hr hlocks hAf (Nat.le_of_ble_eq_true rfl) (Nat.le_of_ble_eq_true rfl) hS
    have hj6 := lw_ge hL hj h9
    have hin : ∀ (k : Int32) (n : Nat), k.toInt = (n : Int) → n < 6 → vp_in (nI j + k) L := fun k n hk hn => lw_in hL hj6 hk hn
    have kk : ∀ (x1 y1 : zXS) (H : Heap) (locs : List Loc) (ls : Array Slot), zXH x1 → zMH y1 → zRl x1 y1 → va_P G vwCl (zXW cA x0 ad tf kh ko kr x1 ++ zMW cA m0 am y1) H → va_D A (zXW cA x0 ad tf kh ko kr x1 ++ zMW cA m0 am y1) → va_S A s.heap H locs → lv_has ls 4 [(3, .int (nI j)), (2, .ref m0), (1, .ref x0), (0, .ref b)] → W p l e room_1 s m #[Value.ref b] below meth c H locs 166 7482 (lw_Z below #[Value.ref b] s) (F0 m 2030 ls []) := by
      intro x1 y1 H locs ls hxx hyy hrr hP hD hS hl
      refine lv_iinc (v := nI (j + 6)) (lv' := [(3, .int (nI (j + 6))), (2, .ref m0), (1, .ref x0), (0, .ref b)]) hx hb dL_law_2030 hl (k := 0) rfl (by rw [show Int32.ofInt 6 = nI 6 by decide +kernel]; exact nI_add j 6) (by decide) rfl (fun ls hl => ?_)
      refine lv_goto (tgt := 18) hx hb dL_law_2033 (by decide) ?_
      exact ih (j + 6) x1 y1 H locs ls (by omega) (by omega) hxx hyy hrr hP hD hS hl
    refine lv_aload_n hx hb dL_law_27 rfl (lv_at hl 3 rfl) ?_
    refine lv_iload_n hx hb dL_law_28 rfl (lv_at hl 0 rfl) ?_
    refine va_sld hx hb hX hbl hbA hS (lw_in0 hL hj6) dL_law_29 ?_
    refine lv_bipush (v := 63) hx hb dL_law_30 (by decide) ?_
    refine lv_iand hx hb dL_law_32 ?_
    obtain ⟨t, ht, et⟩ := pk_andE (xs (nI j).toNatClampNeg) (m := 63) 6 (by decide +kernel)
    refine z_topi (y := nI t) et ?_
    rcases (show t = 0 ∨ t = 1 ∨ t = 2 ∨ t = 3 ∨ t = 4 ∨ t = 5 ∨ t = 6 ∨ t = 7 ∨ t = 8 ∨ t = 9 ∨ t = 10 ∨ t = 11 ∨ t = 12 ∨ t = 13 ∨ t = 14 ∨ t = 15 ∨ t = 16 ∨ t = 17 ∨ t = 18 ∨ t = 19 ∨ t = 20 ∨ t = 21 ∨ t = 22 ∨ t = 23 ∨ t = 24 ∨ t = 25 ∨ t = 26 ∨ t = 27 ∨ t = 28 ∨ t = 29 ∨ t = 30 ∨ t = 31 ∨ t = 32 ∨ t = 33 ∨ t = 34 ∨ t = 35 ∨ t = 36 ∨ t = 37 ∨ t = 38 ∨ t = 39 ∨ t = 40 ∨ t = 41 ∨ t = 42 ∨ t = 43 ∨ t = 44 ∨ t = 45 ∨ t = 46 ∨ t = 47 ∨ t = 48 ∨ t = 49 ∨ t = 50 ∨ t = 51 ∨ t = 52 ∨ 53 ≤ t by omega) with rfl | rfl | rfl | rfl | rfl | rfl | rfl | rfl | rfl | rfl | rfl | rfl | rfl | rfl | rfl | rfl | rfl | rfl | rfl | rfl | rfl | rfl | rfl | rfl | rfl | rfl | rfl | rfl | rfl | rfl | rfl | rfl | rfl | rfl | rfl | rfl | rfl | rfl | rfl | rfl | rfl | rfl | rfl | rfl | rfl | rfl | rfl | rfl | rfl | rfl | rfl | rfl | rfl | ht2
    · refine lv_tableIn (off := 227) (tgt := 260) hx hb dL_law_33 (by decide +kernel) (by decide +kernel) (by decide +kernel) (by decide) ?_
      exact lw_case_0 l G x y (nI j) hx hb hml hown hts hX hbl hbA hA hK hE hT hR hin hxx hyy hrr hP hD hS hl kk
    · refine lv_tableIn (off := 240) (tgt := 273) hx hb dL_law_33 (by decide +kernel) (by decide +kernel) (by decide +kernel) (by decide) ?_
      exact lw_case_1 l G x y (nI j) hx hb hml hown hts hX hbl hbA hA hK hE hT hR hin hxx hyy hrr hP hD hS hl kk
    · refine lv_tableIn (off := 253) (tgt := 286) hx hb dL_law_33 (by decide +kernel) (by decide +kernel) (by decide +kernel) (by decide) ?_
      exact lw_case_2 l G x y (nI j) hx hb hml hown hts hX hbl hbA hA hK hE hT hR hin hxx hyy hrr hP hD hS hl kk
    · refine lv_tableIn (off := 266) (tgt := 299) hx hb dL_law_33 (by decide +kernel) (by decide +kernel) (by decide +kernel) (by decide) ?_
      exact lw_case_3 l G x y (nI j) hx hb hml hown hts hX hbl hbA hA hK hE hT hR hin hxx hyy hrr hP hD hS hl kk
    · refine lv_tableIn (off := 309) (tgt := 342) hx hb dL_law_33 (by decide +kernel) (by decide +kernel) (by decide +kernel) (by decide) ?_
      exact lw_case_4 l G x y (nI j) hx hb hml hown hts hX hbl hbA hA hK hE hT hR hin hxx hyy hrr hP hD hS hl kk
    · refine lv_tableIn (off := 382) (tgt := 415) hx hb dL_law_33 (by decide +kernel) (by decide +kernel) (by decide +kernel) (by decide) ?_
      exact lw_case_5 l G x y (nI j) hx hb hml hown hts hX hbl hbA hA hK hE hT hR hin hxx hyy hrr hP hD hS hl kk
    · refine lv_tableIn (off := 416) (tgt := 449) hx hb dL_law_33 (by decide +kernel) (by decide +kernel) (by decide +kernel) (by decide) ?_
      exact lw_case_6 l G x y (nI j) hx hb hml hown hts hX hbl hbA hA hK hE hT hR hin hxx hyy hrr hP hD hS hl kk
    · refine lv_tableIn (off := 479) (tgt := 512) hx hb dL_law_33 (by decide +kernel) (by decide +kernel) (by decide +kernel) (by decide) ?_
      exact lw_case_7 l G x y (nI j) hx hb hml hown hts hX hbl hbA hA hK hE hT hR hin hxx hyy hrr hP hD hS hl kk
    · refine lv_tableIn (off := 542) (tgt := 575) hx hb dL_law_33 (by decide +kernel) (by decide +kernel) (by decide +kernel) (by decide) ?_
      exact lw_case_8 l G x y (nI j) hx hb hml hown hts hX hbl hbA hA hK hE hT hR hin hxx hyy hrr hP hD hS hl kk
    · refine lv_tableIn (off := 565) (tgt := 598) hx hb dL_law_33 (by decide +kernel) (by decide +kernel) (by decide +kernel) (by decide) ?_
      exact lw_case_9 l G x y (nI j) hx hb hml hown hts hX hbl hbA hA hK hE hT hR hin hxx hyy hrr hP hD hS hl kk
    · refine lv_tableIn (off := 588) (tgt := 621) hx hb dL_law_33 (by decide +kernel) (by decide +kernel) (by decide +kernel) (by decide) ?_
      exact lw_case_10 l G x y (nI j) hx hb hml hown hts hX hbl hbA hA hK hE hT hR hin hxx hyy hrr hP hD hS hl kk
    · refine lv_tableIn (off := 611) (tgt := 644) hx hb dL_law_33 (by decide +kernel) (by decide +kernel) (by decide +kernel) (by decide) ?_
      exact lw_case_11 l G x y (nI j) hx hb hml hown hts hX hbl hbA hA hK hE hT hR hin hxx hyy hrr hP hD hS hl kk
    · refine lv_tableIn (off := 634) (tgt := 667) hx hb dL_law_33 (by decide +kernel) (by decide +kernel) (by decide +kernel) (by decide) ?_
      exact lw_case_12 l G x y (nI j) hx hb hml hown hts hX hbl hbA hA hK hE hT hR hin hxx hyy hrr hP hD hS hl kk
    · refine lv_tableIn (off := 667) (tgt := 700) hx hb dL_law_33 (by decide +kernel) (by decide +kernel) (by decide +kernel) (by decide) ?_
      exact lw_case_13 l G x y (nI j) hx hb hml hown hts hX hbl hbA hA hK hE hT hR hin hxx hyy hrr hP hD hS hl kk
    · refine lv_tableIn (off := 710) (tgt := 743) hx hb dL_law_33 (by decide +kernel) (by decide +kernel) (by decide +kernel) (by decide) ?_
      exact lw_case_14 l G x y (nI j) hx hb hml hown hts hX hbl hbA hA hK hE hT hR hin hxx hyy hrr hP hD hS hl kk
    · refine lv_tableIn (off := 743) (tgt := 776) hx hb dL_law_33 (by decide +kernel) (by decide +kernel) (by decide +kernel) (by decide) ?_
      exact lw_case_15 l G x y (nI j) hx hb hml hown hts hX hbl hbA hA hK hE hT hR hin hxx hyy hrr hP hD hS hl kk
    · refine lv_tableIn (off := 776) (tgt := 809) hx hb dL_law_33 (by decide +kernel) (by decide +kernel) (by decide +kernel) (by decide) ?_
      exact lw_case_16 l G x y (nI j) hx hb hml hown hts hX hbl hbA hA hK hE hT hR hin hxx hyy hrr hP hD hS hl kk
    · refine lv_tableIn (off := 809) (tgt := 842) hx hb dL_law_33 (by decide +kernel) (by decide +kernel) (by decide +kernel) (by decide) ?_
      exact lw_case_17 l G x y (nI j) hx hb hml hown hts hX hbl hbA hA hK hE hT hR hin hxx hyy hrr hP hD hS hl kk
    · refine lv_tableIn (off := 842) (tgt := 875) hx hb dL_law_33 (by decide +kernel) (by decide +kernel) (by decide +kernel) (by decide) ?_
      exact lw_case_18 l G x y (nI j) hx hb hml hown hts hX hbl hbA hA hK hE hT hR hin hxx hyy hrr hP hD hS hl kk
    · refine lv_tableIn (off := 865) (tgt := 898) hx hb dL_law_33 (by decide +kernel) (by decide +kernel) (by decide +kernel) (by decide) ?_
      exact lw_case_19 l G x y (nI j) hx hb hml hown hts hX hbl hbA hA hK hE hT hR hin hxx hyy hrr hP hD hS hl kk
    · refine lv_tableIn (off := 898) (tgt := 931) hx hb dL_law_33 (by decide +kernel) (by decide +kernel) (by decide +kernel) (by decide) ?_
      exact lw_case_20 l G x y (nI j) hx hb hml hown hts hX hbl hbA hA hK hE hT hR hin hxx hyy hrr hP hD hS hl kk
    · refine lv_tableIn (off := 947) (tgt := 980) hx hb dL_law_33 (by decide +kernel) (by decide +kernel) (by decide +kernel) (by decide) ?_
      exact lw_case_21 l G x y (nI j) hx hb hml hown hts hX hbl hbA hA hK hE hT hR hin hxx hyy hrr hP hD hS hl kk
    · refine lv_tableIn (off := 990) (tgt := 1023) hx hb dL_law_33 (by decide +kernel) (by decide +kernel) (by decide +kernel) (by decide) ?_
      exact lw_case_22 l G x y (nI j) hx hb hml hown hts hX hbl hbA hA hK hE hT hR hin hxx hyy hrr hP hD hS hl kk
    · refine lv_tableIn (off := 1013) (tgt := 1046) hx hb dL_law_33 (by decide +kernel) (by decide +kernel) (by decide +kernel) (by decide) ?_
      exact lw_case_23 l G x y (nI j) hx hb hml hown hts hX hbl hbA hA hK hE hT hR hin hxx hyy hrr hP hD hS hl kk
    · refine lv_tableIn (off := 1036) (tgt := 1069) hx hb dL_law_33 (by decide +kernel) (by decide +kernel) (by decide +kernel) (by decide) ?_
      exact lw_case_24 l G x y (nI j) hx hb hml hown hts hX hbl hbA hA hK hE hT hR hin hxx hyy hrr hP hD hS hl kk
    · refine lv_tableIn (off := 1069) (tgt := 1102) hx hb dL_law_33 (by decide +kernel) (by decide +kernel) (by decide +kernel) (by decide) ?_
      exact lw_case_25 l G x y (nI j) hx hb hml hown hts hX hbl hbA hA hK hE hT hR hin hxx hyy hrr hP hD hS hl kk
    · refine lv_tableIn (off := 1102) (tgt := 1135) hx hb dL_law_33 (by decide +kernel) (by decide +kernel) (by decide +kernel) (by decide) ?_
      exact lw_case_26 l G x y (nI j) hx hb hml hown hts hX hbl hbA hA hK hE hT hR hin hxx hyy hrr hP hD hS hl kk
    · refine lv_tableIn (off := 1115) (tgt := 1148) hx hb dL_law_33 (by decide +kernel) (by decide +kernel) (by decide +kernel) (by decide) ?_
      exact lw_case_27 l G x y (nI j) hx hb hml hown hts hX hbl hbA hA hK hE hT hR hin hxx hyy hrr hP hD hS hl kk
    · refine lv_tableIn (off := 1128) (tgt := 1161) hx hb dL_law_33 (by decide +kernel) (by decide +kernel) (by decide +kernel) (by decide) ?_
      exact lw_case_28 l G x y (nI j) hx hb hml hown hts hX hbl hbA hA hK hE hT hR hin hxx hyy hrr hP hD hS hl kk
    · refine lv_tableIn (off := 1177) (tgt := 1210) hx hb dL_law_33 (by decide +kernel) (by decide +kernel) (by decide +kernel) (by decide) ?_
      exact lw_case_29 l G x y (nI j) hx hb hml hown hts hX hbl hbA hA hK hE hT hR hin hxx hyy hrr hP hD hS hl kk
    · refine lv_tableIn (off := 1200) (tgt := 1233) hx hb dL_law_33 (by decide +kernel) (by decide +kernel) (by decide +kernel) (by decide) ?_
      exact lw_case_30 l G x y (nI j) hx hb hml hown hts hX hbl hbA hA hK hE hT hR hin hxx hyy hrr hP hD hS hl kk
    · refine lv_tableIn (off := 1223) (tgt := 1256) hx hb dL_law_33 (by decide +kernel) (by decide +kernel) (by decide +kernel) (by decide) ?_
      exact lw_case_31 l G x y (nI j) hx hb hml hown hts hX hbl hbA hA hK hE hT hR hin hxx hyy hrr hP hD hS hl kk
    · refine lv_tableIn (off := 1256) (tgt := 1289) hx hb dL_law_33 (by decide +kernel) (by decide +kernel) (by decide +kernel) (by decide) ?_
      exact lw_case_32 l G x y (nI j) hx hb hml hown hts hX hbl hbA hA hK hE hT hR hin hxx hyy hrr hP hD hS hl kk
    · refine lv_tableIn (off := 1289) (tgt := 1322) hx hb dL_law_33 (by decide +kernel) (by decide +kernel) (by decide +kernel) (by decide) ?_
      exact lw_case_33 l G x y (nI j) hx hb hml hown hts hX hbl hbA hA hK hE hT hR hin hxx hyy hrr hP hD hS hl kk
    · refine lv_tableIn (off := 1342) (tgt := 1375) hx hb dL_law_33 (by decide +kernel) (by decide +kernel) (by decide +kernel) (by decide) ?_
      exact lw_case_34 l G x y (nI j) hx hb hml hown hts hX hbl hbA hA hK hE hT hR hin hxx hyy hrr hP hD hS hl kk
    · refine lv_tableIn (off := 1385) (tgt := 1418) hx hb dL_law_33 (by decide +kernel) (by decide +kernel) (by decide +kernel) (by decide) ?_
      exact lw_case_35 l G x y (nI j) hx hb hml hown hts hX hbl hbA hA hK hE hT hR hin hxx hyy hrr hP hD hS hl kk
    · refine lv_tableIn (off := 1408) (tgt := 1441) hx hb dL_law_33 (by decide +kernel) (by decide +kernel) (by decide +kernel) (by decide) ?_
      exact lw_case_36 l G x y (nI j) hx hb hml hown hts hX hbl hbA hA hK hE hT hR hin hxx hyy hrr hP hD hS hl kk
    · refine lv_tableIn (off := 1457) (tgt := 1490) hx hb dL_law_33 (by decide +kernel) (by decide +kernel) (by decide +kernel) (by decide) ?_
      exact lw_case_37 l G x y (nI j) hx hb hml hown hts hX hbl hbA hA hK hE hT hR hin hxx hyy hrr hP hD hS hl kk
    · refine lv_tableIn (off := 1480) (tgt := 1513) hx hb dL_law_33 (by decide +kernel) (by decide +kernel) (by decide +kernel) (by decide) ?_
      exact lw_case_38 l G x y (nI j) hx hb hml hown hts hX hbl hbA hA hK hE hT hR hin hxx hyy hrr hP hD hS hl kk
    · refine lv_tableIn (off := 1503) (tgt := 1536) hx hb dL_law_33 (by decide +kernel) (by decide +kernel) (by decide +kernel) (by decide) ?_
      exact lw_case_39 l G x y (nI j) hx hb hml hown hts hX hbl hbA hA hK hE hT hR hin hxx hyy hrr hP hD hS hl kk
    · refine lv_tableIn (off := 1526) (tgt := 1559) hx hb dL_law_33 (by decide +kernel) (by decide +kernel) (by decide +kernel) (by decide) ?_
      exact lw_case_40 l G x y (nI j) hx hb hml hown hts hX hbl hbA hA hK hE hT hR hin hxx hyy hrr hP hD hS hl kk
    · refine lv_tableIn (off := 1549) (tgt := 1582) hx hb dL_law_33 (by decide +kernel) (by decide +kernel) (by decide +kernel) (by decide) ?_
      exact lw_case_41 l G x y (nI j) hx hb hml hown hts hX hbl hbA hA hK hE hT hR hin hxx hyy hrr hP hD hS hl kk
    · refine lv_tableIn (off := 1572) (tgt := 1605) hx hb dL_law_33 (by decide +kernel) (by decide +kernel) (by decide +kernel) (by decide) ?_
      exact lw_case_42 l G x y (nI j) hx hb hml hown hts hX hbl hbA hA hK hE hT hR hin hxx hyy hrr hP hD hS hl kk
    · refine lv_tableIn (off := 1621) (tgt := 1654) hx hb dL_law_33 (by decide +kernel) (by decide +kernel) (by decide +kernel) (by decide) ?_
      exact lw_case_43 l G x y (nI j) hx hb hml hown hts hX hbl hbA hA hK hE hT hR hin hxx hyy hrr hP hD hS hl kk
    · refine lv_tableIn (off := 1654) (tgt := 1687) hx hb dL_law_33 (by decide +kernel) (by decide +kernel) (by decide +kernel) (by decide) ?_
      exact lw_case_44 l G x y (nI j) hx hb hml hown hts hX hbl hbA hA hK hE hT hR hin hxx hyy hrr hP hD hS hl kk
    · refine lv_tableIn (off := 1703) (tgt := 1736) hx hb dL_law_33 (by decide +kernel) (by decide +kernel) (by decide +kernel) (by decide) ?_
      exact lw_case_45 l G x y (nI j) hx hb hml hown hts hX hbl hbA hA hK hE hT hR hin hxx hyy hrr hP hD hS hl kk
    · refine lv_tableIn (off := 1756) (tgt := 1789) hx hb dL_law_33 (by decide +kernel) (by decide +kernel) (by decide +kernel) (by decide) ?_
      exact lw_case_46 l G x y (nI j) hx hb hml hown hts hX hbl hbA hA hK hE hT hR hin hxx hyy hrr hP hD hS hl kk
    · refine lv_tableIn (off := 1809) (tgt := 1842) hx hb dL_law_33 (by decide +kernel) (by decide +kernel) (by decide +kernel) (by decide) ?_
      exact lw_case_47 l G x y (nI j) hx hb hml hown hts hX hbl hbA hA hK hE hT hR hin hxx hyy hrr hP hD hS hl kk
    · refine lv_tableIn (off := 1852) (tgt := 1885) hx hb dL_law_33 (by decide +kernel) (by decide +kernel) (by decide +kernel) (by decide) ?_
      exact lw_case_48 l G x y (nI j) hx hb hml hown hts hX hbl hbA hA hK hE hT hR hin hxx hyy hrr hP hD hS hl kk
    · refine lv_tableIn (off := 1895) (tgt := 1928) hx hb dL_law_33 (by decide +kernel) (by decide +kernel) (by decide +kernel) (by decide) ?_
      exact lw_case_49 l G x y (nI j) hx hb hml hown hts hX hbl hbA hA hK hE hT hR hin hxx hyy hrr hP hD hS hl kk
    · refine lv_tableIn (off := 1918) (tgt := 1951) hx hb dL_law_33 (by decide +kernel) (by decide +kernel) (by decide +kernel) (by decide) ?_
      exact lw_case_50 l G x y (nI j) hx hb hml hown hts hX hbl hbA hA hK hE hT hR hin hxx hyy hrr hP hD hS hl kk
    · refine lv_tableIn (off := 1971) (tgt := 2004) hx hb dL_law_33 (by decide +kernel) (by decide +kernel) (by decide +kernel) (by decide) ?_
      exact lw_case_51 l G x y (nI j) hx hb hml hown hts hX hbl hbA hA hK hE hT hR hin hxx hyy hrr hP hD hS hl kk
    · refine lv_tableIn (off := 1984) (tgt := 2017) hx hb dL_law_33 (by decide +kernel) (by decide +kernel) (by decide +kernel) (by decide) ?_
      exact lw_case_52 l G x y (nI j) hx hb hml hown hts hX hbl hbA hA hK hE hT hR hin hxx hyy hrr hP hD hS hl kk
    refine lv_tableOut (tgt := 2030) hx hb dL_law_33 (Or.inr ?_) (by decide) ?_
    · rw [nI_toInt (by omega)]
      omega
    exact kk x y H locs _ hxx hyy hrr hP hD hS hl
