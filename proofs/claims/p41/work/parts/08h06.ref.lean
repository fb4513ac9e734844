set_option maxHeartbeats 4000000 in
set_option maxRecDepth 100000 in
theorem r_opensOf (l : Launch) (G : va_G) (cA : zCA) (h0 : Nat) (m_status : Int32) (m_thrown : Int32) (m_above : Int64) (m_under : Int64) (a_traySort : Nat) (a_trayMany : Nat) (a_numbers : Nat) (a_tape : Nat) (m_taped : Int32) (m_textEnd : Int32) (m_faultKind : Int32) (m_faultAt : Int32) (m_bad : Int32) (m_badAt : Int32) (m_token : Int32) (m_at : Int32) (m_behind : Int32) (m_number : Int32) (m_letters : Int32) (m_word : Int64) (a_c : Nat) (a_words : Nat) (m_markMany : Int32) (a_there : Nat) (a_tried : Nat) (a_best : Nat) (a_found : Nat) (m_thereMany : Int32) (m_foundMany : Int32) (m_orderHow : Int32) (m_orderRing : Int32) (m_orderMany : Int32) (m_hasBest : Int32) (m_bestTop : Int64) (m_bestBy : Int64) (a_weights : Nat) (a_shared : Nat) (m_random : Int32) (m_truePlace : Int32) (m_trueWay : Int32) (m_seconds : Int32) (m_done : Int32) (m_feelings : Int32) (m_tries : Int32) (m_leftOver : Int32) (m_playDoor : Int32) (m_playRing : Int32) (m_isOpen : Int32) (m_isOver : Int32) (m_wasTried : Int32) (m_hasPlayed : Int32) (a_feltNow : Nat) (a_last : Nat) (a_kept : Nat) (m_hasSeconds : Int32) (m_hasTurned : Int32) (m_hasRound : Int32) (a_hasFeels : Nat) (a_isOn : Nat) (m_firstAct : Int32) (m_meanTop : Int64) (m_meanBy : Int64) (a_order : Nat) (m_rowMany : Int32) (m_newSteps : Int32) (g_c : Nat → Int32) (g_there : Nat → Int32) (d : Int32) (hr_d : 0 ≤ d.toInt ∧ d.toInt ≤ 4) (hr_m_thereMany : 0 ≤ m_thereMany.toInt ∧ m_thereMany.toInt ≤ 10) (hC_g_c : zC g_c) (hC_g_there : zRg 10 0 9 g_there) : zCl l yX12_opensOf cX12_opensOf 5 (some .long) ({ frames := 1, cells := 0, slots := 0, locals := 22 }) G cA [.ref h0, .int d] [(h0, .inr (12, [.int m_status, .int m_thrown, .long m_above, .long m_under, .ref a_traySort, .ref a_trayMany, .ref a_numbers, .ref a_tape, .int m_taped, .int m_textEnd, .int m_faultKind, .int m_faultAt, .int m_bad, .int m_badAt, .int m_token, .int m_at, .int m_behind, .int m_number, .int m_letters, .long m_word, .ref a_c, .ref a_words, .int m_markMany, .ref a_there, .ref a_tried, .ref a_best, .ref a_found, .int m_thereMany, .int m_foundMany, .int m_orderHow, .int m_orderRing, .int m_orderMany, .int m_hasBest, .long m_bestTop, .long m_bestBy, .ref a_weights, .ref a_shared, .int m_random, .int m_truePlace, .int m_trueWay, .int m_seconds, .int m_done, .int m_feelings, .int m_tries, .int m_leftOver, .int m_playDoor, .int m_playRing, .int m_isOpen, .int m_isOver, .int m_wasTried, .int m_hasPlayed, .ref a_feltNow, .ref a_last, .ref a_kept, .int m_hasSeconds, .int m_hasTurned, .int m_hasRound, .ref a_hasFeels, .ref a_isOn, .int m_firstAct, .long m_meanTop, .long m_meanBy, .ref a_order, .int m_rowMany, .int m_newSteps])), (a_c, .inl (cA.1 0, 1825, .inl g_c)), (a_there, .inl (cA.1 0, 10, .inl g_there))] (S := Unit) (fun (r : Int64) (u : Unit) => True) (fun (u : Unit) => [(h0, .inr (12, [.int m_status, .int m_thrown, .long m_above, .long m_under, .ref a_traySort, .ref a_trayMany, .ref a_numbers, .ref a_tape, .int m_taped, .int m_textEnd, .int m_faultKind, .int m_faultAt, .int m_bad, .int m_badAt, .int m_token, .int m_at, .int m_behind, .int m_number, .int m_letters, .long m_word, .ref a_c, .ref a_words, .int m_markMany, .ref a_there, .ref a_tried, .ref a_best, .ref a_found, .int m_thereMany, .int m_foundMany, .int m_orderHow, .int m_orderRing, .int m_orderMany, .int m_hasBest, .long m_bestTop, .long m_bestBy, .ref a_weights, .ref a_shared, .int m_random, .int m_truePlace, .int m_trueWay, .int m_seconds, .int m_done, .int m_feelings, .int m_tries, .int m_leftOver, .int m_playDoor, .int m_playRing, .int m_isOpen, .int m_isOver, .int m_wasTried, .int m_hasPlayed, .ref a_feltNow, .ref a_last, .ref a_kept, .int m_hasSeconds, .int m_hasTurned, .int m_hasRound, .ref a_hasFeels, .ref a_isOn, .int m_firstAct, .long m_meanTop, .long m_meanBy, .ref a_order, .int m_rowMany, .int m_newSteps])), (a_c, .inl (cA.1 0, 1825, .inl g_c)), (a_there, .inl (cA.1 0, 10, .inl g_there))]) 0 0 := by
  have hk_0 : (0 : Int32).toInt = 0 := by decide +kernel
  have hk_1 : (1 : Int32).toInt = 1 := by decide +kernel
  have hk_2 : (2 : Int32).toInt = 2 := by decide +kernel
  have hk_160 : (160 : Int32).toInt = 160 := by decide +kernel
  have hkl_0 : (0 : Int64).toInt = 0 := by decide +kernel
  refine z_start2l (own := RX12) (by decide) (Nat.le_of_ble_eq_true rfl) rfl ?_
  intro p e s m args below meth c A ls Q hx hb hml hts hown hK hE hT hP hD hS hA hl hret
  have hl : lv_has ls 5 [(0, .ref h0), (1, .int d)] := hl
  refine lv_lconst (v := 0) hx hb dX12_opensOf_0 (by decide) ?_
  refine lv_lstore_n (lv' := [(2, .long 0), (0, .ref h0), (1, .int d)]) hx hb dX12_opensOf_1 rfl hl (by decide) rfl (fun ls hl => ?_)
  refine lv_iconst (v := 0) hx hb dX12_opensOf_2 (by decide) ?_
  refine lv_istore (lv' := [(4, .int 0), (2, .long 0), (0, .ref h0), (1, .int d)]) hx hb dX12_opensOf_3 hl (by decide) rfl (fun ls hl => ?_)
  have hlp_393 : ∀ (n : Nat) (v_374 : Int64) (v_375 : Int32) (H : Heap) (locs : List Loc) (ls : Array Slot), (2147483647 - v_375.toInt).toNat < n → (0 ≤ v_375.toInt ∧ v_375.toInt ≤ 20) → va_P G vwCl [(h0, .inr (12, [.int m_status, .int m_thrown, .long m_above, .long m_under, .ref a_traySort, .ref a_trayMany, .ref a_numbers, .ref a_tape, .int m_taped, .int m_textEnd, .int m_faultKind, .int m_faultAt, .int m_bad, .int m_badAt, .int m_token, .int m_at, .int m_behind, .int m_number, .int m_letters, .long m_word, .ref a_c, .ref a_words, .int m_markMany, .ref a_there, .ref a_tried, .ref a_best, .ref a_found, .int m_thereMany, .int m_foundMany, .int m_orderHow, .int m_orderRing, .int m_orderMany, .int m_hasBest, .long m_bestTop, .long m_bestBy, .ref a_weights, .ref a_shared, .int m_random, .int m_truePlace, .int m_trueWay, .int m_seconds, .int m_done, .int m_feelings, .int m_tries, .int m_leftOver, .int m_playDoor, .int m_playRing, .int m_isOpen, .int m_isOver, .int m_wasTried, .int m_hasPlayed, .ref a_feltNow, .ref a_last, .ref a_kept, .int m_hasSeconds, .int m_hasTurned, .int m_hasRound, .ref a_hasFeels, .ref a_isOn, .int m_firstAct, .long m_meanTop, .long m_meanBy, .ref a_order, .int m_rowMany, .int m_newSteps])), (a_c, .inl (cA.1 0, 1825, .inl g_c)), (a_there, .inl (cA.1 0, 10, .inl g_there))] H → va_D A [(h0, .inr (12, [.int m_status, .int m_thrown, .long m_above, .long m_under, .ref a_traySort, .ref a_trayMany, .ref a_numbers, .ref a_tape, .int m_taped, .int m_textEnd, .int m_faultKind, .int m_faultAt, .int m_bad, .int m_badAt, .int m_token, .int m_at, .int m_behind, .int m_number, .int m_letters, .long m_word, .ref a_c, .ref a_words, .int m_markMany, .ref a_there, .ref a_tried, .ref a_best, .ref a_found, .int m_thereMany, .int m_foundMany, .int m_orderHow, .int m_orderRing, .int m_orderMany, .int m_hasBest, .long m_bestTop, .long m_bestBy, .ref a_weights, .ref a_shared, .int m_random, .int m_truePlace, .int m_trueWay, .int m_seconds, .int m_done, .int m_feelings, .int m_tries, .int m_leftOver, .int m_playDoor, .int m_playRing, .int m_isOpen, .int m_isOver, .int m_wasTried, .int m_hasPlayed, .ref a_feltNow, .ref a_last, .ref a_kept, .int m_hasSeconds, .int m_hasTurned, .int m_hasRound, .ref a_hasFeels, .ref a_isOn, .int m_firstAct, .long m_meanTop, .long m_meanBy, .ref a_order, .int m_rowMany, .int m_newSteps])), (a_c, .inl (cA.1 0, 1825, .inl g_c)), (a_there, .inl (cA.1 0, 10, .inl g_there))] → va_S A s.heap H locs → lv_has ls 5 [(0, .ref h0), (1, .int d), (2, .long v_374), (4, .int v_375)] → W p l e ({ frames := 1, cells := 0, slots := 0, locals := 22 }) s m args below meth c H locs 0 0 Q (F0 m 5 ls []) := by
    intro n
    induction n with
    | zero =>
      intro v_374 v_375 H locs ls hmu_hlp_393 hr_v_375 hP hD hS hl
      exact absurd hmu_hlp_393 (Nat.not_lt_zero _)
    | succ n ih_394 =>
      intro v_374 v_375 H locs ls hmu_hlp_393 hr_v_375 hP hD hS hl
      refine lv_iload hx hb dX12_opensOf_5 (lv_at hl 3 rfl) ?_
      refine lv_iconst (v := 2) hx hb dX12_opensOf_7 (by decide) ?_
      refine lv_aload_n hx hb dX12_opensOf_8 rfl (lv_at hl 0 rfl) ?_
      refine va_get (D := G) (ci := 12) (v := .int m_thereMany) (C := RX12) (T := TX12) (N := 65) hx hb hts inT12 hown hK hP 0 rfl rfl 27 (by decide) (hts _ tw_1912) (fun _ h9 => h9) rfl dX12_opensOf_9 ?_
      refine lv_imul hx hb dX12_opensOf_12 ?_
      refine lv_topi (fun x_395 he_x_395 => ?_)
      have hq_x_395 := z_mulq he_x_395 hk_2 (rfl : m_thereMany.toInt = _) (by omega) (by omega)
      refine lv_icmp_ge (tgt := 58) hx hb dX12_opensOf_13 (by decide) (fun c_396 => ?_) (fun c_396 => ?_)
      · have b_397 := z_fgeT c_396
        refine lv_lload_n hx hb dX12_opensOf_58 rfl (lv_at hl 2 rfl) ?_
        exact hret _ _ _ _ _ _ () [0, 1, 2] hP hD hS rfl (by decide) dX12_opensOf_59 trivial
      · have b_398 := z_fltF c_396
        refine lv_lload_n hx hb dX12_opensOf_16 rfl (lv_at hl 2 rfl) ?_
        refine lv_aload_n hx hb dX12_opensOf_17 rfl (lv_at hl 0 rfl) ?_
        refine lv_aload_n hx hb dX12_opensOf_18 rfl (lv_at hl 0 rfl) ?_
        refine va_get (D := G) (ci := 12) (v := .ref a_there) (C := RX12) (T := TX12) (N := 65) hx hb hts inT12 hown hK hP 0 rfl rfl 23 (by decide) (hts _ tw_1908) (fun _ h9 => h9) rfl dX12_opensOf_19 ?_
        refine lv_iload hx hb dX12_opensOf_22 (lv_at hl 3 rfl) ?_
        refine lv_iconst (v := 2) hx hb dX12_opensOf_24 (by decide) ?_
        refine lv_idiv hx hb dX12_opensOf_25 (by decide +kernel) ?_
        refine lv_topi (fun x_399 he_x_399 => ?_)
        have hq_x_399 := z_divq he_x_399 (rfl : v_375.toInt = _) hk_2 (by omega) (by decide)
        refine va_iald hx hb hK hP 2 0 rfl rfl (z_inN (by omega) (by omega)) dX12_opensOf_26 ?_
        refine lv_topi (fun x_400 he_x_400 => ?_)
        have hr_x_400 := z_rg hC_g_there he_x_400 (by omega) (by omega)
        refine lv_iload_n hx hb dX12_opensOf_27 rfl (lv_at hl 1 rfl) ?_
        refine z_callVi (As := [.int x_400, .int d]) (rest := [.long v_374]) (wr := [(a_there, .inl (cA.1 0, 10, .inl g_there))]) ⟨hx, hb, hml, hown, hts⟩ hK hE hT hP hD hS hA (r_canOpen l G cA h0 m_status m_thrown m_above m_under a_traySort a_trayMany a_numbers a_tape m_taped m_textEnd m_faultKind m_faultAt m_bad m_badAt m_token m_at m_behind m_number m_letters m_word a_c a_words m_markMany a_there a_tried a_best a_found m_thereMany m_foundMany m_orderHow m_orderRing m_orderMany m_hasBest m_bestTop m_bestBy a_weights a_shared m_random m_truePlace m_trueWay m_seconds m_done m_feelings m_tries m_leftOver m_playDoor m_playRing m_isOpen m_isOver m_wasTried m_hasPlayed a_feltNow a_last a_kept m_hasSeconds m_hasTurned m_hasRound a_hasFeels a_isOn m_firstAct m_meanTop m_meanBy a_order m_rowMany m_newSteps g_c x_400 d hr_x_400 hr_d hC_g_c) lk_RX12_345 ⟨rfl, rfl⟩ ⟨Nat.le_of_ble_eq_true rfl, Nat.le_of_ble_eq_true rfl⟩ 12 rfl rfl rfl [0, 1] [2] rfl rfl (by decide) rfl hl.1 rfl (lv_room (Nat.le_of_ble_eq_true rfl)) dX12_opensOf_28 ⟨Nat.le_of_ble_eq_true rfl, Nat.le_of_ble_eq_true rfl⟩ (fun r_401 u_402 H locs hw hP hD hS => ?_)
        obtain ⟨he_r_401, hw⟩ := hw
        rcases hw with ⟨rfl, hf_403⟩ | ⟨rfl, hf_404⟩
        · skip
          refine lv_if_eq (tgt := 49) hx hb dX12_opensOf_31 (by decide) (fun _ => ?_) (fun h9 => absurd (by decide +kernel) h9)
          refine lv_lconst (v := 0) hx hb dX12_opensOf_49 (by decide) ?_
          refine lv_ladd hx hb dX12_opensOf_50 ?_
          have hL_v_374 := z_fulll v_374
          refine lv_topl (fun x_405 he_x_405 => ?_)
          have hq_x_405 := z_addql he_x_405 (rfl : v_374.toInt = _) hkl_0 (by omega) (by omega)
          refine lv_lstore_n (lv' := [(2, .long x_405), (0, .ref h0), (1, .int d), (4, .int v_375)]) hx hb dX12_opensOf_51 rfl hl (by decide) rfl (fun ls hl => ?_)
          obtain ⟨x_406, he_x_406⟩ : ∃ z : Int32, z = v_375 + 1 := ⟨_, rfl⟩
          have hq_x_406 := z_addq he_x_406 (rfl : v_375.toInt = _) hk_1 (by omega) (by omega)
          refine lv_iinc (v := x_406) (lv' := [(4, .int x_406), (2, .long x_405), (0, .ref h0), (1, .int d)]) hx hb dX12_opensOf_52 hl (k := 3) rfl ((z_ofi (by decide +kernel)).trans he_x_406.symm) (by decide) rfl (fun ls hl => ?_)
          refine lv_goto (tgt := 5) hx hb dX12_opensOf_55 (by decide) ?_
          have hP := hP.sub (ws' := [(h0, .inr (12, [.int m_status, .int m_thrown, .long m_above, .long m_under, .ref a_traySort, .ref a_trayMany, .ref a_numbers, .ref a_tape, .int m_taped, .int m_textEnd, .int m_faultKind, .int m_faultAt, .int m_bad, .int m_badAt, .int m_token, .int m_at, .int m_behind, .int m_number, .int m_letters, .long m_word, .ref a_c, .ref a_words, .int m_markMany, .ref a_there, .ref a_tried, .ref a_best, .ref a_found, .int m_thereMany, .int m_foundMany, .int m_orderHow, .int m_orderRing, .int m_orderMany, .int m_hasBest, .long m_bestTop, .long m_bestBy, .ref a_weights, .ref a_shared, .int m_random, .int m_truePlace, .int m_trueWay, .int m_seconds, .int m_done, .int m_feelings, .int m_tries, .int m_leftOver, .int m_playDoor, .int m_playRing, .int m_isOpen, .int m_isOver, .int m_wasTried, .int m_hasPlayed, .ref a_feltNow, .ref a_last, .ref a_kept, .int m_hasSeconds, .int m_hasTurned, .int m_hasRound, .ref a_hasFeels, .ref a_isOn, .int m_firstAct, .long m_meanTop, .long m_meanBy, .ref a_order, .int m_rowMany, .int m_newSteps])), (a_c, .inl (cA.1 0, 1825, .inl g_c)), (a_there, .inl (cA.1 0, 10, .inl g_there))]) [1, 2, 0] rfl
          have hD := hD.sub (ws' := [(h0, .inr (12, [.int m_status, .int m_thrown, .long m_above, .long m_under, .ref a_traySort, .ref a_trayMany, .ref a_numbers, .ref a_tape, .int m_taped, .int m_textEnd, .int m_faultKind, .int m_faultAt, .int m_bad, .int m_badAt, .int m_token, .int m_at, .int m_behind, .int m_number, .int m_letters, .long m_word, .ref a_c, .ref a_words, .int m_markMany, .ref a_there, .ref a_tried, .ref a_best, .ref a_found, .int m_thereMany, .int m_foundMany, .int m_orderHow, .int m_orderRing, .int m_orderMany, .int m_hasBest, .long m_bestTop, .long m_bestBy, .ref a_weights, .ref a_shared, .int m_random, .int m_truePlace, .int m_trueWay, .int m_seconds, .int m_done, .int m_feelings, .int m_tries, .int m_leftOver, .int m_playDoor, .int m_playRing, .int m_isOpen, .int m_isOver, .int m_wasTried, .int m_hasPlayed, .ref a_feltNow, .ref a_last, .ref a_kept, .int m_hasSeconds, .int m_hasTurned, .int m_hasRound, .ref a_hasFeels, .ref a_isOn, .int m_firstAct, .long m_meanTop, .long m_meanBy, .ref a_order, .int m_rowMany, .int m_newSteps])), (a_c, .inl (cA.1 0, 1825, .inl g_c)), (a_there, .inl (cA.1 0, 10, .inl g_there))]) [1, 2, 0] (by decide) rfl
          exact ih_394 x_405 x_406 H locs ls (by omega) (by omega) hP hD hS (lv_sub hl [2, 3, 1, 0] rfl)
        · skip
          refine lv_if_eq (tgt := 49) hx hb dX12_opensOf_31 (by decide) (fun h9 => absurd h9 (by decide +kernel)) (fun _ => ?_)
          refine lv_aload_n hx hb dX12_opensOf_34 rfl (lv_at hl 0 rfl) ?_
          refine va_get (D := G) (ci := 12) (v := .ref a_c) (C := RX12) (T := TX12) (N := 65) hx hb hts inT12 hown hK hP 1 rfl rfl 20 (by decide) (hts _ tw_1905) (fun _ h9 => h9) rfl dX12_opensOf_35 ?_
          refine lv_sipush (v := 160) hx hb dX12_opensOf_38 (by decide) ?_
          refine lv_iload hx hb dX12_opensOf_41 (lv_at hl 3 rfl) ?_
          refine lv_iadd hx hb dX12_opensOf_43 ?_
          refine lv_topi (fun x_407 he_x_407 => ?_)
          have hq_x_407 := z_addq he_x_407 hk_160 (rfl : v_375.toInt = _) (by omega) (by omega)
          refine va_iald hx hb hK hP 2 0 rfl rfl (z_inN (by omega) (by omega)) dX12_opensOf_44 ?_
          refine lv_topi (fun x_408 he_x_408 => ?_)
          refine lv_i2l (v := (x_408).toInt64) hx hb dX12_opensOf_45 rfl ?_
          refine lv_topl (fun x_409 he_x_409 => ?_)
          have hq_x_409 := z_i2l he_x_409
          have hL_x_408 := z_full x_408
          refine lv_goto (tgt := 50) hx hb dX12_opensOf_46 (by decide) ?_
          refine lv_ladd hx hb dX12_opensOf_50 ?_
          have hL_v_374 := z_fulll v_374
          refine lv_topl (fun x_410 he_x_410 => ?_)
          refine lv_lstore_n (lv' := [(2, .long x_410), (0, .ref h0), (1, .int d), (4, .int v_375)]) hx hb dX12_opensOf_51 rfl hl (by decide) rfl (fun ls hl => ?_)
          obtain ⟨x_411, he_x_411⟩ : ∃ z : Int32, z = v_375 + 1 := ⟨_, rfl⟩
          have hq_x_411 := z_addq he_x_411 (rfl : v_375.toInt = _) hk_1 (by omega) (by omega)
          refine lv_iinc (v := x_411) (lv' := [(4, .int x_411), (2, .long x_410), (0, .ref h0), (1, .int d)]) hx hb dX12_opensOf_52 hl (k := 3) rfl ((z_ofi (by decide +kernel)).trans he_x_411.symm) (by decide) rfl (fun ls hl => ?_)
          refine lv_goto (tgt := 5) hx hb dX12_opensOf_55 (by decide) ?_
          have hP := hP.sub (ws' := [(h0, .inr (12, [.int m_status, .int m_thrown, .long m_above, .long m_under, .ref a_traySort, .ref a_trayMany, .ref a_numbers, .ref a_tape, .int m_taped, .int m_textEnd, .int m_faultKind, .int m_faultAt, .int m_bad, .int m_badAt, .int m_token, .int m_at, .int m_behind, .int m_number, .int m_letters, .long m_word, .ref a_c, .ref a_words, .int m_markMany, .ref a_there, .ref a_tried, .ref a_best, .ref a_found, .int m_thereMany, .int m_foundMany, .int m_orderHow, .int m_orderRing, .int m_orderMany, .int m_hasBest, .long m_bestTop, .long m_bestBy, .ref a_weights, .ref a_shared, .int m_random, .int m_truePlace, .int m_trueWay, .int m_seconds, .int m_done, .int m_feelings, .int m_tries, .int m_leftOver, .int m_playDoor, .int m_playRing, .int m_isOpen, .int m_isOver, .int m_wasTried, .int m_hasPlayed, .ref a_feltNow, .ref a_last, .ref a_kept, .int m_hasSeconds, .int m_hasTurned, .int m_hasRound, .ref a_hasFeels, .ref a_isOn, .int m_firstAct, .long m_meanTop, .long m_meanBy, .ref a_order, .int m_rowMany, .int m_newSteps])), (a_c, .inl (cA.1 0, 1825, .inl g_c)), (a_there, .inl (cA.1 0, 10, .inl g_there))]) [1, 2, 0] rfl
          have hD := hD.sub (ws' := [(h0, .inr (12, [.int m_status, .int m_thrown, .long m_above, .long m_under, .ref a_traySort, .ref a_trayMany, .ref a_numbers, .ref a_tape, .int m_taped, .int m_textEnd, .int m_faultKind, .int m_faultAt, .int m_bad, .int m_badAt, .int m_token, .int m_at, .int m_behind, .int m_number, .int m_letters, .long m_word, .ref a_c, .ref a_words, .int m_markMany, .ref a_there, .ref a_tried, .ref a_best, .ref a_found, .int m_thereMany, .int m_foundMany, .int m_orderHow, .int m_orderRing, .int m_orderMany, .int m_hasBest, .long m_bestTop, .long m_bestBy, .ref a_weights, .ref a_shared, .int m_random, .int m_truePlace, .int m_trueWay, .int m_seconds, .int m_done, .int m_feelings, .int m_tries, .int m_leftOver, .int m_playDoor, .int m_playRing, .int m_isOpen, .int m_isOver, .int m_wasTried, .int m_hasPlayed, .ref a_feltNow, .ref a_last, .ref a_kept, .int m_hasSeconds, .int m_hasTurned, .int m_hasRound, .ref a_hasFeels, .ref a_isOn, .int m_firstAct, .long m_meanTop, .long m_meanBy, .ref a_order, .int m_rowMany, .int m_newSteps])), (a_c, .inl (cA.1 0, 1825, .inl g_c)), (a_there, .inl (cA.1 0, 10, .inl g_there))]) [1, 2, 0] (by decide) rfl
          exact ih_394 x_410 x_411 H locs ls (by omega) (by omega) hP hD hS (lv_sub hl [2, 3, 1, 0] rfl)
  exact hlp_393 _ 0 0 _ _ _ (Nat.lt_succ_self _) (by decide +kernel) hP hD hS (lv_sub hl [2, 3, 1, 0] rfl)
set_option maxHeartbeats 4000000 in
set_option maxRecDepth 100000 in
theorem r_opens (l : Launch) (G : va_G) (cA : zCA) (h0 : Nat) (m_status : Int32) (m_thrown : Int32) (m_above : Int64) (m_under : Int64) (a_traySort : Nat) (a_trayMany : Nat) (a_numbers : Nat) (a_tape : Nat) (m_taped : Int32) (m_textEnd : Int32) (m_faultKind : Int32) (m_faultAt : Int32) (m_bad : Int32) (m_badAt : Int32) (m_token : Int32) (m_at : Int32) (m_behind : Int32) (m_number : Int32) (m_letters : Int32) (m_word : Int64) (a_c : Nat) (a_words : Nat) (m_markMany : Int32) (a_there : Nat) (a_tried : Nat) (a_best : Nat) (a_found : Nat) (m_thereMany : Int32) (m_foundMany : Int32) (m_orderHow : Int32) (m_orderRing : Int32) (m_orderMany : Int32) (m_hasBest : Int32) (m_bestTop : Int64) (m_bestBy : Int64) (a_weights : Nat) (a_shared : Nat) (m_random : Int32) (m_truePlace : Int32) (m_trueWay : Int32) (m_seconds : Int32) (m_done : Int32) (m_feelings : Int32) (m_tries : Int32) (m_leftOver : Int32) (m_playDoor : Int32) (m_playRing : Int32) (m_isOpen : Int32) (m_isOver : Int32) (m_wasTried : Int32) (m_hasPlayed : Int32) (a_feltNow : Nat) (a_last : Nat) (a_kept : Nat) (m_hasSeconds : Int32) (m_hasTurned : Int32) (m_hasRound : Int32) (a_hasFeels : Nat) (a_isOn : Nat) (m_firstAct : Int32) (m_meanTop : Int64) (m_meanBy : Int64) (a_order : Nat) (m_rowMany : Int32) (m_newSteps : Int32) (g_c : Nat → Int32) (g_there : Nat → Int32) (d : Int32) (hr_m_thereMany : 0 ≤ m_thereMany.toInt ∧ m_thereMany.toInt ≤ 10) (hC_g_c : zC g_c) (hC_g_there : zRg 10 0 9 g_there) : zCi l yX12_opens cX12_opens 2 (some .boolean) ({ frames := 2, cells := 0, slots := 0, locals := 51 }) G cA [.ref h0, .int d] [(h0, .inr (12, [.int m_status, .int m_thrown, .long m_above, .long m_under, .ref a_traySort, .ref a_trayMany, .ref a_numbers, .ref a_tape, .int m_taped, .int m_textEnd, .int m_faultKind, .int m_faultAt, .int m_bad, .int m_badAt, .int m_token, .int m_at, .int m_behind, .int m_number, .int m_letters, .long m_word, .ref a_c, .ref a_words, .int m_markMany, .ref a_there, .ref a_tried, .ref a_best, .ref a_found, .int m_thereMany, .int m_foundMany, .int m_orderHow, .int m_orderRing, .int m_orderMany, .int m_hasBest, .long m_bestTop, .long m_bestBy, .ref a_weights, .ref a_shared, .int m_random, .int m_truePlace, .int m_trueWay, .int m_seconds, .int m_done, .int m_feelings, .int m_tries, .int m_leftOver, .int m_playDoor, .int m_playRing, .int m_isOpen, .int m_isOver, .int m_wasTried, .int m_hasPlayed, .ref a_feltNow, .ref a_last, .ref a_kept, .int m_hasSeconds, .int m_hasTurned, .int m_hasRound, .ref a_hasFeels, .ref a_isOn, .int m_firstAct, .long m_meanTop, .long m_meanBy, .ref a_order, .int m_rowMany, .int m_newSteps])), (a_c, .inl (cA.1 0, 1825, .inl g_c)), (a_there, .inl (cA.1 0, 10, .inl g_there))] (S := Int32 × Int32 × Int32 × (Nat → Int32) × Int64 × Int64) (fun (r : Int32) (u : Int32 × Int32 × Int32 × (Nat → Int32) × Int64 × Int64) => (r = 0 ∧ (0 ≤ u.2.1.toInt ∧ u.2.1.toInt ≤ 0) ∧ (0 ≤ u.2.2.1.toInt ∧ u.2.2.1.toInt ≤ 10) ∧ (zRg 10 0 9 u.2.2.2.1)) ∨ (r = 1 ∧ (0 ≤ u.1.toInt ∧ u.1.toInt ≤ 0) ∧ (0 ≤ u.2.1.toInt ∧ u.2.1.toInt ≤ 0) ∧ (0 ≤ u.2.2.1.toInt ∧ u.2.2.1.toInt ≤ 10) ∧ (zRg 10 0 9 u.2.2.2.1))) (fun (u : Int32 × Int32 × Int32 × (Nat → Int32) × Int64 × Int64) => [(h0, .inr (12, [.int u.1, .int u.2.1, .long u.2.2.2.2.1, .long u.2.2.2.2.2, .ref a_traySort, .ref a_trayMany, .ref a_numbers, .ref a_tape, .int m_taped, .int m_textEnd, .int m_faultKind, .int m_faultAt, .int m_bad, .int m_badAt, .int m_token, .int m_at, .int m_behind, .int m_number, .int m_letters, .long m_word, .ref a_c, .ref a_words, .int m_markMany, .ref a_there, .ref a_tried, .ref a_best, .ref a_found, .int u.2.2.1, .int m_foundMany, .int m_orderHow, .int m_orderRing, .int m_orderMany, .int m_hasBest, .long m_bestTop, .long m_bestBy, .ref a_weights, .ref a_shared, .int m_random, .int m_truePlace, .int m_trueWay, .int m_seconds, .int m_done, .int m_feelings, .int m_tries, .int m_leftOver, .int m_playDoor, .int m_playRing, .int m_isOpen, .int m_isOver, .int m_wasTried, .int m_hasPlayed, .ref a_feltNow, .ref a_last, .ref a_kept, .int m_hasSeconds, .int m_hasTurned, .int m_hasRound, .ref a_hasFeels, .ref a_isOn, .int m_firstAct, .long m_meanTop, .long m_meanBy, .ref a_order, .int m_rowMany, .int m_newSteps])), (a_c, .inl (cA.1 0, 1825, .inl g_c)), (a_there, .inl (cA.1 0, 10, .inl u.2.2.2.1))]) 0 0 := by
  have hk_2 : (2 : Int32).toInt = 2 := by decide +kernel
  have hk_8 : (8 : Int32).toInt = 8 := by decide +kernel
  have hk_1000000 : (1000000 : Int32).toInt = 1000000 := by decide +kernel
  have hkl_1000000 : (1000000 : Int64).toInt = 1000000 := by decide +kernel
  refine z_start2z (own := RX12) (by decide) (Nat.le_of_ble_eq_true rfl) rfl ?_
  intro p e s m args below meth c A ls Q hx hb hml hts hown hK hE hT hP hD hS hA hl hret
  have hl : lv_has ls 2 [(0, .ref h0), (1, .int d)] := hl
  refine lv_aload_n hx hb dX12_opens_0 rfl (lv_at hl 0 rfl) ?_
  refine lv_iconst (v := 0) hx hb dX12_opens_1 (by decide) ?_
  refine va_put (D := G) (ci := 12) (v := .int 0) (ty := .int) (C := RX12) (T := TX12) (N := 65) hx hb hts inT12 tyX12 tyX12_ok nmX12 hown hK hP hD hS 0 rfl rfl 1 (by decide) (hts _ tw_1886) (fun _ h9 => h9) rfl (tyX12_ok 1 (by decide)) rfl rfl (Nat.le_of_ble_eq_true rfl) dX12_opens_2 (fun H locs hP hD hS => ?_)
  refine lv_aload_n hx hb dX12_opens_5 rfl (lv_at hl 0 rfl) ?_
  refine lv_iconst (v := 0) hx hb dX12_opens_6 (by decide) ?_
  refine va_put (D := G) (ci := 12) (v := .int 0) (ty := .int) (C := RX12) (T := TX12) (N := 65) hx hb hts inT12 tyX12 tyX12_ok nmX12 hown hK hP hD hS 0 rfl rfl 0 (by decide) (hts _ tw_1885) (fun _ h9 => h9) rfl (tyX12_ok 0 (by decide)) rfl rfl (Nat.le_of_ble_eq_true rfl) dX12_opens_7 (fun H locs hP hD hS => ?_)
  refine lv_aload_n hx hb dX12_opens_10 rfl (lv_at hl 0 rfl) ?_
  refine lv_iload_n hx hb dX12_opens_11 rfl (lv_at hl 1 rfl) ?_
  refine z_callVi (As := [.int d]) (rest := []) (wr := [(a_there, .inl (cA.1 0, 10, .inl g_there))]) ⟨hx, hb, hml, hown, hts⟩ hK hE hT hP hD hS hA (r_isDoor l G cA h0 0 0 m_above m_under a_traySort a_trayMany a_numbers a_tape m_taped m_textEnd m_faultKind m_faultAt m_bad m_badAt m_token m_at m_behind m_number m_letters m_word a_c a_words m_markMany a_there a_tried a_best a_found m_thereMany m_foundMany m_orderHow m_orderRing m_orderMany m_hasBest m_bestTop m_bestBy a_weights a_shared m_random m_truePlace m_trueWay m_seconds m_done m_feelings m_tries m_leftOver m_playDoor m_playRing m_isOpen m_isOver m_wasTried m_hasPlayed a_feltNow a_last a_kept m_hasSeconds m_hasTurned m_hasRound a_hasFeels a_isOn m_firstAct m_meanTop m_meanBy a_order m_rowMany m_newSteps g_c d hC_g_c) lk_RX12_295 ⟨rfl, rfl⟩ ⟨Nat.le_of_ble_eq_true rfl, Nat.le_of_ble_eq_true rfl⟩ 12 rfl rfl rfl [0, 1] [2] rfl rfl (by decide) rfl hl.1 rfl (lv_room (Nat.le_of_ble_eq_true rfl)) dX12_opens_12 ⟨Nat.le_of_ble_eq_true rfl, Nat.le_of_ble_eq_true rfl⟩ (fun r_1 u_2 H locs hw hP hD hS => ?_)
  obtain ⟨he_r_1, hw⟩ := hw
  rcases hw with ⟨rfl, -⟩ | ⟨rfl, hf_3, hf_4⟩
  · skip
    refine lv_if_ne (tgt := 24) hx hb dX12_opens_15 (by decide) (fun h9 => absurd (by decide +kernel) h9) (fun _ => ?_)
    refine lv_aload_n hx hb dX12_opens_18 rfl (lv_at hl 0 rfl) ?_
    refine lv_iconst (v := 2) hx hb dX12_opens_19 (by decide) ?_
    refine z_callVi (As := [.int 2]) (rest := []) (wr := [(a_there, .inl (cA.1 0, 10, .inl g_there)), (a_c, .inl (cA.1 0, 1825, .inl g_c))]) ⟨hx, hb, hml, hown, hts⟩ hK hE hT hP hD hS hA (r_no l G cA h0 0 0 m_above m_under a_traySort a_trayMany a_numbers a_tape m_taped m_textEnd m_faultKind m_faultAt m_bad m_badAt m_token m_at m_behind m_number m_letters m_word a_c a_words m_markMany a_there a_tried a_best a_found m_thereMany m_foundMany m_orderHow m_orderRing m_orderMany m_hasBest m_bestTop m_bestBy a_weights a_shared m_random m_truePlace m_trueWay m_seconds m_done m_feelings m_tries m_leftOver m_playDoor m_playRing m_isOpen m_isOver m_wasTried m_hasPlayed a_feltNow a_last a_kept m_hasSeconds m_hasTurned m_hasRound a_hasFeels a_isOn m_firstAct m_meanTop m_meanBy a_order m_rowMany m_newSteps 2) lk_RX12_97 ⟨rfl, rfl⟩ ⟨Nat.le_of_ble_eq_true rfl, Nat.le_of_ble_eq_true rfl⟩ 12 rfl rfl rfl [1] [0, 2] rfl rfl (by decide) rfl hl.1 rfl (lv_room (Nat.le_of_ble_eq_true rfl)) dX12_opens_20 ⟨Nat.le_of_ble_eq_true rfl, Nat.le_of_ble_eq_true rfl⟩ (fun r_6 u_7 H locs hw hP hD hS => ?_)
    obtain ⟨n_5, rfl⟩ : ∃ z, z = u_7 := ⟨_, rfl⟩
    obtain ⟨he_r_6, he_n_5, hw⟩ := hw
    obtain ⟨rfl, -⟩ := hw
    have hpost : ((0 : Int32) = 0 ∧ (0 ≤ (0 : Int32).toInt ∧ (0 : Int32).toInt ≤ 0) ∧ (0 ≤ m_thereMany.toInt ∧ m_thereMany.toInt ≤ 10) ∧ (zRg 10 0 9 g_there)) ∨ ((0 : Int32) = 1 ∧ (0 ≤ n_5.toInt ∧ n_5.toInt ≤ 0) ∧ (0 ≤ (0 : Int32).toInt ∧ (0 : Int32).toInt ≤ 0) ∧ (0 ≤ m_thereMany.toInt ∧ m_thereMany.toInt ≤ 10) ∧ (zRg 10 0 9 g_there)) := (Or.inl ⟨rfl, ⟨(by decide +kernel), hr_m_thereMany, hC_g_there⟩⟩)
    exact hret _ _ _ _ _ _ (n_5, 0, m_thereMany, g_there, m_above, m_under) [2, 1, 0] hP hD hS rfl (by decide) dX12_opens_23 (Or.inl rfl) hpost
  · skip
    refine lv_if_ne (tgt := 24) hx hb dX12_opens_15 (by decide) (fun _ => ?_) (fun h9 => absurd h9 (by decide +kernel))
    refine lv_aload_n hx hb dX12_opens_24 rfl (lv_at hl 0 rfl) ?_
    refine z_callVi (As := []) (rest := []) (wr := []) ⟨hx, hb, hml, hown, hts⟩ hK hE hT hP hD hS hA (r_isHeld l G cA h0 0 0 m_above m_under a_traySort a_trayMany a_numbers a_tape m_taped m_textEnd m_faultKind m_faultAt m_bad m_badAt m_token m_at m_behind m_number m_letters m_word a_c a_words m_markMany a_there a_tried a_best a_found m_thereMany m_foundMany m_orderHow m_orderRing m_orderMany m_hasBest m_bestTop m_bestBy a_weights a_shared m_random m_truePlace m_trueWay m_seconds m_done m_feelings m_tries m_leftOver m_playDoor m_playRing m_isOpen m_isOver m_wasTried m_hasPlayed a_feltNow a_last a_kept m_hasSeconds m_hasTurned m_hasRound a_hasFeels a_isOn m_firstAct m_meanTop m_meanBy a_order m_rowMany m_newSteps g_c g_there hr_m_thereMany hC_g_c hC_g_there) lk_RX12_323 ⟨rfl, rfl⟩ ⟨Nat.le_of_ble_eq_true rfl, Nat.le_of_ble_eq_true rfl⟩ 12 rfl rfl rfl [1, 2, 0] [] rfl rfl (by decide) rfl hl.1 rfl (lv_room (Nat.le_of_ble_eq_true rfl)) dX12_opens_25 ⟨Nat.le_of_ble_eq_true rfl, Nat.le_of_ble_eq_true rfl⟩ (fun r_10 u_11 H locs hw hP hD hS => ?_)
    obtain ⟨n_8, n_9⟩ := u_11
    try dsimp only at hw
    rcases hw with ⟨rfl, hr_n_8, hC_n_9⟩ | ⟨rfl, hr_n_8, hC_n_9⟩
    · skip
      refine lv_if_eq (tgt := 46) hx hb dX12_opens_28 (by decide) (fun _ => ?_) (fun h9 => absurd (by decide +kernel) h9)
      refine lv_aload_n hx hb dX12_opens_46 rfl (lv_at hl 0 rfl) ?_
      refine lv_bipush (v := 8) hx hb dX12_opens_47 (by decide) ?_
      refine z_callVi (As := [.int 8]) (rest := []) (wr := [(a_c, .inl (cA.1 0, 1825, .inl g_c)), (a_there, .inl (cA.1 0, 10, .inl n_9))]) ⟨hx, hb, hml, hown, hts⟩ hK hE hT hP hD hS hA (r_no l G cA h0 0 0 m_above m_under a_traySort a_trayMany a_numbers a_tape m_taped m_textEnd m_faultKind m_faultAt m_bad m_badAt m_token m_at m_behind m_number m_letters m_word a_c a_words m_markMany a_there a_tried a_best a_found n_8 m_foundMany m_orderHow m_orderRing m_orderMany m_hasBest m_bestTop m_bestBy a_weights a_shared m_random m_truePlace m_trueWay m_seconds m_done m_feelings m_tries m_leftOver m_playDoor m_playRing m_isOpen m_isOver m_wasTried m_hasPlayed a_feltNow a_last a_kept m_hasSeconds m_hasTurned m_hasRound a_hasFeels a_isOn m_firstAct m_meanTop m_meanBy a_order m_rowMany m_newSteps 8) lk_RX12_97 ⟨rfl, rfl⟩ ⟨Nat.le_of_ble_eq_true rfl, Nat.le_of_ble_eq_true rfl⟩ 12 rfl rfl rfl [0] [1, 2] rfl rfl (by decide) rfl hl.1 rfl (lv_room (Nat.le_of_ble_eq_true rfl)) dX12_opens_49 ⟨Nat.le_of_ble_eq_true rfl, Nat.le_of_ble_eq_true rfl⟩ (fun r_13 u_14 H locs hw hP hD hS => ?_)
      obtain ⟨n_12, rfl⟩ : ∃ z, z = u_14 := ⟨_, rfl⟩
      obtain ⟨he_r_13, he_n_12, hw⟩ := hw
      obtain ⟨rfl, -⟩ := hw
      have hpost : ((0 : Int32) = 0 ∧ (0 ≤ (0 : Int32).toInt ∧ (0 : Int32).toInt ≤ 0) ∧ (0 ≤ n_8.toInt ∧ n_8.toInt ≤ 10) ∧ (zRg 10 0 9 n_9)) ∨ ((0 : Int32) = 1 ∧ (0 ≤ n_12.toInt ∧ n_12.toInt ≤ 0) ∧ (0 ≤ (0 : Int32).toInt ∧ (0 : Int32).toInt ≤ 0) ∧ (0 ≤ n_8.toInt ∧ n_8.toInt ≤ 10) ∧ (zRg 10 0 9 n_9)) := (Or.inl ⟨rfl, ⟨(by decide +kernel), hr_n_8, hC_n_9⟩⟩)
      exact hret _ _ _ _ _ _ (n_12, 0, n_8, n_9, m_above, m_under) [2, 0, 1] hP hD hS rfl (by decide) dX12_opens_52 (Or.inl rfl) hpost
    · skip
      refine lv_if_eq (tgt := 46) hx hb dX12_opens_28 (by decide) (fun h9 => absurd h9 (by decide +kernel)) (fun _ => ?_)
      refine lv_aload_n hx hb dX12_opens_31 rfl (lv_at hl 0 rfl) ?_
      refine lv_aload_n hx hb dX12_opens_32 rfl (lv_at hl 0 rfl) ?_
      refine lv_iload_n hx hb dX12_opens_33 rfl (lv_at hl 1 rfl) ?_
      refine z_callVl (As := [.int d]) (rest := [.ref h0]) (wr := []) ⟨hx, hb, hml, hown, hts⟩ hK hE hT hP hD hS hA (r_opensOf l G cA h0 0 0 m_above m_under a_traySort a_trayMany a_numbers a_tape m_taped m_textEnd m_faultKind m_faultAt m_bad m_badAt m_token m_at m_behind m_number m_letters m_word a_c a_words m_markMany a_there a_tried a_best a_found n_8 m_foundMany m_orderHow m_orderRing m_orderMany m_hasBest m_bestTop m_bestBy a_weights a_shared m_random m_truePlace m_trueWay m_seconds m_done m_feelings m_tries m_leftOver m_playDoor m_playRing m_isOpen m_isOver m_wasTried m_hasPlayed a_feltNow a_last a_kept m_hasSeconds m_hasTurned m_hasRound a_hasFeels a_isOn m_firstAct m_meanTop m_meanBy a_order m_rowMany m_newSteps g_c n_9 d (by omega) hr_n_8 hC_g_c hC_n_9) lk_RX12_356 ⟨rfl, rfl⟩ ⟨Nat.le_of_ble_eq_true rfl, Nat.le_of_ble_eq_true rfl⟩ 12 rfl rfl rfl [0, 1, 2] [] rfl rfl (by decide) rfl hl.1 rfl (lv_room (Nat.le_of_ble_eq_true rfl)) dX12_opens_34 ⟨Nat.le_of_ble_eq_true rfl, Nat.le_of_ble_eq_true rfl⟩ (fun r_15 u_16 H locs hw hP hD hS => ?_)
      refine lv_ldc2 (v := 1000000) hx hb hown (hts _ tw_2374) dX12_opens_37 ?_
      refine z_callVi (As := [.long r_15, .long 1000000]) (rest := []) (wr := [(a_c, .inl (cA.1 0, 1825, .inl g_c)), (a_there, .inl (cA.1 0, 10, .inl n_9))]) ⟨hx, hb, hml, hown, hts⟩ hK hE hT hP hD hS hA (r_fraction l G cA h0 0 0 m_above m_under a_traySort a_trayMany a_numbers a_tape m_taped m_textEnd m_faultKind m_faultAt m_bad m_badAt m_token m_at m_behind m_number m_letters m_word a_c a_words m_markMany a_there a_tried a_best a_found n_8 m_foundMany m_orderHow m_orderRing m_orderMany m_hasBest m_bestTop m_bestBy a_weights a_shared m_random m_truePlace m_trueWay m_seconds m_done m_feelings m_tries m_leftOver m_playDoor m_playRing m_isOpen m_isOver m_wasTried m_hasPlayed a_feltNow a_last a_kept m_hasSeconds m_hasTurned m_hasRound a_hasFeels a_isOn m_firstAct m_meanTop m_meanBy a_order m_rowMany m_newSteps r_15 1000000 (by omega)) lk_RX12_352 ⟨rfl, rfl⟩ ⟨Nat.le_of_ble_eq_true rfl, Nat.le_of_ble_eq_true rfl⟩ 12 rfl rfl rfl [0] [1, 2] rfl rfl (by decide) rfl hl.1 rfl (lv_room (Nat.le_of_ble_eq_true rfl)) dX12_opens_40 ⟨Nat.le_of_ble_eq_true rfl, Nat.le_of_ble_eq_true rfl⟩ (fun r_19 u_20 H locs hw hP hD hS => ?_)
      obtain ⟨n_17, n_18⟩ := u_20
      try dsimp only at hw
      obtain ⟨rfl, -⟩ := hw
      refine lv_goto (tgt := 52) hx hb dX12_opens_43 (by decide) ?_
      have hpost : ((1 : Int32) = 0 ∧ (0 ≤ (0 : Int32).toInt ∧ (0 : Int32).toInt ≤ 0) ∧ (0 ≤ n_8.toInt ∧ n_8.toInt ≤ 10) ∧ (zRg 10 0 9 n_9)) ∨ ((1 : Int32) = 1 ∧ (0 ≤ (0 : Int32).toInt ∧ (0 : Int32).toInt ≤ 0) ∧ (0 ≤ (0 : Int32).toInt ∧ (0 : Int32).toInt ≤ 0) ∧ (0 ≤ n_8.toInt ∧ n_8.toInt ≤ 10) ∧ (zRg 10 0 9 n_9)) := (Or.inr ⟨rfl, ⟨(by decide +kernel), (by decide +kernel), hr_n_8, hC_n_9⟩⟩)
      exact hret _ _ _ _ _ _ (0, 0, n_8, n_9, n_17, n_18) [2, 0, 1] hP hD hS rfl (by decide) dX12_opens_52 (Or.inr rfl) hpost
set_option maxHeartbeats 4000000 in
set_option maxRecDepth 100000 in
theorem r_worthOf_0 (l : Launch) (G : va_G) (cA : zCA) (h0 : Nat) (m_status : Int32) (m_thrown : Int32) (m_above : Int64) (m_under : Int64) (a_traySort : Nat) (a_trayMany : Nat) (a_numbers : Nat) (a_tape : Nat) (m_taped : Int32) (m_textEnd : Int32) (m_faultKind : Int32) (m_faultAt : Int32) (m_bad : Int32) (m_badAt : Int32) (m_token : Int32) (m_at : Int32) (m_behind : Int32) (m_number : Int32) (m_letters : Int32) (m_word : Int64) (a_c : Nat) (a_words : Nat) (m_markMany : Int32) (a_there : Nat) (a_tried : Nat) (a_best : Nat) (a_found : Nat) (m_thereMany : Int32) (m_foundMany : Int32) (m_orderHow : Int32) (m_orderRing : Int32) (m_orderMany : Int32) (m_hasBest : Int32) (m_bestTop : Int64) (m_bestBy : Int64) (a_weights : Nat) (a_shared : Nat) (m_random : Int32) (m_truePlace : Int32) (m_trueWay : Int32) (m_seconds : Int32) (m_done : Int32) (m_feelings : Int32) (m_tries : Int32) (m_leftOver : Int32) (m_playDoor : Int32) (m_playRing : Int32) (m_isOpen : Int32) (m_isOver : Int32) (m_wasTried : Int32) (m_hasPlayed : Int32) (a_feltNow : Nat) (a_last : Nat) (a_kept : Nat) (m_hasSeconds : Int32) (m_hasTurned : Int32) (m_hasRound : Int32) (a_hasFeels : Nat) (a_isOn : Nat) (m_firstAct : Int32) (m_meanTop : Int64) (m_meanBy : Int64) (a_order : Nat) (m_rowMany : Int32) (m_newSteps : Int32) (pp : Int32) (d : Int32) (hr_pp : 0 ≤ pp.toInt ∧ pp.toInt ≤ 4) (hr_d : 0 ≤ d.toInt ∧ d.toInt ≤ 4) : zCl l yX12_worthOf cX12_worthOf 10 (some .long) ({ frames := 0, cells := 0, slots := 0, locals := 0 }) G cA [.ref h0, .int pp, .int 0, .int d] [(h0, .inr (12, [.int m_status, .int m_thrown, .long m_above, .long m_under, .ref a_traySort, .ref a_trayMany, .ref a_numbers, .ref a_tape, .int m_taped, .int m_textEnd, .int m_faultKind, .int m_faultAt, .int m_bad, .int m_badAt, .int m_token, .int m_at, .int m_behind, .int m_number, .int m_letters, .long m_word, .ref a_c, .ref a_words, .int m_markMany, .ref a_there, .ref a_tried, .ref a_best, .ref a_found, .int m_thereMany, .int m_foundMany, .int m_orderHow, .int m_orderRing, .int m_orderMany, .int m_hasBest, .long m_bestTop, .long m_bestBy, .ref a_weights, .ref a_shared, .int m_random, .int m_truePlace, .int m_trueWay, .int m_seconds, .int m_done, .int m_feelings, .int m_tries, .int m_leftOver, .int m_playDoor, .int m_playRing, .int m_isOpen, .int m_isOver, .int m_wasTried, .int m_hasPlayed, .ref a_feltNow, .ref a_last, .ref a_kept, .int m_hasSeconds, .int m_hasTurned, .int m_hasRound, .ref a_hasFeels, .ref a_isOn, .int m_firstAct, .long m_meanTop, .long m_meanBy, .ref a_order, .int m_rowMany, .int m_newSteps]))] (S := Unit) (fun (r : Int64) (u : Unit) => (0 ≤ r.toInt ∧ r.toInt ≤ 0)) (fun (u : Unit) => [(h0, .inr (12, [.int m_status, .int m_thrown, .long m_above, .long m_under, .ref a_traySort, .ref a_trayMany, .ref a_numbers, .ref a_tape, .int m_taped, .int m_textEnd, .int m_faultKind, .int m_faultAt, .int m_bad, .int m_badAt, .int m_token, .int m_at, .int m_behind, .int m_number, .int m_letters, .long m_word, .ref a_c, .ref a_words, .int m_markMany, .ref a_there, .ref a_tried, .ref a_best, .ref a_found, .int m_thereMany, .int m_foundMany, .int m_orderHow, .int m_orderRing, .int m_orderMany, .int m_hasBest, .long m_bestTop, .long m_bestBy, .ref a_weights, .ref a_shared, .int m_random, .int m_truePlace, .int m_trueWay, .int m_seconds, .int m_done, .int m_feelings, .int m_tries, .int m_leftOver, .int m_playDoor, .int m_playRing, .int m_isOpen, .int m_isOver, .int m_wasTried, .int m_hasPlayed, .ref a_feltNow, .ref a_last, .ref a_kept, .int m_hasSeconds, .int m_hasTurned, .int m_hasRound, .ref a_hasFeels, .ref a_isOn, .int m_firstAct, .long m_meanTop, .long m_meanBy, .ref a_order, .int m_rowMany, .int m_newSteps]))]) 0 0 := by
  refine z_start2l (own := RX12) (by decide) (Nat.le_of_ble_eq_true rfl) rfl ?_
  intro p e s m args below meth c A ls Q hx hb hml hts hown hK hE hT hP hD hS hA hl hret
  have hl : lv_has ls 10 [(0, .ref h0), (1, .int pp), (2, .int 0), (3, .int d)] := hl
  refine lv_iload_n hx hb dX12_worthOf_0 rfl (lv_at hl 2 rfl) ?_
  refine lv_if_ne (tgt := 6) hx hb dX12_worthOf_1 (by decide) (fun h9 => absurd (by decide +kernel) h9) (fun _ => ?_)
  refine lv_lconst (v := 0) hx hb dX12_worthOf_4 (by decide) ?_
  have hpost : (0 ≤ (0 : Int64).toInt ∧ (0 : Int64).toInt ≤ 0) := (by decide +kernel)
  exact hret _ _ _ _ _ _ () [0] hP hD hS rfl (by decide) dX12_worthOf_5 hpost
set_option maxHeartbeats 4000000 in
set_option maxRecDepth 100000 in
theorem r_triedWorth_1 (l : Launch) (G : va_G) (cA : zCA) (h0 : Nat) (m_status : Int32) (m_thrown : Int32) (m_above : Int64) (m_under : Int64) (a_traySort : Nat) (a_trayMany : Nat) (a_numbers : Nat) (a_tape : Nat) (m_taped : Int32) (m_textEnd : Int32) (m_faultKind : Int32) (m_faultAt : Int32) (m_bad : Int32) (m_badAt : Int32) (m_token : Int32) (m_at : Int32) (m_behind : Int32) (m_number : Int32) (m_letters : Int32) (m_word : Int64) (a_c : Nat) (a_words : Nat) (m_markMany : Int32) (a_there : Nat) (a_tried : Nat) (a_best : Nat) (a_found : Nat) (m_thereMany : Int32) (m_foundMany : Int32) (m_orderHow : Int32) (m_orderRing : Int32) (m_orderMany : Int32) (m_hasBest : Int32) (m_bestTop : Int64) (m_bestBy : Int64) (a_weights : Nat) (a_shared : Nat) (m_random : Int32) (m_truePlace : Int32) (m_trueWay : Int32) (m_seconds : Int32) (m_done : Int32) (m_feelings : Int32) (m_tries : Int32) (m_leftOver : Int32) (m_playDoor : Int32) (m_playRing : Int32) (m_isOpen : Int32) (m_isOver : Int32) (m_wasTried : Int32) (m_hasPlayed : Int32) (a_feltNow : Nat) (a_last : Nat) (a_kept : Nat) (m_hasSeconds : Int32) (m_hasTurned : Int32) (m_hasRound : Int32) (a_hasFeels : Nat) (a_isOn : Nat) (m_firstAct : Int32) (m_meanTop : Int64) (m_meanBy : Int64) (a_order : Nat) (m_rowMany : Int32) (m_newSteps : Int32) (g_c : Nat → Int32) (g_there : Nat → Int32) (g_weights : Nat → Int64) (pp : Int32) (d : Int32) (hr_pp : 0 ≤ pp.toInt ∧ pp.toInt ≤ 3) (hr_d : 0 ≤ d.toInt ∧ d.toInt ≤ 4) (hr_m_thereMany : 0 ≤ m_thereMany.toInt ∧ m_thereMany.toInt ≤ 10) (hC_g_c : zC g_c) (hC_g_there : zRg 10 0 9 g_there) : zCl l yX12_triedWorth cX12_triedWorth 8 (some .long) ({ frames := 1, cells := 0, slots := 0, locals := 29 }) G cA [.ref h0, .int pp, .int 1, .int d] [(h0, .inr (12, [.int m_status, .int m_thrown, .long m_above, .long m_under, .ref a_traySort, .ref a_trayMany, .ref a_numbers, .ref a_tape, .int m_taped, .int m_textEnd, .int m_faultKind, .int m_faultAt, .int m_bad, .int m_badAt, .int m_token, .int m_at, .int m_behind, .int m_number, .int m_letters, .long m_word, .ref a_c, .ref a_words, .int m_markMany, .ref a_there, .ref a_tried, .ref a_best, .ref a_found, .int m_thereMany, .int m_foundMany, .int m_orderHow, .int m_orderRing, .int m_orderMany, .int m_hasBest, .long m_bestTop, .long m_bestBy, .ref a_weights, .ref a_shared, .int m_random, .int m_truePlace, .int m_trueWay, .int m_seconds, .int m_done, .int m_feelings, .int m_tries, .int m_leftOver, .int m_playDoor, .int m_playRing, .int m_isOpen, .int m_isOver, .int m_wasTried, .int m_hasPlayed, .ref a_feltNow, .ref a_last, .ref a_kept, .int m_hasSeconds, .int m_hasTurned, .int m_hasRound, .ref a_hasFeels, .ref a_isOn, .int m_firstAct, .long m_meanTop, .long m_meanBy, .ref a_order, .int m_rowMany, .int m_newSteps])), (a_c, .inl (cA.1 0, 1825, .inl g_c)), (a_there, .inl (cA.1 0, 10, .inl g_there)), (a_weights, .inl (cA.1 1, 100, .inr (.inl g_weights)))] (S := (Nat → Int64)) (fun (r : Int64) (u : (Nat → Int64)) => True) (fun (u : (Nat → Int64)) => [(h0, .inr (12, [.int m_status, .int m_thrown, .long m_above, .long m_under, .ref a_traySort, .ref a_trayMany, .ref a_numbers, .ref a_tape, .int m_taped, .int m_textEnd, .int m_faultKind, .int m_faultAt, .int m_bad, .int m_badAt, .int m_token, .int m_at, .int m_behind, .int m_number, .int m_letters, .long m_word, .ref a_c, .ref a_words, .int m_markMany, .ref a_there, .ref a_tried, .ref a_best, .ref a_found, .int m_thereMany, .int m_foundMany, .int m_orderHow, .int m_orderRing, .int m_orderMany, .int m_hasBest, .long m_bestTop, .long m_bestBy, .ref a_weights, .ref a_shared, .int m_random, .int m_truePlace, .int m_trueWay, .int m_seconds, .int m_done, .int m_feelings, .int m_tries, .int m_leftOver, .int m_playDoor, .int m_playRing, .int m_isOpen, .int m_isOver, .int m_wasTried, .int m_hasPlayed, .ref a_feltNow, .ref a_last, .ref a_kept, .int m_hasSeconds, .int m_hasTurned, .int m_hasRound, .ref a_hasFeels, .ref a_isOn, .int m_firstAct, .long m_meanTop, .long m_meanBy, .ref a_order, .int m_rowMany, .int m_newSteps])), (a_c, .inl (cA.1 0, 1825, .inl g_c)), (a_there, .inl (cA.1 0, 10, .inl g_there)), (a_weights, .inl (cA.1 1, 100, .inr (.inl u)))]) 0 0 := by
  have hk_0 : (0 : Int32).toInt = 0 := by decide +kernel
  have hk_1 : (1 : Int32).toInt = 1 := by decide +kernel
  have hk_2 : (2 : Int32).toInt = 2 := by decide +kernel
  have hk_20 : (20 : Int32).toInt = 20 := by decide +kernel
  have hkl_0 : (0 : Int64).toInt = 0 := by decide +kernel
  have hkl_16 : (16 : Int64).toInt = 16 := by decide +kernel
  refine z_start2l (own := RX12) (by decide) (Nat.le_of_ble_eq_true rfl) rfl ?_
  intro p e s m args below meth c A ls Q hx hb hml hts hown hK hE hT hP hD hS hA hl hret
  have hl : lv_has ls 8 [(0, .ref h0), (1, .int pp), (2, .int 1), (3, .int d)] := hl
  refine lv_lconst (v := 0) hx hb dX12_triedWorth_0 (by decide) ?_
  refine lv_lstore (lv' := [(4, .long 0), (0, .ref h0), (1, .int pp), (2, .int 1), (3, .int d)]) hx hb dX12_triedWorth_1 hl (by decide) rfl (fun ls hl => ?_)
  refine lv_iconst (v := 0) hx hb dX12_triedWorth_3 (by decide) ?_
  refine lv_istore (lv' := [(6, .int 0), (4, .long 0), (0, .ref h0), (1, .int pp), (2, .int 1), (3, .int d)]) hx hb dX12_triedWorth_4 hl (by decide) rfl (fun ls hl => ?_)
  have hlp_645 : ∀ (n : Nat) (v_614 : Int64) (v_615 : Int32) (g_616 : Nat → Int64) (H : Heap) (locs : List Loc) (ls : Array Slot), (2147483647 - v_615.toInt).toNat < n → (0 ≤ v_615.toInt ∧ v_615.toInt ≤ 20) → va_P G vwCl [(h0, .inr (12, [.int m_status, .int m_thrown, .long m_above, .long m_under, .ref a_traySort, .ref a_trayMany, .ref a_numbers, .ref a_tape, .int m_taped, .int m_textEnd, .int m_faultKind, .int m_faultAt, .int m_bad, .int m_badAt, .int m_token, .int m_at, .int m_behind, .int m_number, .int m_letters, .long m_word, .ref a_c, .ref a_words, .int m_markMany, .ref a_there, .ref a_tried, .ref a_best, .ref a_found, .int m_thereMany, .int m_foundMany, .int m_orderHow, .int m_orderRing, .int m_orderMany, .int m_hasBest, .long m_bestTop, .long m_bestBy, .ref a_weights, .ref a_shared, .int m_random, .int m_truePlace, .int m_trueWay, .int m_seconds, .int m_done, .int m_feelings, .int m_tries, .int m_leftOver, .int m_playDoor, .int m_playRing, .int m_isOpen, .int m_isOver, .int m_wasTried, .int m_hasPlayed, .ref a_feltNow, .ref a_last, .ref a_kept, .int m_hasSeconds, .int m_hasTurned, .int m_hasRound, .ref a_hasFeels, .ref a_isOn, .int m_firstAct, .long m_meanTop, .long m_meanBy, .ref a_order, .int m_rowMany, .int m_newSteps])), (a_c, .inl (cA.1 0, 1825, .inl g_c)), (a_there, .inl (cA.1 0, 10, .inl g_there)), (a_weights, .inl (cA.1 1, 100, .inr (.inl g_616)))] H → va_D A [(h0, .inr (12, [.int m_status, .int m_thrown, .long m_above, .long m_under, .ref a_traySort, .ref a_trayMany, .ref a_numbers, .ref a_tape, .int m_taped, .int m_textEnd, .int m_faultKind, .int m_faultAt, .int m_bad, .int m_badAt, .int m_token, .int m_at, .int m_behind, .int m_number, .int m_letters, .long m_word, .ref a_c, .ref a_words, .int m_markMany, .ref a_there, .ref a_tried, .ref a_best, .ref a_found, .int m_thereMany, .int m_foundMany, .int m_orderHow, .int m_orderRing, .int m_orderMany, .int m_hasBest, .long m_bestTop, .long m_bestBy, .ref a_weights, .ref a_shared, .int m_random, .int m_truePlace, .int m_trueWay, .int m_seconds, .int m_done, .int m_feelings, .int m_tries, .int m_leftOver, .int m_playDoor, .int m_playRing, .int m_isOpen, .int m_isOver, .int m_wasTried, .int m_hasPlayed, .ref a_feltNow, .ref a_last, .ref a_kept, .int m_hasSeconds, .int m_hasTurned, .int m_hasRound, .ref a_hasFeels, .ref a_isOn, .int m_firstAct, .long m_meanTop, .long m_meanBy, .ref a_order, .int m_rowMany, .int m_newSteps])), (a_c, .inl (cA.1 0, 1825, .inl g_c)), (a_there, .inl (cA.1 0, 10, .inl g_there)), (a_weights, .inl (cA.1 1, 100, .inr (.inl g_616)))] → va_S A s.heap H locs → lv_has ls 8 [(0, .ref h0), (1, .int pp), (2, .int 1), (3, .int d), (4, .long v_614), (6, .int v_615)] → W p l e ({ frames := 1, cells := 0, slots := 0, locals := 29 }) s m args below meth c H locs 0 0 Q (F0 m 6 ls []) := by
    intro n
    induction n with
    | zero =>
      intro v_614 v_615 g_616 H locs ls hmu_hlp_645 hr_v_615 hP hD hS hl
      exact absurd hmu_hlp_645 (Nat.not_lt_zero _)
    | succ n ih_646 =>
      intro v_614 v_615 g_616 H locs ls hmu_hlp_645 hr_v_615 hP hD hS hl
      refine lv_iload hx hb dX12_triedWorth_6 (lv_at hl 5 rfl) ?_
      refine lv_iconst (v := 2) hx hb dX12_triedWorth_8 (by decide) ?_
      refine lv_aload_n hx hb dX12_triedWorth_9 rfl (lv_at hl 0 rfl) ?_
      refine va_get (D := G) (ci := 12) (v := .int m_thereMany) (C := RX12) (T := TX12) (N := 65) hx hb hts inT12 hown hK hP 0 rfl rfl 27 (by decide) (hts _ tw_1912) (fun _ h9 => h9) rfl dX12_triedWorth_10 ?_
      refine lv_imul hx hb dX12_triedWorth_13 ?_
      refine lv_topi (fun x_647 he_x_647 => ?_)
      have hq_x_647 := z_mulq he_x_647 hk_2 (rfl : m_thereMany.toInt = _) (by omega) (by omega)
      refine lv_icmp_ge (tgt := 101) hx hb dX12_triedWorth_14 (by decide) (fun c_648 => ?_) (fun c_648 => ?_)
      · have b_649 := z_fgeT c_648
        refine lv_lload hx hb dX12_triedWorth_101 (lv_at hl 4 rfl) ?_
        refine lv_iload_n hx hb dX12_triedWorth_103 rfl (lv_at hl 2 rfl) ?_
        refine z_callSl (As := [.int 1]) (rest := [.long v_614]) (wr := [(h0, .inr (12, [.int m_status, .int m_thrown, .long m_above, .long m_under, .ref a_traySort, .ref a_trayMany, .ref a_numbers, .ref a_tape, .int m_taped, .int m_textEnd, .int m_faultKind, .int m_faultAt, .int m_bad, .int m_badAt, .int m_token, .int m_at, .int m_behind, .int m_number, .int m_letters, .long m_word, .ref a_c, .ref a_words, .int m_markMany, .ref a_there, .ref a_tried, .ref a_best, .ref a_found, .int m_thereMany, .int m_foundMany, .int m_orderHow, .int m_orderRing, .int m_orderMany, .int m_hasBest, .long m_bestTop, .long m_bestBy, .ref a_weights, .ref a_shared, .int m_random, .int m_truePlace, .int m_trueWay, .int m_seconds, .int m_done, .int m_feelings, .int m_tries, .int m_leftOver, .int m_playDoor, .int m_playRing, .int m_isOpen, .int m_isOver, .int m_wasTried, .int m_hasPlayed, .ref a_feltNow, .ref a_last, .ref a_kept, .int m_hasSeconds, .int m_hasTurned, .int m_hasRound, .ref a_hasFeels, .ref a_isOn, .int m_firstAct, .long m_meanTop, .long m_meanBy, .ref a_order, .int m_rowMany, .int m_newSteps])), (a_c, .inl (cA.1 0, 1825, .inl g_c)), (a_there, .inl (cA.1 0, 10, .inl g_there)), (a_weights, .inl (cA.1 1, 100, .inr (.inl g_616)))]) ⟨hx, hb, hml, hown, hts⟩ hK hE hT hP hD hS hA (r_power l G cA 1 (by decide +kernel)) lk_RX12_376 ⟨rfl, rfl⟩ ⟨Nat.le_of_ble_eq_true rfl, Nat.le_of_ble_eq_true rfl⟩ [] [0, 1, 2, 3] rfl rfl (by decide) rfl hl.1 rfl (lv_room (Nat.le_of_ble_eq_true rfl)) dX12_triedWorth_104 ⟨Nat.le_of_ble_eq_true rfl, Nat.le_of_ble_eq_true rfl⟩ (fun r_650 u_651 H locs hw hP hD hS => ?_)
        refine lv_lmul hx hb dX12_triedWorth_107 ?_
        have hL_v_614 := z_fulll v_614
        have hL_r_650 := z_fulll r_650
        refine lv_topl (fun x_652 he_x_652 => ?_)
        refine lv_ldc2 (v := 16) hx hb hown (hts _ tw_2470) dX12_triedWorth_108 ?_
        refine lv_aload_n hx hb dX12_triedWorth_111 rfl (lv_at hl 0 rfl) ?_
        refine lv_iload_n hx hb dX12_triedWorth_112 rfl (lv_at hl 1 rfl) ?_
        refine lv_iconst (v := 1) hx hb dX12_triedWorth_113 (by decide) ?_
        refine lv_iadd hx hb dX12_triedWorth_114 ?_
        refine lv_topi (fun x_653 he_x_653 => ?_)
        have hq_x_653 := z_addq he_x_653 (rfl : pp.toInt = _) hk_1 (by omega) (by omega)
        refine lv_iload_n hx hb dX12_triedWorth_115 rfl (lv_at hl 2 rfl) ?_
        refine lv_iconst (v := 1) hx hb dX12_triedWorth_116 (by decide) ?_
        refine lv_isub hx hb dX12_triedWorth_117 ?_
        refine z_topi (y := 0) (by decide +kernel) ?_
        refine lv_iload_n hx hb dX12_triedWorth_118 rfl (lv_at hl 3 rfl) ?_
        refine z_callVl (As := [.int x_653, .int 0, .int d]) (rest := [.long 16, .long x_652]) (wr := [(a_c, .inl (cA.1 0, 1825, .inl g_c)), (a_there, .inl (cA.1 0, 10, .inl g_there)), (a_weights, .inl (cA.1 1, 100, .inr (.inl g_616)))]) ⟨hx, hb, hml, hown, hts⟩ hK hE hT hP hD hS hA (r_worthOf_0 l G cA h0 m_status m_thrown m_above m_under a_traySort a_trayMany a_numbers a_tape m_taped m_textEnd m_faultKind m_faultAt m_bad m_badAt m_token m_at m_behind m_number m_letters m_word a_c a_words m_markMany a_there a_tried a_best a_found m_thereMany m_foundMany m_orderHow m_orderRing m_orderMany m_hasBest m_bestTop m_bestBy a_weights a_shared m_random m_truePlace m_trueWay m_seconds m_done m_feelings m_tries m_leftOver m_playDoor m_playRing m_isOpen m_isOver m_wasTried m_hasPlayed a_feltNow a_last a_kept m_hasSeconds m_hasTurned m_hasRound a_hasFeels a_isOn m_firstAct m_meanTop m_meanBy a_order m_rowMany m_newSteps x_653 d (by omega) hr_d) lk_RX12_379 ⟨rfl, rfl⟩ ⟨Nat.le_of_ble_eq_true rfl, Nat.le_of_ble_eq_true rfl⟩ 12 rfl rfl rfl [0] [1, 2, 3] rfl rfl (by decide) rfl hl.1 rfl (lv_room (Nat.le_of_ble_eq_true rfl)) dX12_triedWorth_119 ⟨Nat.le_of_ble_eq_true rfl, Nat.le_of_ble_eq_true rfl⟩ (fun r_654 u_655 H locs hw hP hD hS => ?_)
        have hr_r_654 := hw
        refine lv_lmul hx hb dX12_triedWorth_122 ?_
        refine lv_topl (fun x_656 he_x_656 => ?_)
        have hq_x_656 := z_mulql he_x_656 hkl_16 (rfl : r_654.toInt = _) (by omega) (by omega)
        refine lv_ladd hx hb dX12_triedWorth_123 ?_
        have hL_x_652 := z_fulll x_652
        refine lv_topl (fun x_657 he_x_657 => ?_)
        have hq_x_657 := z_addql he_x_657 (rfl : x_652.toInt = _) (rfl : x_656.toInt = _) (by omega) (by omega)
        exact hret _ _ _ _ _ _ g_616 [3, 0, 1, 2] hP hD hS rfl (by decide) dX12_triedWorth_124 trivial
      · have b_658 := z_fltF c_648
        refine lv_aload_n hx hb dX12_triedWorth_17 rfl (lv_at hl 0 rfl) ?_
        refine lv_aload_n hx hb dX12_triedWorth_18 rfl (lv_at hl 0 rfl) ?_
        refine va_get (D := G) (ci := 12) (v := .ref a_there) (C := RX12) (T := TX12) (N := 65) hx hb hts inT12 hown hK hP 0 rfl rfl 23 (by decide) (hts _ tw_1908) (fun _ h9 => h9) rfl dX12_triedWorth_19 ?_
        refine lv_iload hx hb dX12_triedWorth_22 (lv_at hl 5 rfl) ?_
        refine lv_iconst (v := 2) hx hb dX12_triedWorth_24 (by decide) ?_
        refine lv_idiv hx hb dX12_triedWorth_25 (by decide +kernel) ?_
        refine lv_topi (fun x_659 he_x_659 => ?_)
        have hq_x_659 := z_divq he_x_659 (rfl : v_615.toInt = _) hk_2 (by omega) (by decide)
        refine va_iald hx hb hK hP 2 0 rfl rfl (z_inN (by omega) (by omega)) dX12_triedWorth_26 ?_
        refine lv_topi (fun x_660 he_x_660 => ?_)
        have hr_x_660 := z_rg hC_g_there he_x_660 (by omega) (by omega)
        refine lv_iload_n hx hb dX12_triedWorth_27 rfl (lv_at hl 3 rfl) ?_
        refine z_callVi (As := [.int x_660, .int d]) (rest := []) (wr := [(a_there, .inl (cA.1 0, 10, .inl g_there)), (a_weights, .inl (cA.1 1, 100, .inr (.inl g_616)))]) ⟨hx, hb, hml, hown, hts⟩ hK hE hT hP hD hS hA (r_canOpen l G cA h0 m_status m_thrown m_above m_under a_traySort a_trayMany a_numbers a_tape m_taped m_textEnd m_faultKind m_faultAt m_bad m_badAt m_token m_at m_behind m_number m_letters m_word a_c a_words m_markMany a_there a_tried a_best a_found m_thereMany m_foundMany m_orderHow m_orderRing m_orderMany m_hasBest m_bestTop m_bestBy a_weights a_shared m_random m_truePlace m_trueWay m_seconds m_done m_feelings m_tries m_leftOver m_playDoor m_playRing m_isOpen m_isOver m_wasTried m_hasPlayed a_feltNow a_last a_kept m_hasSeconds m_hasTurned m_hasRound a_hasFeels a_isOn m_firstAct m_meanTop m_meanBy a_order m_rowMany m_newSteps g_c x_660 d hr_x_660 hr_d hC_g_c) lk_RX12_345 ⟨rfl, rfl⟩ ⟨Nat.le_of_ble_eq_true rfl, Nat.le_of_ble_eq_true rfl⟩ 12 rfl rfl rfl [0, 1] [2, 3] rfl rfl (by decide) rfl hl.1 rfl (lv_room (Nat.le_of_ble_eq_true rfl)) dX12_triedWorth_28 ⟨Nat.le_of_ble_eq_true rfl, Nat.le_of_ble_eq_true rfl⟩ (fun r_661 u_662 H locs hw hP hD hS => ?_)
        obtain ⟨he_r_661, hw⟩ := hw
        rcases hw with ⟨rfl, hf_663⟩ | ⟨rfl, hf_664⟩
        · skip
          refine lv_istore (lv' := [(7, .int 0), (0, .ref h0), (1, .int pp), (2, .int 1), (3, .int d), (4, .long v_614), (6, .int v_615)]) hx hb dX12_triedWorth_31 hl (by decide) rfl (fun ls hl => ?_)
          refine lv_lload hx hb dX12_triedWorth_33 (lv_at hl 5 rfl) ?_
          refine lv_iload hx hb dX12_triedWorth_35 (lv_at hl 0 rfl) ?_
          refine lv_if_eq (tgt := 55) hx hb dX12_triedWorth_37 (by decide) (fun _ => ?_) (fun h9 => absurd (by decide +kernel) h9)
          refine lv_lconst (v := 0) hx hb dX12_triedWorth_55 (by decide) ?_
          refine lv_ladd hx hb dX12_triedWorth_56 ?_
          have hL_v_614 := z_fulll v_614
          refine lv_topl (fun x_665 he_x_665 => ?_)
          have hq_x_665 := z_addql he_x_665 (rfl : v_614.toInt = _) hkl_0 (by omega) (by omega)
          refine lv_lstore (lv' := [(4, .long x_665), (7, .int 0), (0, .ref h0), (1, .int pp), (2, .int 1), (3, .int d), (6, .int v_615)]) hx hb dX12_triedWorth_57 hl (by decide) rfl (fun ls hl => ?_)
          refine lv_aload_n hx hb dX12_triedWorth_59 rfl (lv_at hl 2 rfl) ?_
          refine va_get (D := G) (ci := 12) (v := .ref a_weights) (C := RX12) (T := TX12) (N := 65) hx hb hts inT12 hown hK hP 2 rfl rfl 35 (by decide) (hts _ tw_1919) (fun _ h9 => h9) rfl dX12_triedWorth_60 ?_
          refine lv_bipush (v := 20) hx hb dX12_triedWorth_63 (by decide) ?_
          refine lv_iload_n hx hb dX12_triedWorth_65 rfl (lv_at hl 3 rfl) ?_
          refine lv_imul hx hb dX12_triedWorth_66 ?_
          refine lv_topi (fun x_666 he_x_666 => ?_)
          have hq_x_666 := z_mulq he_x_666 hk_20 (rfl : pp.toInt = _) (by omega) (by omega)
          refine lv_bipush (v := 20) hx hb dX12_triedWorth_67 (by decide) ?_
          refine lv_iadd hx hb dX12_triedWorth_69 ?_
          refine lv_topi (fun x_667 he_x_667 => ?_)
          have hq_x_667 := z_addq he_x_667 (rfl : x_666.toInt = _) hk_20 (by omega) (by omega)
          refine lv_iload hx hb dX12_triedWorth_70 (lv_at hl 6 rfl) ?_
          refine lv_iadd hx hb dX12_triedWorth_72 ?_
          refine lv_topi (fun x_668 he_x_668 => ?_)
          have hq_x_668 := z_addq he_x_668 (rfl : x_667.toInt = _) (rfl : v_615.toInt = _) (by omega) (by omega)
          refine lv_iload hx hb dX12_triedWorth_73 (lv_at hl 1 rfl) ?_
          refine lv_if_eq (tgt := 82) hx hb dX12_triedWorth_75 (by decide) (fun _ => ?_) (fun h9 => absurd (by decide +kernel) h9)
          refine lv_aload_n hx hb dX12_triedWorth_82 rfl (lv_at hl 2 rfl) ?_
          refine va_get (D := G) (ci := 12) (v := .ref a_weights) (C := RX12) (T := TX12) (N := 65) hx hb hts inT12 hown hK hP 2 rfl rfl 35 (by decide) (hts _ tw_1919) (fun _ h9 => h9) rfl dX12_triedWorth_83 ?_
          refine lv_bipush (v := 20) hx hb dX12_triedWorth_86 (by decide) ?_
          refine lv_iload_n hx hb dX12_triedWorth_88 rfl (lv_at hl 3 rfl) ?_
          refine lv_imul hx hb dX12_triedWorth_89 ?_
          refine lv_topi (fun x_669 he_x_669 => ?_)
          have hq_x_669 := z_mulq he_x_669 hk_20 (rfl : pp.toInt = _) (by omega) (by omega)
          refine lv_iload hx hb dX12_triedWorth_90 (lv_at hl 6 rfl) ?_
          refine lv_iadd hx hb dX12_triedWorth_92 ?_
          refine lv_topi (fun x_670 he_x_670 => ?_)
          have hq_x_670 := z_addq he_x_670 (rfl : x_669.toInt = _) (rfl : v_615.toInt = _) (by omega) (by omega)
          refine va_lald hx hb hK hP 1 1 rfl rfl (z_inN (by omega) (by omega)) dX12_triedWorth_93 ?_
          refine lv_topl (fun x_671 he_x_671 => ?_)
          refine z_last hx hb hK hP hD hS 1 1 rfl rfl (z_inN (by omega) (by omega)) dX12_triedWorth_94 (fun g_672 hg_g_672 H locs hP hD hS => ?_)
          obtain ⟨x_673, he_x_673⟩ : ∃ z : Int32, z = v_615 + 1 := ⟨_, rfl⟩
          have hq_x_673 := z_addq he_x_673 (rfl : v_615.toInt = _) hk_1 (by omega) (by omega)
          refine lv_iinc (v := x_673) (lv' := [(6, .int x_673), (4, .long x_665), (7, .int 0), (0, .ref h0), (1, .int pp), (2, .int 1), (3, .int d)]) hx hb dX12_triedWorth_95 hl (k := 6) rfl ((z_ofi (by decide +kernel)).trans he_x_673.symm) (by decide) rfl (fun ls hl => ?_)
          refine lv_goto (tgt := 6) hx hb dX12_triedWorth_98 (by decide) ?_
          have hP := hP.sub (ws' := [(h0, .inr (12, [.int m_status, .int m_thrown, .long m_above, .long m_under, .ref a_traySort, .ref a_trayMany, .ref a_numbers, .ref a_tape, .int m_taped, .int m_textEnd, .int m_faultKind, .int m_faultAt, .int m_bad, .int m_badAt, .int m_token, .int m_at, .int m_behind, .int m_number, .int m_letters, .long m_word, .ref a_c, .ref a_words, .int m_markMany, .ref a_there, .ref a_tried, .ref a_best, .ref a_found, .int m_thereMany, .int m_foundMany, .int m_orderHow, .int m_orderRing, .int m_orderMany, .int m_hasBest, .long m_bestTop, .long m_bestBy, .ref a_weights, .ref a_shared, .int m_random, .int m_truePlace, .int m_trueWay, .int m_seconds, .int m_done, .int m_feelings, .int m_tries, .int m_leftOver, .int m_playDoor, .int m_playRing, .int m_isOpen, .int m_isOver, .int m_wasTried, .int m_hasPlayed, .ref a_feltNow, .ref a_last, .ref a_kept, .int m_hasSeconds, .int m_hasTurned, .int m_hasRound, .ref a_hasFeels, .ref a_isOn, .int m_firstAct, .long m_meanTop, .long m_meanBy, .ref a_order, .int m_rowMany, .int m_newSteps])), (a_c, .inl (cA.1 0, 1825, .inl g_c)), (a_there, .inl (cA.1 0, 10, .inl g_there)), (a_weights, .inl (cA.1 1, 100, .inr (.inl g_672)))]) [2, 3, 0, 1] rfl
          have hD := hD.sub (ws' := [(h0, .inr (12, [.int m_status, .int m_thrown, .long m_above, .long m_under, .ref a_traySort, .ref a_trayMany, .ref a_numbers, .ref a_tape, .int m_taped, .int m_textEnd, .int m_faultKind, .int m_faultAt, .int m_bad, .int m_badAt, .int m_token, .int m_at, .int m_behind, .int m_number, .int m_letters, .long m_word, .ref a_c, .ref a_words, .int m_markMany, .ref a_there, .ref a_tried, .ref a_best, .ref a_found, .int m_thereMany, .int m_foundMany, .int m_orderHow, .int m_orderRing, .int m_orderMany, .int m_hasBest, .long m_bestTop, .long m_bestBy, .ref a_weights, .ref a_shared, .int m_random, .int m_truePlace, .int m_trueWay, .int m_seconds, .int m_done, .int m_feelings, .int m_tries, .int m_leftOver, .int m_playDoor, .int m_playRing, .int m_isOpen, .int m_isOver, .int m_wasTried, .int m_hasPlayed, .ref a_feltNow, .ref a_last, .ref a_kept, .int m_hasSeconds, .int m_hasTurned, .int m_hasRound, .ref a_hasFeels, .ref a_isOn, .int m_firstAct, .long m_meanTop, .long m_meanBy, .ref a_order, .int m_rowMany, .int m_newSteps])), (a_c, .inl (cA.1 0, 1825, .inl g_c)), (a_there, .inl (cA.1 0, 10, .inl g_there)), (a_weights, .inl (cA.1 1, 100, .inr (.inl g_672)))]) [2, 3, 0, 1] (by decide) rfl
          exact ih_646 x_665 x_673 g_672 H locs ls (by omega) (by omega) hP hD hS (lv_sub hl [3, 4, 5, 6, 1, 0] rfl)
        · skip
          refine lv_istore (lv' := [(7, .int 1), (0, .ref h0), (1, .int pp), (2, .int 1), (3, .int d), (4, .long v_614), (6, .int v_615)]) hx hb dX12_triedWorth_31 hl (by decide) rfl (fun ls hl => ?_)
          refine lv_lload hx hb dX12_triedWorth_33 (lv_at hl 5 rfl) ?_
          refine lv_iload hx hb dX12_triedWorth_35 (lv_at hl 0 rfl) ?_
          refine lv_if_eq (tgt := 55) hx hb dX12_triedWorth_37 (by decide) (fun h9 => absurd h9 (by decide +kernel)) (fun _ => ?_)
          refine lv_aload_n hx hb dX12_triedWorth_40 rfl (lv_at hl 1 rfl) ?_
          refine va_get (D := G) (ci := 12) (v := .ref a_weights) (C := RX12) (T := TX12) (N := 65) hx hb hts inT12 hown hK hP 2 rfl rfl 35 (by decide) (hts _ tw_1919) (fun _ h9 => h9) rfl dX12_triedWorth_41 ?_
          refine lv_bipush (v := 20) hx hb dX12_triedWorth_44 (by decide) ?_
          refine lv_iload_n hx hb dX12_triedWorth_46 rfl (lv_at hl 2 rfl) ?_
          refine lv_imul hx hb dX12_triedWorth_47 ?_
          refine lv_topi (fun x_674 he_x_674 => ?_)
          have hq_x_674 := z_mulq he_x_674 hk_20 (rfl : pp.toInt = _) (by omega) (by omega)
          refine lv_iload hx hb dX12_triedWorth_48 (lv_at hl 6 rfl) ?_
          refine lv_iadd hx hb dX12_triedWorth_50 ?_
          refine lv_topi (fun x_675 he_x_675 => ?_)
          have hq_x_675 := z_addq he_x_675 (rfl : x_674.toInt = _) (rfl : v_615.toInt = _) (by omega) (by omega)
          refine va_lald hx hb hK hP 1 1 rfl rfl (z_inN (by omega) (by omega)) dX12_triedWorth_51 ?_
          refine lv_topl (fun x_676 he_x_676 => ?_)
          refine lv_goto (tgt := 56) hx hb dX12_triedWorth_52 (by decide) ?_
          refine lv_ladd hx hb dX12_triedWorth_56 ?_
          have hL_v_614 := z_fulll v_614
          have hL_x_676 := z_fulll x_676
          refine lv_topl (fun x_677 he_x_677 => ?_)
          refine lv_lstore (lv' := [(4, .long x_677), (7, .int 1), (0, .ref h0), (1, .int pp), (2, .int 1), (3, .int d), (6, .int v_615)]) hx hb dX12_triedWorth_57 hl (by decide) rfl (fun ls hl => ?_)
          refine lv_aload_n hx hb dX12_triedWorth_59 rfl (lv_at hl 2 rfl) ?_
          refine va_get (D := G) (ci := 12) (v := .ref a_weights) (C := RX12) (T := TX12) (N := 65) hx hb hts inT12 hown hK hP 2 rfl rfl 35 (by decide) (hts _ tw_1919) (fun _ h9 => h9) rfl dX12_triedWorth_60 ?_
          refine lv_bipush (v := 20) hx hb dX12_triedWorth_63 (by decide) ?_
          refine lv_iload_n hx hb dX12_triedWorth_65 rfl (lv_at hl 3 rfl) ?_
          refine lv_imul hx hb dX12_triedWorth_66 ?_
          refine lv_topi (fun x_678 he_x_678 => ?_)
          have hq_x_678 := z_mulq he_x_678 hk_20 (rfl : pp.toInt = _) (by omega) (by omega)
          refine lv_bipush (v := 20) hx hb dX12_triedWorth_67 (by decide) ?_
          refine lv_iadd hx hb dX12_triedWorth_69 ?_
          refine lv_topi (fun x_679 he_x_679 => ?_)
          have hq_x_679 := z_addq he_x_679 (rfl : x_678.toInt = _) hk_20 (by omega) (by omega)
          refine lv_iload hx hb dX12_triedWorth_70 (lv_at hl 6 rfl) ?_
          refine lv_iadd hx hb dX12_triedWorth_72 ?_
          refine lv_topi (fun x_680 he_x_680 => ?_)
          have hq_x_680 := z_addq he_x_680 (rfl : x_679.toInt = _) (rfl : v_615.toInt = _) (by omega) (by omega)
          refine lv_iload hx hb dX12_triedWorth_73 (lv_at hl 1 rfl) ?_
          refine lv_if_eq (tgt := 82) hx hb dX12_triedWorth_75 (by decide) (fun h9 => absurd h9 (by decide +kernel)) (fun _ => ?_)
          refine lv_lconst (v := 0) hx hb dX12_triedWorth_78 (by decide) ?_
          refine lv_goto (tgt := 94) hx hb dX12_triedWorth_79 (by decide) ?_
          refine z_last hx hb hK hP hD hS 1 1 rfl rfl (z_inN (by omega) (by omega)) dX12_triedWorth_94 (fun g_681 hg_g_681 H locs hP hD hS => ?_)
          obtain ⟨x_682, he_x_682⟩ : ∃ z : Int32, z = v_615 + 1 := ⟨_, rfl⟩
          have hq_x_682 := z_addq he_x_682 (rfl : v_615.toInt = _) hk_1 (by omega) (by omega)
          refine lv_iinc (v := x_682) (lv' := [(6, .int x_682), (4, .long x_677), (7, .int 1), (0, .ref h0), (1, .int pp), (2, .int 1), (3, .int d)]) hx hb dX12_triedWorth_95 hl (k := 6) rfl ((z_ofi (by decide +kernel)).trans he_x_682.symm) (by decide) rfl (fun ls hl => ?_)
          refine lv_goto (tgt := 6) hx hb dX12_triedWorth_98 (by decide) ?_
          have hP := hP.sub (ws' := [(h0, .inr (12, [.int m_status, .int m_thrown, .long m_above, .long m_under, .ref a_traySort, .ref a_trayMany, .ref a_numbers, .ref a_tape, .int m_taped, .int m_textEnd, .int m_faultKind, .int m_faultAt, .int m_bad, .int m_badAt, .int m_token, .int m_at, .int m_behind, .int m_number, .int m_letters, .long m_word, .ref a_c, .ref a_words, .int m_markMany, .ref a_there, .ref a_tried, .ref a_best, .ref a_found, .int m_thereMany, .int m_foundMany, .int m_orderHow, .int m_orderRing, .int m_orderMany, .int m_hasBest, .long m_bestTop, .long m_bestBy, .ref a_weights, .ref a_shared, .int m_random, .int m_truePlace, .int m_trueWay, .int m_seconds, .int m_done, .int m_feelings, .int m_tries, .int m_leftOver, .int m_playDoor, .int m_playRing, .int m_isOpen, .int m_isOver, .int m_wasTried, .int m_hasPlayed, .ref a_feltNow, .ref a_last, .ref a_kept, .int m_hasSeconds, .int m_hasTurned, .int m_hasRound, .ref a_hasFeels, .ref a_isOn, .int m_firstAct, .long m_meanTop, .long m_meanBy, .ref a_order, .int m_rowMany, .int m_newSteps])), (a_c, .inl (cA.1 0, 1825, .inl g_c)), (a_there, .inl (cA.1 0, 10, .inl g_there)), (a_weights, .inl (cA.1 1, 100, .inr (.inl g_681)))]) [2, 3, 0, 1] rfl
          have hD := hD.sub (ws' := [(h0, .inr (12, [.int m_status, .int m_thrown, .long m_above, .long m_under, .ref a_traySort, .ref a_trayMany, .ref a_numbers, .ref a_tape, .int m_taped, .int m_textEnd, .int m_faultKind, .int m_faultAt, .int m_bad, .int m_badAt, .int m_token, .int m_at, .int m_behind, .int m_number, .int m_letters, .long m_word, .ref a_c, .ref a_words, .int m_markMany, .ref a_there, .ref a_tried, .ref a_best, .ref a_found, .int m_thereMany, .int m_foundMany, .int m_orderHow, .int m_orderRing, .int m_orderMany, .int m_hasBest, .long m_bestTop, .long m_bestBy, .ref a_weights, .ref a_shared, .int m_random, .int m_truePlace, .int m_trueWay, .int m_seconds, .int m_done, .int m_feelings, .int m_tries, .int m_leftOver, .int m_playDoor, .int m_playRing, .int m_isOpen, .int m_isOver, .int m_wasTried, .int m_hasPlayed, .ref a_feltNow, .ref a_last, .ref a_kept, .int m_hasSeconds, .int m_hasTurned, .int m_hasRound, .ref a_hasFeels, .ref a_isOn, .int m_firstAct, .long m_meanTop, .long m_meanBy, .ref a_order, .int m_rowMany, .int m_newSteps])), (a_c, .inl (cA.1 0, 1825, .inl g_c)), (a_there, .inl (cA.1 0, 10, .inl g_there)), (a_weights, .inl (cA.1 1, 100, .inr (.inl g_681)))]) [2, 3, 0, 1] (by decide) rfl
          exact ih_646 x_677 x_682 g_681 H locs ls (by omega) (by omega) hP hD hS (lv_sub hl [3, 4, 5, 6, 1, 0] rfl)
  exact hlp_645 _ 0 0 g_weights _ _ _ (Nat.lt_succ_self _) (by decide +kernel) hP hD hS (lv_sub hl [2, 3, 4, 5, 1, 0] rfl)
set_option maxHeartbeats 4000000 in
set_option maxRecDepth 100000 in
theorem r_goneWorth_1 (l : Launch) (G : va_G) (cA : zCA) (h0 : Nat) (m_status : Int32) (m_thrown : Int32) (m_above : Int64) (m_under : Int64) (a_traySort : Nat) (a_trayMany : Nat) (a_numbers : Nat) (a_tape : Nat) (m_taped : Int32) (m_textEnd : Int32) (m_faultKind : Int32) (m_faultAt : Int32) (m_bad : Int32) (m_badAt : Int32) (m_token : Int32) (m_at : Int32) (m_behind : Int32) (m_number : Int32) (m_letters : Int32) (m_word : Int64) (a_c : Nat) (a_words : Nat) (m_markMany : Int32) (a_there : Nat) (a_tried : Nat) (a_best : Nat) (a_found : Nat) (m_thereMany : Int32) (m_foundMany : Int32) (m_orderHow : Int32) (m_orderRing : Int32) (m_orderMany : Int32) (m_hasBest : Int32) (m_bestTop : Int64) (m_bestBy : Int64) (a_weights : Nat) (a_shared : Nat) (m_random : Int32) (m_truePlace : Int32) (m_trueWay : Int32) (m_seconds : Int32) (m_done : Int32) (m_feelings : Int32) (m_tries : Int32) (m_leftOver : Int32) (m_playDoor : Int32) (m_playRing : Int32) (m_isOpen : Int32) (m_isOver : Int32) (m_wasTried : Int32) (m_hasPlayed : Int32) (a_feltNow : Nat) (a_last : Nat) (a_kept : Nat) (m_hasSeconds : Int32) (m_hasTurned : Int32) (m_hasRound : Int32) (a_hasFeels : Nat) (a_isOn : Nat) (m_firstAct : Int32) (m_meanTop : Int64) (m_meanBy : Int64) (a_order : Nat) (m_rowMany : Int32) (m_newSteps : Int32) (g_weights : Nat → Int64) (pp : Int32) (d : Int32) (hr_pp : 0 ≤ pp.toInt ∧ pp.toInt ≤ 3) (hr_d : 0 ≤ d.toInt ∧ d.toInt ≤ 4) (hr_m_thereMany : 0 ≤ m_thereMany.toInt ∧ m_thereMany.toInt ≤ 10) : zCl l yX12_goneWorth cX12_goneWorth 5 (some .long) ({ frames := 1, cells := 0, slots := 0, locals := 29 }) G cA [.ref h0, .int pp, .int 1, .int d] [(h0, .inr (12, [.int m_status, .int m_thrown, .long m_above, .long m_under, .ref a_traySort, .ref a_trayMany, .ref a_numbers, .ref a_tape, .int m_taped, .int m_textEnd, .int m_faultKind, .int m_faultAt, .int m_bad, .int m_badAt, .int m_token, .int m_at, .int m_behind, .int m_number, .int m_letters, .long m_word, .ref a_c, .ref a_words, .int m_markMany, .ref a_there, .ref a_tried, .ref a_best, .ref a_found, .int m_thereMany, .int m_foundMany, .int m_orderHow, .int m_orderRing, .int m_orderMany, .int m_hasBest, .long m_bestTop, .long m_bestBy, .ref a_weights, .ref a_shared, .int m_random, .int m_truePlace, .int m_trueWay, .int m_seconds, .int m_done, .int m_feelings, .int m_tries, .int m_leftOver, .int m_playDoor, .int m_playRing, .int m_isOpen, .int m_isOver, .int m_wasTried, .int m_hasPlayed, .ref a_feltNow, .ref a_last, .ref a_kept, .int m_hasSeconds, .int m_hasTurned, .int m_hasRound, .ref a_hasFeels, .ref a_isOn, .int m_firstAct, .long m_meanTop, .long m_meanBy, .ref a_order, .int m_rowMany, .int m_newSteps])), (a_weights, .inl (cA.1 1, 100, .inr (.inl g_weights)))] (S := (Nat → Int64)) (fun (r : Int64) (u : (Nat → Int64)) => (0 ≤ r.toInt ∧ r.toInt ≤ 0)) (fun (u : (Nat → Int64)) => [(h0, .inr (12, [.int m_status, .int m_thrown, .long m_above, .long m_under, .ref a_traySort, .ref a_trayMany, .ref a_numbers, .ref a_tape, .int m_taped, .int m_textEnd, .int m_faultKind, .int m_faultAt, .int m_bad, .int m_badAt, .int m_token, .int m_at, .int m_behind, .int m_number, .int m_letters, .long m_word, .ref a_c, .ref a_words, .int m_markMany, .ref a_there, .ref a_tried, .ref a_best, .ref a_found, .int m_thereMany, .int m_foundMany, .int m_orderHow, .int m_orderRing, .int m_orderMany, .int m_hasBest, .long m_bestTop, .long m_bestBy, .ref a_weights, .ref a_shared, .int m_random, .int m_truePlace, .int m_trueWay, .int m_seconds, .int m_done, .int m_feelings, .int m_tries, .int m_leftOver, .int m_playDoor, .int m_playRing, .int m_isOpen, .int m_isOver, .int m_wasTried, .int m_hasPlayed, .ref a_feltNow, .ref a_last, .ref a_kept, .int m_hasSeconds, .int m_hasTurned, .int m_hasRound, .ref a_hasFeels, .ref a_isOn, .int m_firstAct, .long m_meanTop, .long m_meanBy, .ref a_order, .int m_rowMany, .int m_newSteps])), (a_weights, .inl (cA.1 1, 100, .inr (.inl u)))]) 0 0 := by
  have hk_0 : (0 : Int32).toInt = 0 := by decide +kernel
  have hk_1 : (1 : Int32).toInt = 1 := by decide +kernel
  have hk_2 : (2 : Int32).toInt = 2 := by decide +kernel
  have hk_20 : (20 : Int32).toInt = 20 := by decide +kernel
  have hkl_16 : (16 : Int64).toInt = 16 := by decide +kernel
  refine z_start2l (own := RX12) (by decide) (Nat.le_of_ble_eq_true rfl) rfl ?_
  intro p e s m args below meth c A ls Q hx hb hml hts hown hK hE hT hP hD hS hA hl hret
  have hl : lv_has ls 5 [(0, .ref h0), (1, .int pp), (2, .int 1), (3, .int d)] := hl
  refine lv_iconst (v := 0) hx hb dX12_goneWorth_0 (by decide) ?_
  refine lv_istore (lv' := [(4, .int 0), (0, .ref h0), (1, .int pp), (2, .int 1), (3, .int d)]) hx hb dX12_goneWorth_1 hl (by decide) rfl (fun ls hl => ?_)
  have hlp_355 : ∀ (n : Nat) (v_338 : Int32) (g_339 : Nat → Int64) (H : Heap) (locs : List Loc) (ls : Array Slot), (2147483647 - v_338.toInt).toNat < n → (0 ≤ v_338.toInt ∧ v_338.toInt ≤ 20) → va_P G vwCl [(h0, .inr (12, [.int m_status, .int m_thrown, .long m_above, .long m_under, .ref a_traySort, .ref a_trayMany, .ref a_numbers, .ref a_tape, .int m_taped, .int m_textEnd, .int m_faultKind, .int m_faultAt, .int m_bad, .int m_badAt, .int m_token, .int m_at, .int m_behind, .int m_number, .int m_letters, .long m_word, .ref a_c, .ref a_words, .int m_markMany, .ref a_there, .ref a_tried, .ref a_best, .ref a_found, .int m_thereMany, .int m_foundMany, .int m_orderHow, .int m_orderRing, .int m_orderMany, .int m_hasBest, .long m_bestTop, .long m_bestBy, .ref a_weights, .ref a_shared, .int m_random, .int m_truePlace, .int m_trueWay, .int m_seconds, .int m_done, .int m_feelings, .int m_tries, .int m_leftOver, .int m_playDoor, .int m_playRing, .int m_isOpen, .int m_isOver, .int m_wasTried, .int m_hasPlayed, .ref a_feltNow, .ref a_last, .ref a_kept, .int m_hasSeconds, .int m_hasTurned, .int m_hasRound, .ref a_hasFeels, .ref a_isOn, .int m_firstAct, .long m_meanTop, .long m_meanBy, .ref a_order, .int m_rowMany, .int m_newSteps])), (a_weights, .inl (cA.1 1, 100, .inr (.inl g_339)))] H → va_D A [(h0, .inr (12, [.int m_status, .int m_thrown, .long m_above, .long m_under, .ref a_traySort, .ref a_trayMany, .ref a_numbers, .ref a_tape, .int m_taped, .int m_textEnd, .int m_faultKind, .int m_faultAt, .int m_bad, .int m_badAt, .int m_token, .int m_at, .int m_behind, .int m_number, .int m_letters, .long m_word, .ref a_c, .ref a_words, .int m_markMany, .ref a_there, .ref a_tried, .ref a_best, .ref a_found, .int m_thereMany, .int m_foundMany, .int m_orderHow, .int m_orderRing, .int m_orderMany, .int m_hasBest, .long m_bestTop, .long m_bestBy, .ref a_weights, .ref a_shared, .int m_random, .int m_truePlace, .int m_trueWay, .int m_seconds, .int m_done, .int m_feelings, .int m_tries, .int m_leftOver, .int m_playDoor, .int m_playRing, .int m_isOpen, .int m_isOver, .int m_wasTried, .int m_hasPlayed, .ref a_feltNow, .ref a_last, .ref a_kept, .int m_hasSeconds, .int m_hasTurned, .int m_hasRound, .ref a_hasFeels, .ref a_isOn, .int m_firstAct, .long m_meanTop, .long m_meanBy, .ref a_order, .int m_rowMany, .int m_newSteps])), (a_weights, .inl (cA.1 1, 100, .inr (.inl g_339)))] → va_S A s.heap H locs → lv_has ls 5 [(0, .ref h0), (1, .int pp), (2, .int 1), (3, .int d), (4, .int v_338)] → W p l e ({ frames := 1, cells := 0, slots := 0, locals := 29 }) s m args below meth c H locs 0 0 Q (F0 m 3 ls []) := by
    intro n
    induction n with
    | zero =>
      intro v_338 g_339 H locs ls hmu_hlp_355 hr_v_338 hP hD hS hl
      exact absurd hmu_hlp_355 (Nat.not_lt_zero _)
    | succ n ih_356 =>
      intro v_338 g_339 H locs ls hmu_hlp_355 hr_v_338 hP hD hS hl
      refine lv_iload hx hb dX12_goneWorth_3 (lv_at hl 4 rfl) ?_
      refine lv_iconst (v := 2) hx hb dX12_goneWorth_5 (by decide) ?_
      refine lv_aload_n hx hb dX12_goneWorth_6 rfl (lv_at hl 0 rfl) ?_
      refine va_get (D := G) (ci := 12) (v := .int m_thereMany) (C := RX12) (T := TX12) (N := 65) hx hb hts inT12 hown hK hP 0 rfl rfl 27 (by decide) (hts _ tw_1912) (fun _ h9 => h9) rfl dX12_goneWorth_7 ?_
      refine lv_imul hx hb dX12_goneWorth_10 ?_
      refine lv_topi (fun x_357 he_x_357 => ?_)
      have hq_x_357 := z_mulq he_x_357 hk_2 (rfl : m_thereMany.toInt = _) (by omega) (by omega)
      refine lv_icmp_ge (tgt := 51) hx hb dX12_goneWorth_11 (by decide) (fun c_358 => ?_) (fun c_358 => ?_)
      · have b_359 := z_fgeT c_358
        refine lv_ldc2 (v := 16) hx hb hown (hts _ tw_2470) dX12_goneWorth_51 ?_
        refine lv_aload_n hx hb dX12_goneWorth_54 rfl (lv_at hl 0 rfl) ?_
        refine lv_iload_n hx hb dX12_goneWorth_55 rfl (lv_at hl 1 rfl) ?_
        refine lv_iconst (v := 1) hx hb dX12_goneWorth_56 (by decide) ?_
        refine lv_iadd hx hb dX12_goneWorth_57 ?_
        refine lv_topi (fun x_360 he_x_360 => ?_)
        have hq_x_360 := z_addq he_x_360 (rfl : pp.toInt = _) hk_1 (by omega) (by omega)
        refine lv_iload_n hx hb dX12_goneWorth_58 rfl (lv_at hl 2 rfl) ?_
        refine lv_iconst (v := 1) hx hb dX12_goneWorth_59 (by decide) ?_
        refine lv_isub hx hb dX12_goneWorth_60 ?_
        refine z_topi (y := 0) (by decide +kernel) ?_
        refine lv_iload_n hx hb dX12_goneWorth_61 rfl (lv_at hl 3 rfl) ?_
        refine z_callVl (As := [.int x_360, .int 0, .int d]) (rest := [.long 16]) (wr := [(a_weights, .inl (cA.1 1, 100, .inr (.inl g_339)))]) ⟨hx, hb, hml, hown, hts⟩ hK hE hT hP hD hS hA (r_worthOf_0 l G cA h0 m_status m_thrown m_above m_under a_traySort a_trayMany a_numbers a_tape m_taped m_textEnd m_faultKind m_faultAt m_bad m_badAt m_token m_at m_behind m_number m_letters m_word a_c a_words m_markMany a_there a_tried a_best a_found m_thereMany m_foundMany m_orderHow m_orderRing m_orderMany m_hasBest m_bestTop m_bestBy a_weights a_shared m_random m_truePlace m_trueWay m_seconds m_done m_feelings m_tries m_leftOver m_playDoor m_playRing m_isOpen m_isOver m_wasTried m_hasPlayed a_feltNow a_last a_kept m_hasSeconds m_hasTurned m_hasRound a_hasFeels a_isOn m_firstAct m_meanTop m_meanBy a_order m_rowMany m_newSteps x_360 d (by omega) hr_d) lk_RX12_379 ⟨rfl, rfl⟩ ⟨Nat.le_of_ble_eq_true rfl, Nat.le_of_ble_eq_true rfl⟩ 12 rfl rfl rfl [0] [1] rfl rfl (by decide) rfl hl.1 rfl (lv_room (Nat.le_of_ble_eq_true rfl)) dX12_goneWorth_62 ⟨Nat.le_of_ble_eq_true rfl, Nat.le_of_ble_eq_true rfl⟩ (fun r_361 u_362 H locs hw hP hD hS => ?_)
        have hr_r_361 := hw
        refine lv_lmul hx hb dX12_goneWorth_65 ?_
        refine lv_topl (fun x_363 he_x_363 => ?_)
        have hq_x_363 := z_mulql he_x_363 hkl_16 (rfl : r_361.toInt = _) (by omega) (by omega)
        have hpost : (0 ≤ x_363.toInt ∧ x_363.toInt ≤ 0) := (by omega)
        exact hret _ _ _ _ _ _ g_339 [1, 0] hP hD hS rfl (by decide) dX12_goneWorth_66 hpost
      · have b_364 := z_fltF c_358
        refine lv_aload_n hx hb dX12_goneWorth_14 rfl (lv_at hl 0 rfl) ?_
        refine va_get (D := G) (ci := 12) (v := .ref a_weights) (C := RX12) (T := TX12) (N := 65) hx hb hts inT12 hown hK hP 0 rfl rfl 35 (by decide) (hts _ tw_1919) (fun _ h9 => h9) rfl dX12_goneWorth_15 ?_
        refine lv_bipush (v := 20) hx hb dX12_goneWorth_18 (by decide) ?_
        refine lv_iload_n hx hb dX12_goneWorth_20 rfl (lv_at hl 1 rfl) ?_
        refine lv_imul hx hb dX12_goneWorth_21 ?_
        refine lv_topi (fun x_365 he_x_365 => ?_)
        have hq_x_365 := z_mulq he_x_365 hk_20 (rfl : pp.toInt = _) (by omega) (by omega)
        refine lv_bipush (v := 20) hx hb dX12_goneWorth_22 (by decide) ?_
        refine lv_iadd hx hb dX12_goneWorth_24 ?_
        refine lv_topi (fun x_366 he_x_366 => ?_)
        have hq_x_366 := z_addq he_x_366 (rfl : x_365.toInt = _) hk_20 (by omega) (by omega)
        refine lv_aload_n hx hb dX12_goneWorth_25 rfl (lv_at hl 0 rfl) ?_
        refine lv_iload hx hb dX12_goneWorth_26 (lv_at hl 4 rfl) ?_
        refine z_callVi (As := [.int v_338]) (rest := [.int x_366, .ref a_weights]) (wr := [(a_weights, .inl (cA.1 1, 100, .inr (.inl g_339)))]) ⟨hx, hb, hml, hown, hts⟩ hK hE hT hP hD hS hA (r_onward l G cA h0 m_status m_thrown m_above m_under a_traySort a_trayMany a_numbers a_tape m_taped m_textEnd m_faultKind m_faultAt m_bad m_badAt m_token m_at m_behind m_number m_letters m_word a_c a_words m_markMany a_there a_tried a_best a_found m_thereMany m_foundMany m_orderHow m_orderRing m_orderMany m_hasBest m_bestTop m_bestBy a_weights a_shared m_random m_truePlace m_trueWay m_seconds m_done m_feelings m_tries m_leftOver m_playDoor m_playRing m_isOpen m_isOver m_wasTried m_hasPlayed a_feltNow a_last a_kept m_hasSeconds m_hasTurned m_hasRound a_hasFeels a_isOn m_firstAct m_meanTop m_meanBy a_order m_rowMany m_newSteps v_338 (by omega) (by omega) (by omega)) lk_RX12_336 ⟨rfl, rfl⟩ ⟨Nat.le_of_ble_eq_true rfl, Nat.le_of_ble_eq_true rfl⟩ 12 rfl rfl rfl [0] [1] rfl rfl (by decide) rfl hl.1 rfl (lv_room (Nat.le_of_ble_eq_true rfl)) dX12_goneWorth_28 ⟨Nat.le_of_ble_eq_true rfl, Nat.le_of_ble_eq_true rfl⟩ (fun r_367 u_368 H locs hw hP hD hS => ?_)
        obtain ⟨hr_r_367, hf_369⟩ := hw
        refine lv_iadd hx hb dX12_goneWorth_31 ?_
        refine lv_topi (fun x_370 he_x_370 => ?_)
        have hq_x_370 := z_addq he_x_370 (rfl : x_366.toInt = _) (rfl : r_367.toInt = _) (by omega) (by omega)
        refine lv_aload_n hx hb dX12_goneWorth_32 rfl (lv_at hl 0 rfl) ?_
        refine va_get (D := G) (ci := 12) (v := .ref a_weights) (C := RX12) (T := TX12) (N := 65) hx hb hts inT12 hown hK hP 1 rfl rfl 35 (by decide) (hts _ tw_1919) (fun _ h9 => h9) rfl dX12_goneWorth_33 ?_
        refine lv_bipush (v := 20) hx hb dX12_goneWorth_36 (by decide) ?_
        refine lv_iload_n hx hb dX12_goneWorth_38 rfl (lv_at hl 1 rfl) ?_
        refine lv_imul hx hb dX12_goneWorth_39 ?_
        refine lv_topi (fun x_371 he_x_371 => ?_)
        have hq_x_371 := z_mulq he_x_371 hk_20 (rfl : pp.toInt = _) (by omega) (by omega)
        refine lv_iload hx hb dX12_goneWorth_40 (lv_at hl 4 rfl) ?_
        refine lv_iadd hx hb dX12_goneWorth_42 ?_
        refine lv_topi (fun x_372 he_x_372 => ?_)
        have hq_x_372 := z_addq he_x_372 (rfl : x_371.toInt = _) (rfl : v_338.toInt = _) (by omega) (by omega)
        refine va_lald hx hb hK hP 0 1 rfl rfl (z_inN (by omega) (by omega)) dX12_goneWorth_43 ?_
        refine lv_topl (fun x_373 he_x_373 => ?_)
        refine z_last hx hb hK hP hD hS 0 1 rfl rfl (z_inN (by omega) (by omega)) dX12_goneWorth_44 (fun g_374 hg_g_374 H locs hP hD hS => ?_)
        obtain ⟨x_375, he_x_375⟩ : ∃ z : Int32, z = v_338 + 1 := ⟨_, rfl⟩
        have hq_x_375 := z_addq he_x_375 (rfl : v_338.toInt = _) hk_1 (by omega) (by omega)
        refine lv_iinc (v := x_375) (lv' := [(4, .int x_375), (0, .ref h0), (1, .int pp), (2, .int 1), (3, .int d)]) hx hb dX12_goneWorth_45 hl (k := 4) rfl ((z_ofi (by decide +kernel)).trans he_x_375.symm) (by decide) rfl (fun ls hl => ?_)
        refine lv_goto (tgt := 3) hx hb dX12_goneWorth_48 (by decide) ?_
        have hP := hP.sub (ws' := [(h0, .inr (12, [.int m_status, .int m_thrown, .long m_above, .long m_under, .ref a_traySort, .ref a_trayMany, .ref a_numbers, .ref a_tape, .int m_taped, .int m_textEnd, .int m_faultKind, .int m_faultAt, .int m_bad, .int m_badAt, .int m_token, .int m_at, .int m_behind, .int m_number, .int m_letters, .long m_word, .ref a_c, .ref a_words, .int m_markMany, .ref a_there, .ref a_tried, .ref a_best, .ref a_found, .int m_thereMany, .int m_foundMany, .int m_orderHow, .int m_orderRing, .int m_orderMany, .int m_hasBest, .long m_bestTop, .long m_bestBy, .ref a_weights, .ref a_shared, .int m_random, .int m_truePlace, .int m_trueWay, .int m_seconds, .int m_done, .int m_feelings, .int m_tries, .int m_leftOver, .int m_playDoor, .int m_playRing, .int m_isOpen, .int m_isOver, .int m_wasTried, .int m_hasPlayed, .ref a_feltNow, .ref a_last, .ref a_kept, .int m_hasSeconds, .int m_hasTurned, .int m_hasRound, .ref a_hasFeels, .ref a_isOn, .int m_firstAct, .long m_meanTop, .long m_meanBy, .ref a_order, .int m_rowMany, .int m_newSteps])), (a_weights, .inl (cA.1 1, 100, .inr (.inl g_374)))]) [1, 0] rfl
        have hD := hD.sub (ws' := [(h0, .inr (12, [.int m_status, .int m_thrown, .long m_above, .long m_under, .ref a_traySort, .ref a_trayMany, .ref a_numbers, .ref a_tape, .int m_taped, .int m_textEnd, .int m_faultKind, .int m_faultAt, .int m_bad, .int m_badAt, .int m_token, .int m_at, .int m_behind, .int m_number, .int m_letters, .long m_word, .ref a_c, .ref a_words, .int m_markMany, .ref a_there, .ref a_tried, .ref a_best, .ref a_found, .int m_thereMany, .int m_foundMany, .int m_orderHow, .int m_orderRing, .int m_orderMany, .int m_hasBest, .long m_bestTop, .long m_bestBy, .ref a_weights, .ref a_shared, .int m_random, .int m_truePlace, .int m_trueWay, .int m_seconds, .int m_done, .int m_feelings, .int m_tries, .int m_leftOver, .int m_playDoor, .int m_playRing, .int m_isOpen, .int m_isOver, .int m_wasTried, .int m_hasPlayed, .ref a_feltNow, .ref a_last, .ref a_kept, .int m_hasSeconds, .int m_hasTurned, .int m_hasRound, .ref a_hasFeels, .ref a_isOn, .int m_firstAct, .long m_meanTop, .long m_meanBy, .ref a_order, .int m_rowMany, .int m_newSteps])), (a_weights, .inl (cA.1 1, 100, .inr (.inl g_374)))]) [1, 0] (by decide) rfl
        exact ih_356 x_375 g_374 H locs ls (by omega) (by omega) hP hD hS (lv_sub hl [1, 2, 3, 4, 0] rfl)
  exact hlp_355 _ 0 g_weights _ _ _ (Nat.lt_succ_self _) (by decide +kernel) hP hD hS (lv_sub hl [1, 2, 3, 4, 0] rfl)
set_option maxHeartbeats 4000000 in
set_option maxRecDepth 100000 in
theorem r_feltWorth_1 (l : Launch) (G : va_G) (cA : zCA) (h0 : Nat) (m_status : Int32) (m_thrown : Int32) (m_above : Int64) (m_under : Int64) (a_traySort : Nat) (a_trayMany : Nat) (a_numbers : Nat) (a_tape : Nat) (m_taped : Int32) (m_textEnd : Int32) (m_faultKind : Int32) (m_faultAt : Int32) (m_bad : Int32) (m_badAt : Int32) (m_token : Int32) (m_at : Int32) (m_behind : Int32) (m_number : Int32) (m_letters : Int32) (m_word : Int64) (a_c : Nat) (a_words : Nat) (m_markMany : Int32) (a_there : Nat) (a_tried : Nat) (a_best : Nat) (a_found : Nat) (m_thereMany : Int32) (m_foundMany : Int32) (m_orderHow : Int32) (m_orderRing : Int32) (m_orderMany : Int32) (m_hasBest : Int32) (m_bestTop : Int64) (m_bestBy : Int64) (a_weights : Nat) (a_shared : Nat) (m_random : Int32) (m_truePlace : Int32) (m_trueWay : Int32) (m_seconds : Int32) (m_done : Int32) (m_feelings : Int32) (m_tries : Int32) (m_leftOver : Int32) (m_playDoor : Int32) (m_playRing : Int32) (m_isOpen : Int32) (m_isOver : Int32) (m_wasTried : Int32) (m_hasPlayed : Int32) (a_feltNow : Nat) (a_last : Nat) (a_kept : Nat) (m_hasSeconds : Int32) (m_hasTurned : Int32) (m_hasRound : Int32) (a_hasFeels : Nat) (a_isOn : Nat) (m_firstAct : Int32) (m_meanTop : Int64) (m_meanBy : Int64) (a_order : Nat) (m_rowMany : Int32) (m_newSteps : Int32) (g_c : Nat → Int32) (g_there : Nat → Int32) (g_weights : Nat → Int64) (pp : Int32) (d : Int32) (f : Int32) (hr_pp : 0 ≤ pp.toInt ∧ pp.toInt ≤ 3) (hr_d : 0 ≤ d.toInt ∧ d.toInt ≤ 4) (hr_f : 0 ≤ f.toInt ∧ f.toInt ≤ 2) (hr_m_thereMany : 0 ≤ m_thereMany.toInt ∧ m_thereMany.toInt ≤ 10) (hC_g_c : zC g_c) (hC_g_there : zRg 10 0 9 g_there) : zCl l yX12_feltWorth cX12_feltWorth 9 (some .long) ({ frames := 2, cells := 0, slots := 0, locals := 48 }) G cA [.ref h0, .int pp, .int 1, .int d, .int f] [(h0, .inr (12, [.int m_status, .int m_thrown, .long m_above, .long m_under, .ref a_traySort, .ref a_trayMany, .ref a_numbers, .ref a_tape, .int m_taped, .int m_textEnd, .int m_faultKind, .int m_faultAt, .int m_bad, .int m_badAt, .int m_token, .int m_at, .int m_behind, .int m_number, .int m_letters, .long m_word, .ref a_c, .ref a_words, .int m_markMany, .ref a_there, .ref a_tried, .ref a_best, .ref a_found, .int m_thereMany, .int m_foundMany, .int m_orderHow, .int m_orderRing, .int m_orderMany, .int m_hasBest, .long m_bestTop, .long m_bestBy, .ref a_weights, .ref a_shared, .int m_random, .int m_truePlace, .int m_trueWay, .int m_seconds, .int m_done, .int m_feelings, .int m_tries, .int m_leftOver, .int m_playDoor, .int m_playRing, .int m_isOpen, .int m_isOver, .int m_wasTried, .int m_hasPlayed, .ref a_feltNow, .ref a_last, .ref a_kept, .int m_hasSeconds, .int m_hasTurned, .int m_hasRound, .ref a_hasFeels, .ref a_isOn, .int m_firstAct, .long m_meanTop, .long m_meanBy, .ref a_order, .int m_rowMany, .int m_newSteps])), (a_c, .inl (cA.1 0, 1825, .inl g_c)), (a_there, .inl (cA.1 0, 10, .inl g_there)), (a_weights, .inl (cA.1 1, 100, .inr (.inl g_weights)))] (S := (Nat → Int64)) (fun (r : Int64) (u : (Nat → Int64)) => (0 ≤ r.toInt ∧ r.toInt ≤ 0)) (fun (u : (Nat → Int64)) => [(h0, .inr (12, [.int m_status, .int m_thrown, .long m_above, .long m_under, .ref a_traySort, .ref a_trayMany, .ref a_numbers, .ref a_tape, .int m_taped, .int m_textEnd, .int m_faultKind, .int m_faultAt, .int m_bad, .int m_badAt, .int m_token, .int m_at, .int m_behind, .int m_number, .int m_letters, .long m_word, .ref a_c, .ref a_words, .int m_markMany, .ref a_there, .ref a_tried, .ref a_best, .ref a_found, .int m_thereMany, .int m_foundMany, .int m_orderHow, .int m_orderRing, .int m_orderMany, .int m_hasBest, .long m_bestTop, .long m_bestBy, .ref a_weights, .ref a_shared, .int m_random, .int m_truePlace, .int m_trueWay, .int m_seconds, .int m_done, .int m_feelings, .int m_tries, .int m_leftOver, .int m_playDoor, .int m_playRing, .int m_isOpen, .int m_isOver, .int m_wasTried, .int m_hasPlayed, .ref a_feltNow, .ref a_last, .ref a_kept, .int m_hasSeconds, .int m_hasTurned, .int m_hasRound, .ref a_hasFeels, .ref a_isOn, .int m_firstAct, .long m_meanTop, .long m_meanBy, .ref a_order, .int m_rowMany, .int m_newSteps])), (a_c, .inl (cA.1 0, 1825, .inl g_c)), (a_there, .inl (cA.1 0, 10, .inl g_there)), (a_weights, .inl (cA.1 1, 100, .inr (.inl u)))]) 0 0 := by
  have hk_0 : (0 : Int32).toInt = 0 := by decide +kernel
  have hk_1 : (1 : Int32).toInt = 1 := by decide +kernel
  have hk_2 : (2 : Int32).toInt = 2 := by decide +kernel
  have hk_11 : (11 : Int32).toInt = 11 := by decide +kernel
  have hk_20 : (20 : Int32).toInt = 20 := by decide +kernel
  have hkl_0 : (0 : Int64).toInt = 0 := by decide +kernel
  refine z_start2l (own := RX12) (by decide) (Nat.le_of_ble_eq_true rfl) rfl ?_
  intro p e s m args below meth c A ls Q hx hb hml hts hown hK hE hT hP hD hS hA hl hret
  have hl : lv_has ls 9 [(0, .ref h0), (1, .int pp), (2, .int 1), (3, .int d), (4, .int f)] := hl
  refine lv_lconst (v := 0) hx hb dX12_feltWorth_0 (by decide) ?_
  refine lv_lstore (lv' := [(5, .long 0), (0, .ref h0), (1, .int pp), (2, .int 1), (3, .int d), (4, .int f)]) hx hb dX12_feltWorth_1 hl (by decide) rfl (fun ls hl => ?_)
  refine lv_iconst (v := 0) hx hb dX12_feltWorth_3 (by decide) ?_
  refine lv_istore (lv' := [(7, .int 0), (5, .long 0), (0, .ref h0), (1, .int pp), (2, .int 1), (3, .int d), (4, .int f)]) hx hb dX12_feltWorth_4 hl (by decide) rfl (fun ls hl => ?_)
  have hlp_2949 : ∀ (n : Nat) (v_2457 : Int64) (v_2458 : Int32) (g_2459 : Nat → Int64) (H : Heap) (locs : List Loc) (ls : Array Slot), (2147483647 - v_2458.toInt).toNat < n → (0 ≤ v_2457.toInt ∧ v_2457.toInt ≤ 0) → (0 ≤ v_2458.toInt ∧ v_2458.toInt ≤ 4) → va_P G vwCl [(h0, .inr (12, [.int m_status, .int m_thrown, .long m_above, .long m_under, .ref a_traySort, .ref a_trayMany, .ref a_numbers, .ref a_tape, .int m_taped, .int m_textEnd, .int m_faultKind, .int m_faultAt, .int m_bad, .int m_badAt, .int m_token, .int m_at, .int m_behind, .int m_number, .int m_letters, .long m_word, .ref a_c, .ref a_words, .int m_markMany, .ref a_there, .ref a_tried, .ref a_best, .ref a_found, .int m_thereMany, .int m_foundMany, .int m_orderHow, .int m_orderRing, .int m_orderMany, .int m_hasBest, .long m_bestTop, .long m_bestBy, .ref a_weights, .ref a_shared, .int m_random, .int m_truePlace, .int m_trueWay, .int m_seconds, .int m_done, .int m_feelings, .int m_tries, .int m_leftOver, .int m_playDoor, .int m_playRing, .int m_isOpen, .int m_isOver, .int m_wasTried, .int m_hasPlayed, .ref a_feltNow, .ref a_last, .ref a_kept, .int m_hasSeconds, .int m_hasTurned, .int m_hasRound, .ref a_hasFeels, .ref a_isOn, .int m_firstAct, .long m_meanTop, .long m_meanBy, .ref a_order, .int m_rowMany, .int m_newSteps])), (a_c, .inl (cA.1 0, 1825, .inl g_c)), (a_there, .inl (cA.1 0, 10, .inl g_there)), (a_weights, .inl (cA.1 1, 100, .inr (.inl g_2459)))] H → va_D A [(h0, .inr (12, [.int m_status, .int m_thrown, .long m_above, .long m_under, .ref a_traySort, .ref a_trayMany, .ref a_numbers, .ref a_tape, .int m_taped, .int m_textEnd, .int m_faultKind, .int m_faultAt, .int m_bad, .int m_badAt, .int m_token, .int m_at, .int m_behind, .int m_number, .int m_letters, .long m_word, .ref a_c, .ref a_words, .int m_markMany, .ref a_there, .ref a_tried, .ref a_best, .ref a_found, .int m_thereMany, .int m_foundMany, .int m_orderHow, .int m_orderRing, .int m_orderMany, .int m_hasBest, .long m_bestTop, .long m_bestBy, .ref a_weights, .ref a_shared, .int m_random, .int m_truePlace, .int m_trueWay, .int m_seconds, .int m_done, .int m_feelings, .int m_tries, .int m_leftOver, .int m_playDoor, .int m_playRing, .int m_isOpen, .int m_isOver, .int m_wasTried, .int m_hasPlayed, .ref a_feltNow, .ref a_last, .ref a_kept, .int m_hasSeconds, .int m_hasTurned, .int m_hasRound, .ref a_hasFeels, .ref a_isOn, .int m_firstAct, .long m_meanTop, .long m_meanBy, .ref a_order, .int m_rowMany, .int m_newSteps])), (a_c, .inl (cA.1 0, 1825, .inl g_c)), (a_there, .inl (cA.1 0, 10, .inl g_there)), (a_weights, .inl (cA.1 1, 100, .inr (.inl g_2459)))] → va_S A s.heap H locs → lv_has ls 9 [(0, .ref h0), (1, .int pp), (2, .int 1), (3, .int d), (4, .int f), (5, .long v_2457), (7, .int v_2458)] → W p l e ({ frames := 2, cells := 0, slots := 0, locals := 48 }) s m args below meth c H locs 0 0 Q (F0 m 6 ls []) := by
    intro n
    induction n with
    | zero =>
      intro v_2457 v_2458 g_2459 H locs ls hmu_hlp_2949 hr_v_2457 hr_v_2458 hP hD hS hl
      exact absurd hmu_hlp_2949 (Nat.not_lt_zero _)
    | succ n ih_2950 =>
      intro v_2457 v_2458 g_2459 H locs ls hmu_hlp_2949 hr_v_2457 hr_v_2458 hP hD hS hl
      refine lv_iload hx hb dX12_feltWorth_6 (lv_at hl 6 rfl) ?_
      refine lv_aload_n hx hb dX12_feltWorth_8 rfl (lv_at hl 0 rfl) ?_
      refine va_get (D := G) (ci := 12) (v := .ref a_c) (C := RX12) (T := TX12) (N := 65) hx hb hts inT12 hown hK hP 0 rfl rfl 20 (by decide) (hts _ tw_1905) (fun _ h9 => h9) rfl dX12_feltWorth_9 ?_
      refine lv_bipush (v := 11) hx hb dX12_feltWorth_12 (by decide) ?_
      refine lv_iload hx hb dX12_feltWorth_14 (lv_at hl 4 rfl) ?_
      refine lv_iadd hx hb dX12_feltWorth_16 ?_
      refine lv_topi (fun x_2951 he_x_2951 => ?_)
      have hq_x_2951 := z_addq he_x_2951 hk_11 (rfl : f.toInt = _) (by omega) (by omega)
      refine va_iald hx hb hK hP 1 0 rfl rfl (z_inN (by omega) (by omega)) dX12_feltWorth_17 ?_
      refine lv_topi (fun x_2952 he_x_2952 => ?_)
      have hr_x_2952 := z_ct hC_g_c he_x_2952 (a := 11) (b := 13) (lo := 0) (hi := 4) (by decide +kernel) (by decide) (by omega) (by omega)
      refine lv_icmp_ge (tgt := 113) hx hb dX12_feltWorth_18 (by decide) (fun c_2953 => ?_) (fun c_2953 => ?_)
      · have b_2954 := z_fgeT c_2953
        refine lv_lload hx hb dX12_feltWorth_113 (lv_at hl 5 rfl) ?_
        have hpost : (0 ≤ v_2457.toInt ∧ v_2457.toInt ≤ 0) := hr_v_2457
        exact hret _ _ _ _ _ _ g_2459 [0, 1, 2, 3] hP hD hS rfl (by decide) dX12_feltWorth_115 hpost
      · have b_2955 := z_fltF c_2953
        refine lv_iconst (v := 0) hx hb dX12_feltWorth_21 (by decide) ?_
        refine lv_istore (lv' := [(8, .int 0), (0, .ref h0), (1, .int pp), (2, .int 1), (3, .int d), (4, .int f), (5, .long v_2457), (7, .int v_2458)]) hx hb dX12_feltWorth_22 hl (by decide) rfl (fun ls hl => ?_)
        have hlp_3413 : ∀ (n : Nat) (v_3391 : Int32) (g_3392 : Nat → Int64) (H : Heap) (locs : List Loc) (ls : Array Slot), (2147483647 - v_3391.toInt).toNat < n → (0 ≤ v_3391.toInt ∧ v_3391.toInt ≤ 20) → va_P G vwCl [(h0, .inr (12, [.int m_status, .int m_thrown, .long m_above, .long m_under, .ref a_traySort, .ref a_trayMany, .ref a_numbers, .ref a_tape, .int m_taped, .int m_textEnd, .int m_faultKind, .int m_faultAt, .int m_bad, .int m_badAt, .int m_token, .int m_at, .int m_behind, .int m_number, .int m_letters, .long m_word, .ref a_c, .ref a_words, .int m_markMany, .ref a_there, .ref a_tried, .ref a_best, .ref a_found, .int m_thereMany, .int m_foundMany, .int m_orderHow, .int m_orderRing, .int m_orderMany, .int m_hasBest, .long m_bestTop, .long m_bestBy, .ref a_weights, .ref a_shared, .int m_random, .int m_truePlace, .int m_trueWay, .int m_seconds, .int m_done, .int m_feelings, .int m_tries, .int m_leftOver, .int m_playDoor, .int m_playRing, .int m_isOpen, .int m_isOver, .int m_wasTried, .int m_hasPlayed, .ref a_feltNow, .ref a_last, .ref a_kept, .int m_hasSeconds, .int m_hasTurned, .int m_hasRound, .ref a_hasFeels, .ref a_isOn, .int m_firstAct, .long m_meanTop, .long m_meanBy, .ref a_order, .int m_rowMany, .int m_newSteps])), (a_c, .inl (cA.1 0, 1825, .inl g_c)), (a_there, .inl (cA.1 0, 10, .inl g_there)), (a_weights, .inl (cA.1 1, 100, .inr (.inl g_3392)))] H → va_D A [(h0, .inr (12, [.int m_status, .int m_thrown, .long m_above, .long m_under, .ref a_traySort, .ref a_trayMany, .ref a_numbers, .ref a_tape, .int m_taped, .int m_textEnd, .int m_faultKind, .int m_faultAt, .int m_bad, .int m_badAt, .int m_token, .int m_at, .int m_behind, .int m_number, .int m_letters, .long m_word, .ref a_c, .ref a_words, .int m_markMany, .ref a_there, .ref a_tried, .ref a_best, .ref a_found, .int m_thereMany, .int m_foundMany, .int m_orderHow, .int m_orderRing, .int m_orderMany, .int m_hasBest, .long m_bestTop, .long m_bestBy, .ref a_weights, .ref a_shared, .int m_random, .int m_truePlace, .int m_trueWay, .int m_seconds, .int m_done, .int m_feelings, .int m_tries, .int m_leftOver, .int m_playDoor, .int m_playRing, .int m_isOpen, .int m_isOver, .int m_wasTried, .int m_hasPlayed, .ref a_feltNow, .ref a_last, .ref a_kept, .int m_hasSeconds, .int m_hasTurned, .int m_hasRound, .ref a_hasFeels, .ref a_isOn, .int m_firstAct, .long m_meanTop, .long m_meanBy, .ref a_order, .int m_rowMany, .int m_newSteps])), (a_c, .inl (cA.1 0, 1825, .inl g_c)), (a_there, .inl (cA.1 0, 10, .inl g_there)), (a_weights, .inl (cA.1 1, 100, .inr (.inl g_3392)))] → va_S A s.heap H locs → lv_has ls 9 [(0, .ref h0), (1, .int pp), (2, .int 1), (3, .int d), (4, .int f), (5, .long v_2457), (7, .int v_2458), (8, .int v_3391)] → W p l e ({ frames := 2, cells := 0, slots := 0, locals := 48 }) s m args below meth c H locs 0 0 Q (F0 m 24 ls []) := by
          intro n
          induction n with
          | zero =>
            intro v_3391 g_3392 H locs ls hmu_hlp_3413 hr_v_3391 hP hD hS hl
            exact absurd hmu_hlp_3413 (Nat.not_lt_zero _)
          | succ n ih_3414 =>
            intro v_3391 g_3392 H locs ls hmu_hlp_3413 hr_v_3391 hP hD hS hl
            refine lv_iload hx hb dX12_feltWorth_24 (lv_at hl 7 rfl) ?_
            refine lv_iconst (v := 2) hx hb dX12_feltWorth_26 (by decide) ?_
            refine lv_aload_n hx hb dX12_feltWorth_27 rfl (lv_at hl 0 rfl) ?_
            refine va_get (D := G) (ci := 12) (v := .int m_thereMany) (C := RX12) (T := TX12) (N := 65) hx hb hts inT12 hown hK hP 0 rfl rfl 27 (by decide) (hts _ tw_1912) (fun _ h9 => h9) rfl dX12_feltWorth_28 ?_
            refine lv_imul hx hb dX12_feltWorth_31 ?_
            refine lv_topi (fun x_3415 he_x_3415 => ?_)
            have hq_x_3415 := z_mulq he_x_3415 hk_2 (rfl : m_thereMany.toInt = _) (by omega) (by omega)
            refine lv_icmp_ge (tgt := 91) hx hb dX12_feltWorth_32 (by decide) (fun c_3416 => ?_) (fun c_3416 => ?_)
            · have b_3417 := z_fgeT c_3416
              refine lv_lload hx hb dX12_feltWorth_91 (lv_at hl 5 rfl) ?_
              refine lv_aload_n hx hb dX12_feltWorth_93 rfl (lv_at hl 0 rfl) ?_
              refine lv_iload_n hx hb dX12_feltWorth_94 rfl (lv_at hl 1 rfl) ?_
              refine lv_iconst (v := 1) hx hb dX12_feltWorth_95 (by decide) ?_
              refine lv_iadd hx hb dX12_feltWorth_96 ?_
              refine lv_topi (fun x_3418 he_x_3418 => ?_)
              have hq_x_3418 := z_addq he_x_3418 (rfl : pp.toInt = _) hk_1 (by omega) (by omega)
              refine lv_iload_n hx hb dX12_feltWorth_97 rfl (lv_at hl 2 rfl) ?_
              refine lv_iconst (v := 1) hx hb dX12_feltWorth_98 (by decide) ?_
              refine lv_isub hx hb dX12_feltWorth_99 ?_
              refine z_topi (y := 0) (by decide +kernel) ?_
              refine lv_iload_n hx hb dX12_feltWorth_100 rfl (lv_at hl 3 rfl) ?_
              refine z_callVl (As := [.int x_3418, .int 0, .int d]) (rest := [.long v_2457]) (wr := [(a_c, .inl (cA.1 0, 1825, .inl g_c)), (a_there, .inl (cA.1 0, 10, .inl g_there)), (a_weights, .inl (cA.1 1, 100, .inr (.inl g_3392)))]) ⟨hx, hb, hml, hown, hts⟩ hK hE hT hP hD hS hA (r_worthOf_0 l G cA h0 m_status m_thrown m_above m_under a_traySort a_trayMany a_numbers a_tape m_taped m_textEnd m_faultKind m_faultAt m_bad m_badAt m_token m_at m_behind m_number m_letters m_word a_c a_words m_markMany a_there a_tried a_best a_found m_thereMany m_foundMany m_orderHow m_orderRing m_orderMany m_hasBest m_bestTop m_bestBy a_weights a_shared m_random m_truePlace m_trueWay m_seconds m_done m_feelings m_tries m_leftOver m_playDoor m_playRing m_isOpen m_isOver m_wasTried m_hasPlayed a_feltNow a_last a_kept m_hasSeconds m_hasTurned m_hasRound a_hasFeels a_isOn m_firstAct m_meanTop m_meanBy a_order m_rowMany m_newSteps x_3418 d (by omega) hr_d) lk_RX12_379 ⟨rfl, rfl⟩ ⟨Nat.le_of_ble_eq_true rfl, Nat.le_of_ble_eq_true rfl⟩ 12 rfl rfl rfl [0] [1, 2, 3] rfl rfl (by decide) rfl hl.1 rfl (lv_room (Nat.le_of_ble_eq_true rfl)) dX12_feltWorth_101 ⟨Nat.le_of_ble_eq_true rfl, Nat.le_of_ble_eq_true rfl⟩ (fun r_3419 u_3420 H locs hw hP hD hS => ?_)
              have hr_r_3419 := hw
              refine lv_ladd hx hb dX12_feltWorth_104 ?_
              refine lv_topl (fun x_3421 he_x_3421 => ?_)
              have hq_x_3421 := z_addql he_x_3421 (rfl : v_2457.toInt = _) (rfl : r_3419.toInt = _) (by omega) (by omega)
              refine lv_lstore (lv' := [(5, .long x_3421), (0, .ref h0), (1, .int pp), (2, .int 1), (3, .int d), (4, .int f), (7, .int v_2458), (8, .int v_3391)]) hx hb dX12_feltWorth_105 hl (by decide) rfl (fun ls hl => ?_)
              obtain ⟨x_3422, he_x_3422⟩ : ∃ z : Int32, z = v_2458 + 1 := ⟨_, rfl⟩
              have hq_x_3422 := z_addq he_x_3422 (rfl : v_2458.toInt = _) hk_1 (by omega) (by omega)
              refine lv_iinc (v := x_3422) (lv' := [(7, .int x_3422), (5, .long x_3421), (0, .ref h0), (1, .int pp), (2, .int 1), (3, .int d), (4, .int f), (8, .int v_3391)]) hx hb dX12_feltWorth_107 hl (k := 6) rfl ((z_ofi (by decide +kernel)).trans he_x_3422.symm) (by decide) rfl (fun ls hl => ?_)
              refine lv_goto (tgt := 6) hx hb dX12_feltWorth_110 (by decide) ?_
              have hP := hP.sub (ws' := [(h0, .inr (12, [.int m_status, .int m_thrown, .long m_above, .long m_under, .ref a_traySort, .ref a_trayMany, .ref a_numbers, .ref a_tape, .int m_taped, .int m_textEnd, .int m_faultKind, .int m_faultAt, .int m_bad, .int m_badAt, .int m_token, .int m_at, .int m_behind, .int m_number, .int m_letters, .long m_word, .ref a_c, .ref a_words, .int m_markMany, .ref a_there, .ref a_tried, .ref a_best, .ref a_found, .int m_thereMany, .int m_foundMany, .int m_orderHow, .int m_orderRing, .int m_orderMany, .int m_hasBest, .long m_bestTop, .long m_bestBy, .ref a_weights, .ref a_shared, .int m_random, .int m_truePlace, .int m_trueWay, .int m_seconds, .int m_done, .int m_feelings, .int m_tries, .int m_leftOver, .int m_playDoor, .int m_playRing, .int m_isOpen, .int m_isOver, .int m_wasTried, .int m_hasPlayed, .ref a_feltNow, .ref a_last, .ref a_kept, .int m_hasSeconds, .int m_hasTurned, .int m_hasRound, .ref a_hasFeels, .ref a_isOn, .int m_firstAct, .long m_meanTop, .long m_meanBy, .ref a_order, .int m_rowMany, .int m_newSteps])), (a_c, .inl (cA.1 0, 1825, .inl g_c)), (a_there, .inl (cA.1 0, 10, .inl g_there)), (a_weights, .inl (cA.1 1, 100, .inr (.inl g_3392)))]) [3, 0, 1, 2] rfl
              have hD := hD.sub (ws' := [(h0, .inr (12, [.int m_status, .int m_thrown, .long m_above, .long m_under, .ref a_traySort, .ref a_trayMany, .ref a_numbers, .ref a_tape, .int m_taped, .int m_textEnd, .int m_faultKind, .int m_faultAt, .int m_bad, .int m_badAt, .int m_token, .int m_at, .int m_behind, .int m_number, .int m_letters, .long m_word, .ref a_c, .ref a_words, .int m_markMany, .ref a_there, .ref a_tried, .ref a_best, .ref a_found, .int m_thereMany, .int m_foundMany, .int m_orderHow, .int m_orderRing, .int m_orderMany, .int m_hasBest, .long m_bestTop, .long m_bestBy, .ref a_weights, .ref a_shared, .int m_random, .int m_truePlace, .int m_trueWay, .int m_seconds, .int m_done, .int m_feelings, .int m_tries, .int m_leftOver, .int m_playDoor, .int m_playRing, .int m_isOpen, .int m_isOver, .int m_wasTried, .int m_hasPlayed, .ref a_feltNow, .ref a_last, .ref a_kept, .int m_hasSeconds, .int m_hasTurned, .int m_hasRound, .ref a_hasFeels, .ref a_isOn, .int m_firstAct, .long m_meanTop, .long m_meanBy, .ref a_order, .int m_rowMany, .int m_newSteps])), (a_c, .inl (cA.1 0, 1825, .inl g_c)), (a_there, .inl (cA.1 0, 10, .inl g_there)), (a_weights, .inl (cA.1 1, 100, .inr (.inl g_3392)))]) [3, 0, 1, 2] (by decide) rfl
              exact ih_2950 x_3421 x_3422 g_3392 H locs ls (by omega) (by omega) (by omega) hP hD hS (lv_sub hl [2, 3, 4, 5, 6, 1, 0] rfl)
            · have b_3423 := z_fltF c_3416
              refine lv_aload_n hx hb dX12_feltWorth_35 rfl (lv_at hl 0 rfl) ?_
              refine va_get (D := G) (ci := 12) (v := .ref a_weights) (C := RX12) (T := TX12) (N := 65) hx hb hts inT12 hown hK hP 0 rfl rfl 35 (by decide) (hts _ tw_1919) (fun _ h9 => h9) rfl dX12_feltWorth_36 ?_
              refine lv_bipush (v := 20) hx hb dX12_feltWorth_39 (by decide) ?_
              refine lv_iload_n hx hb dX12_feltWorth_41 rfl (lv_at hl 1 rfl) ?_
              refine lv_imul hx hb dX12_feltWorth_42 ?_
              refine lv_topi (fun x_3424 he_x_3424 => ?_)
              have hq_x_3424 := z_mulq he_x_3424 hk_20 (rfl : pp.toInt = _) (by omega) (by omega)
              refine lv_bipush (v := 20) hx hb dX12_feltWorth_43 (by decide) ?_
              refine lv_iadd hx hb dX12_feltWorth_45 ?_
              refine lv_topi (fun x_3425 he_x_3425 => ?_)
              have hq_x_3425 := z_addq he_x_3425 (rfl : x_3424.toInt = _) hk_20 (by omega) (by omega)
              refine lv_iload hx hb dX12_feltWorth_46 (lv_at hl 7 rfl) ?_
              refine lv_iadd hx hb dX12_feltWorth_48 ?_
              refine lv_topi (fun x_3426 he_x_3426 => ?_)
              have hq_x_3426 := z_addq he_x_3426 (rfl : x_3425.toInt = _) (rfl : v_3391.toInt = _) (by omega) (by omega)
              refine lv_aload_n hx hb dX12_feltWorth_49 rfl (lv_at hl 0 rfl) ?_
              refine va_get (D := G) (ci := 12) (v := .ref a_weights) (C := RX12) (T := TX12) (N := 65) hx hb hts inT12 hown hK hP 0 rfl rfl 35 (by decide) (hts _ tw_1919) (fun _ h9 => h9) rfl dX12_feltWorth_50 ?_
              refine lv_bipush (v := 20) hx hb dX12_feltWorth_53 (by decide) ?_
              refine lv_iload_n hx hb dX12_feltWorth_55 rfl (lv_at hl 1 rfl) ?_
              refine lv_imul hx hb dX12_feltWorth_56 ?_
              refine lv_topi (fun x_3427 he_x_3427 => ?_)
              have hq_x_3427 := z_mulq he_x_3427 hk_20 (rfl : pp.toInt = _) (by omega) (by omega)
              refine lv_iload hx hb dX12_feltWorth_57 (lv_at hl 7 rfl) ?_
              refine lv_iadd hx hb dX12_feltWorth_59 ?_
              refine lv_topi (fun x_3428 he_x_3428 => ?_)
              have hq_x_3428 := z_addq he_x_3428 (rfl : x_3427.toInt = _) (rfl : v_3391.toInt = _) (by omega) (by omega)
              refine va_lald hx hb hK hP 3 1 rfl rfl (z_inN (by omega) (by omega)) dX12_feltWorth_60 ?_
              refine lv_topl (fun x_3429 he_x_3429 => ?_)
              refine lv_aload_n hx hb dX12_feltWorth_61 rfl (lv_at hl 0 rfl) ?_
              refine lv_aload_n hx hb dX12_feltWorth_62 rfl (lv_at hl 0 rfl) ?_
              refine va_get (D := G) (ci := 12) (v := .ref a_there) (C := RX12) (T := TX12) (N := 65) hx hb hts inT12 hown hK hP 0 rfl rfl 23 (by decide) (hts _ tw_1908) (fun _ h9 => h9) rfl dX12_feltWorth_63 ?_
              refine lv_iload hx hb dX12_feltWorth_66 (lv_at hl 7 rfl) ?_
              refine lv_iconst (v := 2) hx hb dX12_feltWorth_68 (by decide) ?_
              refine lv_idiv hx hb dX12_feltWorth_69 (by decide +kernel) ?_
              refine lv_topi (fun x_3430 he_x_3430 => ?_)
              have hq_x_3430 := z_divq he_x_3430 (rfl : v_3391.toInt = _) hk_2 (by omega) (by decide)
              refine va_iald hx hb hK hP 2 0 rfl rfl (z_inN (by omega) (by omega)) dX12_feltWorth_70 ?_
              refine lv_topi (fun x_3431 he_x_3431 => ?_)
              have hr_x_3431 := z_rg hC_g_there he_x_3431 (by omega) (by omega)
              refine lv_iload hx hb dX12_feltWorth_71 (lv_at hl 4 rfl) ?_
              refine lv_iload hx hb dX12_feltWorth_73 (lv_at hl 7 rfl) ?_
              refine lv_iconst (v := 2) hx hb dX12_feltWorth_75 (by decide) ?_
              refine lv_irem hx hb dX12_feltWorth_76 (by decide +kernel) ?_
              refine lv_topi (fun x_3432 he_x_3432 => ?_)
              have hq_x_3432 := z_remq he_x_3432 (rfl : v_3391.toInt = _) hk_2 (by omega) (by decide)
              refine lv_iload hx hb dX12_feltWorth_77 (lv_at hl 6 rfl) ?_
              refine z_callVi (As := [.int x_3431, .int f, .int x_3432, .int v_2458]) (rest := [.long x_3429, .int x_3426, .ref a_weights]) (wr := [(a_there, .inl (cA.1 0, 10, .inl g_there)), (a_weights, .inl (cA.1 1, 100, .inr (.inl g_3392)))]) ⟨hx, hb, hml, hown, hts⟩ hK hE hT hP hD hS hA (r_felt l G cA h0 m_status m_thrown m_above m_under a_traySort a_trayMany a_numbers a_tape m_taped m_textEnd m_faultKind m_faultAt m_bad m_badAt m_token m_at m_behind m_number m_letters m_word a_c a_words m_markMany a_there a_tried a_best a_found m_thereMany m_foundMany m_orderHow m_orderRing m_orderMany m_hasBest m_bestTop m_bestBy a_weights a_shared m_random m_truePlace m_trueWay m_seconds m_done m_feelings m_tries m_leftOver m_playDoor m_playRing m_isOpen m_isOver m_wasTried m_hasPlayed a_feltNow a_last a_kept m_hasSeconds m_hasTurned m_hasRound a_hasFeels a_isOn m_firstAct m_meanTop m_meanBy a_order m_rowMany m_newSteps g_c x_3431 f x_3432 v_2458 hr_x_3431 hr_f (by omega) (by omega) hC_g_c) lk_RX12_329 ⟨rfl, rfl⟩ ⟨Nat.le_of_ble_eq_true rfl, Nat.le_of_ble_eq_true rfl⟩ 12 rfl rfl rfl [0, 1] [2, 3] rfl rfl (by decide) rfl hl.1 rfl (lv_room (Nat.le_of_ble_eq_true rfl)) dX12_feltWorth_79 ⟨Nat.le_of_ble_eq_true rfl, Nat.le_of_ble_eq_true rfl⟩ (fun r_3433 u_3434 H locs hw hP hD hS => ?_)
              obtain ⟨hr_r_3433, hf_3435⟩ := hw
              refine lv_i2l (v := (r_3433).toInt64) hx hb dX12_feltWorth_82 rfl ?_
              refine lv_topl (fun x_3436 he_x_3436 => ?_)
              have hq_x_3436 := z_i2l he_x_3436
              refine lv_lmul hx hb dX12_feltWorth_83 ?_
              have hL_x_3429 := z_fulll x_3429
              refine lv_topl (fun x_3437 he_x_3437 => ?_)
              refine z_last hx hb hK hP hD hS 1 1 rfl rfl (z_inN (by omega) (by omega)) dX12_feltWorth_84 (fun g_3438 hg_g_3438 H locs hP hD hS => ?_)
              obtain ⟨x_3439, he_x_3439⟩ : ∃ z : Int32, z = v_3391 + 1 := ⟨_, rfl⟩
              have hq_x_3439 := z_addq he_x_3439 (rfl : v_3391.toInt = _) hk_1 (by omega) (by omega)
              refine lv_iinc (v := x_3439) (lv' := [(8, .int x_3439), (0, .ref h0), (1, .int pp), (2, .int 1), (3, .int d), (4, .int f), (5, .long v_2457), (7, .int v_2458)]) hx hb dX12_feltWorth_85 hl (k := 7) rfl ((z_ofi (by decide +kernel)).trans he_x_3439.symm) (by decide) rfl (fun ls hl => ?_)
              refine lv_goto (tgt := 24) hx hb dX12_feltWorth_88 (by decide) ?_
              have hP := hP.sub (ws' := [(h0, .inr (12, [.int m_status, .int m_thrown, .long m_above, .long m_under, .ref a_traySort, .ref a_trayMany, .ref a_numbers, .ref a_tape, .int m_taped, .int m_textEnd, .int m_faultKind, .int m_faultAt, .int m_bad, .int m_badAt, .int m_token, .int m_at, .int m_behind, .int m_number, .int m_letters, .long m_word, .ref a_c, .ref a_words, .int m_markMany, .ref a_there, .ref a_tried, .ref a_best, .ref a_found, .int m_thereMany, .int m_foundMany, .int m_orderHow, .int m_orderRing, .int m_orderMany, .int m_hasBest, .long m_bestTop, .long m_bestBy, .ref a_weights, .ref a_shared, .int m_random, .int m_truePlace, .int m_trueWay, .int m_seconds, .int m_done, .int m_feelings, .int m_tries, .int m_leftOver, .int m_playDoor, .int m_playRing, .int m_isOpen, .int m_isOver, .int m_wasTried, .int m_hasPlayed, .ref a_feltNow, .ref a_last, .ref a_kept, .int m_hasSeconds, .int m_hasTurned, .int m_hasRound, .ref a_hasFeels, .ref a_isOn, .int m_firstAct, .long m_meanTop, .long m_meanBy, .ref a_order, .int m_rowMany, .int m_newSteps])), (a_c, .inl (cA.1 0, 1825, .inl g_c)), (a_there, .inl (cA.1 0, 10, .inl g_there)), (a_weights, .inl (cA.1 1, 100, .inr (.inl g_3438)))]) [2, 3, 0, 1] rfl
              have hD := hD.sub (ws' := [(h0, .inr (12, [.int m_status, .int m_thrown, .long m_above, .long m_under, .ref a_traySort, .ref a_trayMany, .ref a_numbers, .ref a_tape, .int m_taped, .int m_textEnd, .int m_faultKind, .int m_faultAt, .int m_bad, .int m_badAt, .int m_token, .int m_at, .int m_behind, .int m_number, .int m_letters, .long m_word, .ref a_c, .ref a_words, .int m_markMany, .ref a_there, .ref a_tried, .ref a_best, .ref a_found, .int m_thereMany, .int m_foundMany, .int m_orderHow, .int m_orderRing, .int m_orderMany, .int m_hasBest, .long m_bestTop, .long m_bestBy, .ref a_weights, .ref a_shared, .int m_random, .int m_truePlace, .int m_trueWay, .int m_seconds, .int m_done, .int m_feelings, .int m_tries, .int m_leftOver, .int m_playDoor, .int m_playRing, .int m_isOpen, .int m_isOver, .int m_wasTried, .int m_hasPlayed, .ref a_feltNow, .ref a_last, .ref a_kept, .int m_hasSeconds, .int m_hasTurned, .int m_hasRound, .ref a_hasFeels, .ref a_isOn, .int m_firstAct, .long m_meanTop, .long m_meanBy, .ref a_order, .int m_rowMany, .int m_newSteps])), (a_c, .inl (cA.1 0, 1825, .inl g_c)), (a_there, .inl (cA.1 0, 10, .inl g_there)), (a_weights, .inl (cA.1 1, 100, .inr (.inl g_3438)))]) [2, 3, 0, 1] (by decide) rfl
              exact ih_3414 x_3439 g_3438 H locs ls (by omega) (by omega) hP hD hS (lv_sub hl [1, 2, 3, 4, 5, 6, 7, 0] rfl)
        exact hlp_3413 _ 0 g_2459 _ _ _ (Nat.lt_succ_self _) (by decide +kernel) hP hD hS (lv_sub hl [1, 2, 3, 4, 5, 6, 7, 0] rfl)
  exact hlp_2949 _ 0 0 g_weights _ _ _ (Nat.lt_succ_self _) (by decide +kernel) (by decide +kernel) hP hD hS (lv_sub hl [2, 3, 4, 5, 6, 1, 0] rfl)
set_option maxHeartbeats 4000000 in
set_option maxRecDepth 100000 in
theorem r_worthOf_1 (l : Launch) (G : va_G) (cA : zCA) (h0 : Nat) (m_status : Int32) (m_thrown : Int32) (m_above : Int64) (m_under : Int64) (a_traySort : Nat) (a_trayMany : Nat) (a_numbers : Nat) (a_tape : Nat) (m_taped : Int32) (m_textEnd : Int32) (m_faultKind : Int32) (m_faultAt : Int32) (m_bad : Int32) (m_badAt : Int32) (m_token : Int32) (m_at : Int32) (m_behind : Int32) (m_number : Int32) (m_letters : Int32) (m_word : Int64) (a_c : Nat) (a_words : Nat) (m_markMany : Int32) (a_there : Nat) (a_tried : Nat) (a_best : Nat) (a_found : Nat) (m_thereMany : Int32) (m_foundMany : Int32) (m_orderHow : Int32) (m_orderRing : Int32) (m_orderMany : Int32) (m_hasBest : Int32) (m_bestTop : Int64) (m_bestBy : Int64) (a_weights : Nat) (a_shared : Nat) (m_random : Int32) (m_truePlace : Int32) (m_trueWay : Int32) (m_seconds : Int32) (m_done : Int32) (m_feelings : Int32) (m_tries : Int32) (m_leftOver : Int32) (m_playDoor : Int32) (m_playRing : Int32) (m_isOpen : Int32) (m_isOver : Int32) (m_wasTried : Int32) (m_hasPlayed : Int32) (a_feltNow : Nat) (a_last : Nat) (a_kept : Nat) (m_hasSeconds : Int32) (m_hasTurned : Int32) (m_hasRound : Int32) (a_hasFeels : Nat) (a_isOn : Nat) (m_firstAct : Int32) (m_meanTop : Int64) (m_meanBy : Int64) (a_order : Nat) (m_rowMany : Int32) (m_newSteps : Int32) (g_c : Nat → Int32) (g_there : Nat → Int32) (g_weights : Nat → Int64) (pp : Int32) (d : Int32) (hr_pp : 0 ≤ pp.toInt ∧ pp.toInt ≤ 3) (hr_d : 0 ≤ d.toInt ∧ d.toInt ≤ 4) (hr_m_thereMany : 0 ≤ m_thereMany.toInt ∧ m_thereMany.toInt ≤ 10) (hC_g_c : zC g_c) (hC_g_there : zRg 10 0 9 g_there) : zCl l yX12_worthOf cX12_worthOf 10 (some .long) ({ frames := 3, cells := 0, slots := 0, locals := 76 }) G cA [.ref h0, .int pp, .int 1, .int d] [(h0, .inr (12, [.int m_status, .int m_thrown, .long m_above, .long m_under, .ref a_traySort, .ref a_trayMany, .ref a_numbers, .ref a_tape, .int m_taped, .int m_textEnd, .int m_faultKind, .int m_faultAt, .int m_bad, .int m_badAt, .int m_token, .int m_at, .int m_behind, .int m_number, .int m_letters, .long m_word, .ref a_c, .ref a_words, .int m_markMany, .ref a_there, .ref a_tried, .ref a_best, .ref a_found, .int m_thereMany, .int m_foundMany, .int m_orderHow, .int m_orderRing, .int m_orderMany, .int m_hasBest, .long m_bestTop, .long m_bestBy, .ref a_weights, .ref a_shared, .int m_random, .int m_truePlace, .int m_trueWay, .int m_seconds, .int m_done, .int m_feelings, .int m_tries, .int m_leftOver, .int m_playDoor, .int m_playRing, .int m_isOpen, .int m_isOver, .int m_wasTried, .int m_hasPlayed, .ref a_feltNow, .ref a_last, .ref a_kept, .int m_hasSeconds, .int m_hasTurned, .int m_hasRound, .ref a_hasFeels, .ref a_isOn, .int m_firstAct, .long m_meanTop, .long m_meanBy, .ref a_order, .int m_rowMany, .int m_newSteps])), (a_c, .inl (cA.1 0, 1825, .inl g_c)), (a_there, .inl (cA.1 0, 10, .inl g_there)), (a_weights, .inl (cA.1 1, 100, .inr (.inl g_weights)))] (S := (Nat → Int64) × Int32) (fun (r : Int64) (u : (Nat → Int64) × Int32) => True) (fun (u : (Nat → Int64) × Int32) => [(h0, .inr (12, [.int m_status, .int m_thrown, .long m_above, .long m_under, .ref a_traySort, .ref a_trayMany, .ref a_numbers, .ref a_tape, .int m_taped, .int m_textEnd, .int m_faultKind, .int m_faultAt, .int m_bad, .int m_badAt, .int m_token, .int m_at, .int m_behind, .int m_number, .int m_letters, .long m_word, .ref a_c, .ref a_words, .int m_markMany, .ref a_there, .ref a_tried, .ref a_best, .ref a_found, .int m_thereMany, .int m_foundMany, .int m_orderHow, .int m_orderRing, .int m_orderMany, .int m_hasBest, .long m_bestTop, .long m_bestBy, .ref a_weights, .ref a_shared, .int m_random, .int m_truePlace, .int m_trueWay, .int m_seconds, .int m_done, .int m_feelings, .int m_tries, .int m_leftOver, .int m_playDoor, .int m_playRing, .int m_isOpen, .int m_isOver, .int m_wasTried, .int m_hasPlayed, .ref a_feltNow, .ref a_last, .ref a_kept, .int m_hasSeconds, .int m_hasTurned, .int m_hasRound, .ref a_hasFeels, .ref a_isOn, .int u.2, .long m_meanTop, .long m_meanBy, .ref a_order, .int m_rowMany, .int m_newSteps])), (a_c, .inl (cA.1 0, 1825, .inl g_c)), (a_there, .inl (cA.1 0, 10, .inl g_there)), (a_weights, .inl (cA.1 1, 100, .inr (.inl u.1)))]) 0 0 := by
  have hk_0 : (0 : Int32).toInt = 0 := by decide +kernel
  have hk_1 : (1 : Int32).toInt = 1 := by decide +kernel
  refine z_start2l (own := RX12) (by decide) (Nat.le_of_ble_eq_true rfl) rfl ?_
  intro p e s m args below meth c A ls Q hx hb hml hts hown hK hE hT hP hD hS hA hl hret
  have hl : lv_has ls 10 [(0, .ref h0), (1, .int pp), (2, .int 1), (3, .int d)] := hl
  refine lv_iload_n hx hb dX12_worthOf_0 rfl (lv_at hl 2 rfl) ?_
  refine lv_if_ne (tgt := 6) hx hb dX12_worthOf_1 (by decide) (fun _ => ?_) (fun h9 => absurd h9 (by decide +kernel))
  refine lv_aload_n hx hb dX12_worthOf_6 rfl (lv_at hl 0 rfl) ?_
  refine lv_iload_n hx hb dX12_worthOf_7 rfl (lv_at hl 1 rfl) ?_
  refine lv_iload_n hx hb dX12_worthOf_8 rfl (lv_at hl 2 rfl) ?_
  refine lv_iload_n hx hb dX12_worthOf_9 rfl (lv_at hl 3 rfl) ?_
  refine z_callVl (As := [.int pp, .int 1, .int d]) (rest := []) (wr := []) ⟨hx, hb, hml, hown, hts⟩ hK hE hT hP hD hS hA (r_triedWorth_1 l G cA h0 m_status m_thrown m_above m_under a_traySort a_trayMany a_numbers a_tape m_taped m_textEnd m_faultKind m_faultAt m_bad m_badAt m_token m_at m_behind m_number m_letters m_word a_c a_words m_markMany a_there a_tried a_best a_found m_thereMany m_foundMany m_orderHow m_orderRing m_orderMany m_hasBest m_bestTop m_bestBy a_weights a_shared m_random m_truePlace m_trueWay m_seconds m_done m_feelings m_tries m_leftOver m_playDoor m_playRing m_isOpen m_isOver m_wasTried m_hasPlayed a_feltNow a_last a_kept m_hasSeconds m_hasTurned m_hasRound a_hasFeels a_isOn m_firstAct m_meanTop m_meanBy a_order m_rowMany m_newSteps g_c g_there g_weights pp d hr_pp hr_d hr_m_thereMany hC_g_c hC_g_there) lk_RX12_362 ⟨rfl, rfl⟩ ⟨Nat.le_of_ble_eq_true rfl, Nat.le_of_ble_eq_true rfl⟩ 12 rfl rfl rfl [0, 1, 2, 3] [] rfl rfl (by decide) rfl hl.1 rfl (lv_room (Nat.le_of_ble_eq_true rfl)) dX12_worthOf_10 ⟨Nat.le_of_ble_eq_true rfl, Nat.le_of_ble_eq_true rfl⟩ (fun r_2 u_3 H locs hw hP hD hS => ?_)
  obtain ⟨n_1, rfl⟩ : ∃ z, z = u_3 := ⟨_, rfl⟩
  refine lv_lstore (lv' := [(4, .long r_2), (0, .ref h0), (1, .int pp), (2, .int 1), (3, .int d)]) hx hb dX12_worthOf_13 hl (by decide) rfl (fun ls hl => ?_)
  refine lv_iconst (v := 0) hx hb dX12_worthOf_15 (by decide) ?_
  refine lv_istore (lv' := [(6, .int 0), (4, .long r_2), (0, .ref h0), (1, .int pp), (2, .int 1), (3, .int d)]) hx hb dX12_worthOf_16 hl (by decide) rfl (fun ls hl => ?_)
  refine lv_aload_n hx hb dX12_worthOf_18 rfl (lv_at hl 2 rfl) ?_
  refine lv_iload_n hx hb dX12_worthOf_19 rfl (lv_at hl 3 rfl) ?_
  refine lv_iload_n hx hb dX12_worthOf_20 rfl (lv_at hl 4 rfl) ?_
  refine lv_iload_n hx hb dX12_worthOf_21 rfl (lv_at hl 5 rfl) ?_
  refine z_callVl (As := [.int pp, .int 1, .int d]) (rest := []) (wr := [(a_c, .inl (cA.1 0, 1825, .inl g_c)), (a_there, .inl (cA.1 0, 10, .inl g_there))]) ⟨hx, hb, hml, hown, hts⟩ hK hE hT hP hD hS hA (r_goneWorth_1 l G cA h0 m_status m_thrown m_above m_under a_traySort a_trayMany a_numbers a_tape m_taped m_textEnd m_faultKind m_faultAt m_bad m_badAt m_token m_at m_behind m_number m_letters m_word a_c a_words m_markMany a_there a_tried a_best a_found m_thereMany m_foundMany m_orderHow m_orderRing m_orderMany m_hasBest m_bestTop m_bestBy a_weights a_shared m_random m_truePlace m_trueWay m_seconds m_done m_feelings m_tries m_leftOver m_playDoor m_playRing m_isOpen m_isOver m_wasTried m_hasPlayed a_feltNow a_last a_kept m_hasSeconds m_hasTurned m_hasRound a_hasFeels a_isOn m_firstAct m_meanTop m_meanBy a_order m_rowMany m_newSteps n_1 pp d hr_pp hr_d hr_m_thereMany) lk_RX12_366 ⟨rfl, rfl⟩ ⟨Nat.le_of_ble_eq_true rfl, Nat.le_of_ble_eq_true rfl⟩ 12 rfl rfl rfl [0, 3] [1, 2] rfl rfl (by decide) rfl hl.1 rfl (lv_room (Nat.le_of_ble_eq_true rfl)) dX12_worthOf_22 ⟨Nat.le_of_ble_eq_true rfl, Nat.le_of_ble_eq_true rfl⟩ (fun r_5 u_6 H locs hw hP hD hS => ?_)
  obtain ⟨n_4, rfl⟩ : ∃ z, z = u_6 := ⟨_, rfl⟩
  have hr_r_5 := hw
  refine lv_lstore (lv' := [(7, .long r_5), (6, .int 0), (4, .long r_2), (0, .ref h0), (1, .int pp), (2, .int 1), (3, .int d)]) hx hb dX12_worthOf_25 hl (by decide) rfl (fun ls hl => ?_)
  refine lv_lload hx hb dX12_worthOf_27 (lv_at hl 0 rfl) ?_
  refine lv_lload hx hb dX12_worthOf_29 (lv_at hl 2 rfl) ?_
  refine W.lcmp hx hb dX12_worthOf_31 ?_
  refine lv_if_le (tgt := 42) hx hb dX12_worthOf_32 (by decide) (fun c_7 => ?_) (fun c_7 => ?_)
  · have b_8 := z_fleTl c_7
    refine lv_iconst (v := 0) hx hb dX12_worthOf_42 (by decide) ?_
    refine lv_istore (lv' := [(9, .int 0), (7, .long r_5), (6, .int 0), (4, .long r_2), (0, .ref h0), (1, .int pp), (2, .int 1), (3, .int d)]) hx hb dX12_worthOf_43 hl (by decide) rfl (fun ls hl => ?_)
    have hlp_70 : ∀ (n : Nat) (v_57 : Int64) (v_58 : Int32) (g_59 : Nat → Int64) (H : Heap) (locs : List Loc) (ls : Array Slot), (2147483647 - v_58.toInt).toNat < n → (0 ≤ v_57.toInt ∧ v_57.toInt ≤ 0) → (0 ≤ v_58.toInt ∧ v_58.toInt ≤ 3) → va_P G vwCl [(a_c, .inl (cA.1 0, 1825, .inl g_c)), (a_there, .inl (cA.1 0, 10, .inl g_there)), (h0, .inr (12, [.int m_status, .int m_thrown, .long m_above, .long m_under, .ref a_traySort, .ref a_trayMany, .ref a_numbers, .ref a_tape, .int m_taped, .int m_textEnd, .int m_faultKind, .int m_faultAt, .int m_bad, .int m_badAt, .int m_token, .int m_at, .int m_behind, .int m_number, .int m_letters, .long m_word, .ref a_c, .ref a_words, .int m_markMany, .ref a_there, .ref a_tried, .ref a_best, .ref a_found, .int m_thereMany, .int m_foundMany, .int m_orderHow, .int m_orderRing, .int m_orderMany, .int m_hasBest, .long m_bestTop, .long m_bestBy, .ref a_weights, .ref a_shared, .int m_random, .int m_truePlace, .int m_trueWay, .int m_seconds, .int m_done, .int m_feelings, .int m_tries, .int m_leftOver, .int m_playDoor, .int m_playRing, .int m_isOpen, .int m_isOver, .int m_wasTried, .int m_hasPlayed, .ref a_feltNow, .ref a_last, .ref a_kept, .int m_hasSeconds, .int m_hasTurned, .int m_hasRound, .ref a_hasFeels, .ref a_isOn, .int m_firstAct, .long m_meanTop, .long m_meanBy, .ref a_order, .int m_rowMany, .int m_newSteps])), (a_weights, .inl (cA.1 1, 100, .inr (.inl g_59)))] H → va_D A [(a_c, .inl (cA.1 0, 1825, .inl g_c)), (a_there, .inl (cA.1 0, 10, .inl g_there)), (h0, .inr (12, [.int m_status, .int m_thrown, .long m_above, .long m_under, .ref a_traySort, .ref a_trayMany, .ref a_numbers, .ref a_tape, .int m_taped, .int m_textEnd, .int m_faultKind, .int m_faultAt, .int m_bad, .int m_badAt, .int m_token, .int m_at, .int m_behind, .int m_number, .int m_letters, .long m_word, .ref a_c, .ref a_words, .int m_markMany, .ref a_there, .ref a_tried, .ref a_best, .ref a_found, .int m_thereMany, .int m_foundMany, .int m_orderHow, .int m_orderRing, .int m_orderMany, .int m_hasBest, .long m_bestTop, .long m_bestBy, .ref a_weights, .ref a_shared, .int m_random, .int m_truePlace, .int m_trueWay, .int m_seconds, .int m_done, .int m_feelings, .int m_tries, .int m_leftOver, .int m_playDoor, .int m_playRing, .int m_isOpen, .int m_isOver, .int m_wasTried, .int m_hasPlayed, .ref a_feltNow, .ref a_last, .ref a_kept, .int m_hasSeconds, .int m_hasTurned, .int m_hasRound, .ref a_hasFeels, .ref a_isOn, .int m_firstAct, .long m_meanTop, .long m_meanBy, .ref a_order, .int m_rowMany, .int m_newSteps])), (a_weights, .inl (cA.1 1, 100, .inr (.inl g_59)))] → va_S A s.heap H locs → lv_has ls 10 [(0, .ref h0), (1, .int pp), (2, .int 1), (3, .int d), (4, .long r_2), (6, .int 0), (7, .long v_57), (9, .int v_58)] → W p l e ({ frames := 3, cells := 0, slots := 0, locals := 76 }) s m args below meth c H locs 0 0 Q (F0 m 45 ls []) := by
      intro n
      induction n with
      | zero =>
        intro v_57 v_58 g_59 H locs ls hmu_hlp_70 hr_v_57 hr_v_58 hP hD hS hl
        exact absurd hmu_hlp_70 (Nat.not_lt_zero _)
      | succ n ih_71 =>
        intro v_57 v_58 g_59 H locs ls hmu_hlp_70 hr_v_57 hr_v_58 hP hD hS hl
        refine lv_iload hx hb dX12_worthOf_45 (lv_at hl 7 rfl) ?_
        refine lv_aload_n hx hb dX12_worthOf_47 rfl (lv_at hl 0 rfl) ?_
        refine va_get (D := G) (ci := 12) (v := .ref a_c) (C := RX12) (T := TX12) (N := 65) hx hb hts inT12 hown hK hP 2 rfl rfl 20 (by decide) (hts _ tw_1905) (fun _ h9 => h9) rfl dX12_worthOf_48 ?_
        refine lv_iconst (v := 0) hx hb dX12_worthOf_51 (by decide) ?_
        refine va_iald hx hb hK hP 0 0 rfl rfl (z_in (i := 0) (n := 1825) (by decide +kernel) (by decide +kernel)) dX12_worthOf_52 ?_
        refine lv_topi (fun x_72 he_x_72 => ?_)
        have hr_x_72 := z_ctk hC_g_c he_x_72 (k := 0) (lo := 0) (hi := 3) (by decide +kernel) (by decide +kernel) (by decide +kernel)
        refine lv_icmp_ge (tgt := 94) hx hb dX12_worthOf_53 (by decide) (fun c_73 => ?_) (fun c_73 => ?_)
        · have b_74 := z_fgeT c_73
          refine lv_iload_n hx hb dX12_worthOf_94 rfl (lv_at hl 1 rfl) ?_
          refine lv_if_ne (tgt := 104) hx hb dX12_worthOf_95 (by decide) (fun c_75 => ?_) (fun c_75 => ?_)
          · have b_76 := z_fneT c_75
            refine lv_lload hx hb dX12_worthOf_104 (lv_at hl 4 rfl) ?_
            have hL_r_2 := z_fulll r_2
            exact hret _ _ _ _ _ _ (g_59, m_firstAct) [2, 0, 1, 3] hP hD hS rfl (by decide) dX12_worthOf_106 trivial
          · have b_77 := z_feqF c_75
            refine lv_aload_n hx hb dX12_worthOf_98 rfl (lv_at hl 0 rfl) ?_
            refine lv_iload hx hb dX12_worthOf_99 (lv_at hl 5 rfl) ?_
            refine va_put (D := G) (ci := 12) (v := .int 0) (ty := .int) (C := RX12) (T := TX12) (N := 65) hx hb hts inT12 tyX12 tyX12_ok nmX12 hown hK hP hD hS 2 rfl rfl 59 (by decide) (hts _ tw_1942) (fun _ h9 => h9) rfl (tyX12_ok 59 (by decide)) rfl rfl (Nat.le_of_ble_eq_true rfl) dX12_worthOf_101 (fun H locs hP hD hS => ?_)
            refine lv_lload hx hb dX12_worthOf_104 (lv_at hl 4 rfl) ?_
            have hL_r_2 := z_fulll r_2
            exact hret _ _ _ _ _ _ (g_59, 0) [2, 0, 1, 3] hP hD hS rfl (by decide) dX12_worthOf_106 trivial
        · have b_78 := z_fltF c_73
          refine lv_aload_n hx hb dX12_worthOf_56 rfl (lv_at hl 0 rfl) ?_
          refine lv_iload_n hx hb dX12_worthOf_57 rfl (lv_at hl 1 rfl) ?_
          refine lv_iload_n hx hb dX12_worthOf_58 rfl (lv_at hl 2 rfl) ?_
          refine lv_iload_n hx hb dX12_worthOf_59 rfl (lv_at hl 3 rfl) ?_
          refine lv_iload hx hb dX12_worthOf_60 (lv_at hl 7 rfl) ?_
          refine z_callVl (As := [.int pp, .int 1, .int d, .int v_58]) (rest := []) (wr := []) ⟨hx, hb, hml, hown, hts⟩ hK hE hT hP hD hS hA (r_feltWorth_1 l G cA h0 m_status m_thrown m_above m_under a_traySort a_trayMany a_numbers a_tape m_taped m_textEnd m_faultKind m_faultAt m_bad m_badAt m_token m_at m_behind m_number m_letters m_word a_c a_words m_markMany a_there a_tried a_best a_found m_thereMany m_foundMany m_orderHow m_orderRing m_orderMany m_hasBest m_bestTop m_bestBy a_weights a_shared m_random m_truePlace m_trueWay m_seconds m_done m_feelings m_tries m_leftOver m_playDoor m_playRing m_isOpen m_isOver m_wasTried m_hasPlayed a_feltNow a_last a_kept m_hasSeconds m_hasTurned m_hasRound a_hasFeels a_isOn m_firstAct m_meanTop m_meanBy a_order m_rowMany m_newSteps g_c g_there g_59 pp d v_58 hr_pp hr_d (by omega) hr_m_thereMany hC_g_c hC_g_there) lk_RX12_369 ⟨rfl, rfl⟩ ⟨Nat.le_of_ble_eq_true rfl, Nat.le_of_ble_eq_true rfl⟩ 12 rfl rfl rfl [2, 0, 1, 3] [] rfl rfl (by decide) rfl hl.1 rfl (lv_room (Nat.le_of_ble_eq_true rfl)) dX12_worthOf_62 ⟨Nat.le_of_ble_eq_true rfl, Nat.le_of_ble_eq_true rfl⟩ (fun r_80 u_81 H locs hw hP hD hS => ?_)
          obtain ⟨n_79, rfl⟩ : ∃ z, z = u_81 := ⟨_, rfl⟩
          have hr_r_80 := hw
          refine lv_lstore (lv' := [(7, .long r_80), (0, .ref h0), (1, .int pp), (2, .int 1), (3, .int d), (4, .long r_2), (6, .int 0), (9, .int v_58)]) hx hb dX12_worthOf_65 hl (by decide) rfl (fun ls hl => ?_)
          refine lv_lload hx hb dX12_worthOf_67 (lv_at hl 0 rfl) ?_
          refine lv_lload hx hb dX12_worthOf_69 (lv_at hl 5 rfl) ?_
          refine W.lcmp hx hb dX12_worthOf_71 ?_
          refine lv_if_gt (tgt := 78) hx hb dX12_worthOf_72 (by decide) (fun h9 => (z_no (by have h8 := z_fgtTl h9; omega))) (fun c_82 => ?_)
          have b_83 := z_fleFl c_82
          refine lv_goto (tgt := 88) hx hb dX12_worthOf_75 (by decide) ?_
          obtain ⟨x_84, he_x_84⟩ : ∃ z : Int32, z = v_58 + 1 := ⟨_, rfl⟩
          have hq_x_84 := z_addq he_x_84 (rfl : v_58.toInt = _) hk_1 (by omega) (by omega)
          refine lv_iinc (v := x_84) (lv' := [(9, .int x_84), (7, .long r_80), (0, .ref h0), (1, .int pp), (2, .int 1), (3, .int d), (4, .long r_2), (6, .int 0)]) hx hb dX12_worthOf_88 hl (k := 7) rfl ((z_ofi (by decide +kernel)).trans he_x_84.symm) (by decide) rfl (fun ls hl => ?_)
          refine lv_goto (tgt := 45) hx hb dX12_worthOf_91 (by decide) ?_
          have hP := hP.sub (ws' := [(a_c, .inl (cA.1 0, 1825, .inl g_c)), (a_there, .inl (cA.1 0, 10, .inl g_there)), (h0, .inr (12, [.int m_status, .int m_thrown, .long m_above, .long m_under, .ref a_traySort, .ref a_trayMany, .ref a_numbers, .ref a_tape, .int m_taped, .int m_textEnd, .int m_faultKind, .int m_faultAt, .int m_bad, .int m_badAt, .int m_token, .int m_at, .int m_behind, .int m_number, .int m_letters, .long m_word, .ref a_c, .ref a_words, .int m_markMany, .ref a_there, .ref a_tried, .ref a_best, .ref a_found, .int m_thereMany, .int m_foundMany, .int m_orderHow, .int m_orderRing, .int m_orderMany, .int m_hasBest, .long m_bestTop, .long m_bestBy, .ref a_weights, .ref a_shared, .int m_random, .int m_truePlace, .int m_trueWay, .int m_seconds, .int m_done, .int m_feelings, .int m_tries, .int m_leftOver, .int m_playDoor, .int m_playRing, .int m_isOpen, .int m_isOver, .int m_wasTried, .int m_hasPlayed, .ref a_feltNow, .ref a_last, .ref a_kept, .int m_hasSeconds, .int m_hasTurned, .int m_hasRound, .ref a_hasFeels, .ref a_isOn, .int m_firstAct, .long m_meanTop, .long m_meanBy, .ref a_order, .int m_rowMany, .int m_newSteps])), (a_weights, .inl (cA.1 1, 100, .inr (.inl n_79)))]) [1, 2, 0, 3] rfl
          have hD := hD.sub (ws' := [(a_c, .inl (cA.1 0, 1825, .inl g_c)), (a_there, .inl (cA.1 0, 10, .inl g_there)), (h0, .inr (12, [.int m_status, .int m_thrown, .long m_above, .long m_under, .ref a_traySort, .ref a_trayMany, .ref a_numbers, .ref a_tape, .int m_taped, .int m_textEnd, .int m_faultKind, .int m_faultAt, .int m_bad, .int m_badAt, .int m_token, .int m_at, .int m_behind, .int m_number, .int m_letters, .long m_word, .ref a_c, .ref a_words, .int m_markMany, .ref a_there, .ref a_tried, .ref a_best, .ref a_found, .int m_thereMany, .int m_foundMany, .int m_orderHow, .int m_orderRing, .int m_orderMany, .int m_hasBest, .long m_bestTop, .long m_bestBy, .ref a_weights, .ref a_shared, .int m_random, .int m_truePlace, .int m_trueWay, .int m_seconds, .int m_done, .int m_feelings, .int m_tries, .int m_leftOver, .int m_playDoor, .int m_playRing, .int m_isOpen, .int m_isOver, .int m_wasTried, .int m_hasPlayed, .ref a_feltNow, .ref a_last, .ref a_kept, .int m_hasSeconds, .int m_hasTurned, .int m_hasRound, .ref a_hasFeels, .ref a_isOn, .int m_firstAct, .long m_meanTop, .long m_meanBy, .ref a_order, .int m_rowMany, .int m_newSteps])), (a_weights, .inl (cA.1 1, 100, .inr (.inl n_79)))]) [1, 2, 0, 3] (by decide) rfl
          exact ih_71 r_80 x_84 n_79 H locs ls (by omega) hr_r_80 (by omega) hP hD hS (lv_sub hl [2, 3, 4, 5, 6, 7, 1, 0] rfl)
    exact hlp_70 _ r_5 0 n_4 _ _ _ (Nat.lt_succ_self _) hr_r_5 (by decide +kernel) hP hD hS (lv_sub hl [4, 5, 6, 7, 3, 2, 1, 0] rfl)
  · have b_85 := z_fgtFl c_7
    refine lv_lload hx hb dX12_worthOf_35 (lv_at hl 0 rfl) ?_
    refine lv_lstore (lv' := [(4, .long r_5), (7, .long r_5), (6, .int 0), (0, .ref h0), (1, .int pp), (2, .int 1), (3, .int d)]) hx hb dX12_worthOf_37 hl (by decide) rfl (fun ls hl => ?_)
    refine lv_iconst (v := 1) hx hb dX12_worthOf_39 (by decide) ?_
    refine lv_istore (lv' := [(6, .int 1), (4, .long r_5), (7, .long r_5), (0, .ref h0), (1, .int pp), (2, .int 1), (3, .int d)]) hx hb dX12_worthOf_40 hl (by decide) rfl (fun ls hl => ?_)
    refine lv_iconst (v := 0) hx hb dX12_worthOf_42 (by decide) ?_
    refine lv_istore (lv' := [(9, .int 0), (6, .int 1), (4, .long r_5), (7, .long r_5), (0, .ref h0), (1, .int pp), (2, .int 1), (3, .int d)]) hx hb dX12_worthOf_43 hl (by decide) rfl (fun ls hl => ?_)
    have hlp_147 : ∀ (n : Nat) (v_134 : Int64) (v_135 : Int32) (g_136 : Nat → Int64) (H : Heap) (locs : List Loc) (ls : Array Slot), (2147483647 - v_135.toInt).toNat < n → (0 ≤ v_134.toInt ∧ v_134.toInt ≤ 0) → (0 ≤ v_135.toInt ∧ v_135.toInt ≤ 3) → va_P G vwCl [(a_c, .inl (cA.1 0, 1825, .inl g_c)), (a_there, .inl (cA.1 0, 10, .inl g_there)), (h0, .inr (12, [.int m_status, .int m_thrown, .long m_above, .long m_under, .ref a_traySort, .ref a_trayMany, .ref a_numbers, .ref a_tape, .int m_taped, .int m_textEnd, .int m_faultKind, .int m_faultAt, .int m_bad, .int m_badAt, .int m_token, .int m_at, .int m_behind, .int m_number, .int m_letters, .long m_word, .ref a_c, .ref a_words, .int m_markMany, .ref a_there, .ref a_tried, .ref a_best, .ref a_found, .int m_thereMany, .int m_foundMany, .int m_orderHow, .int m_orderRing, .int m_orderMany, .int m_hasBest, .long m_bestTop, .long m_bestBy, .ref a_weights, .ref a_shared, .int m_random, .int m_truePlace, .int m_trueWay, .int m_seconds, .int m_done, .int m_feelings, .int m_tries, .int m_leftOver, .int m_playDoor, .int m_playRing, .int m_isOpen, .int m_isOver, .int m_wasTried, .int m_hasPlayed, .ref a_feltNow, .ref a_last, .ref a_kept, .int m_hasSeconds, .int m_hasTurned, .int m_hasRound, .ref a_hasFeels, .ref a_isOn, .int m_firstAct, .long m_meanTop, .long m_meanBy, .ref a_order, .int m_rowMany, .int m_newSteps])), (a_weights, .inl (cA.1 1, 100, .inr (.inl g_136)))] H → va_D A [(a_c, .inl (cA.1 0, 1825, .inl g_c)), (a_there, .inl (cA.1 0, 10, .inl g_there)), (h0, .inr (12, [.int m_status, .int m_thrown, .long m_above, .long m_under, .ref a_traySort, .ref a_trayMany, .ref a_numbers, .ref a_tape, .int m_taped, .int m_textEnd, .int m_faultKind, .int m_faultAt, .int m_bad, .int m_badAt, .int m_token, .int m_at, .int m_behind, .int m_number, .int m_letters, .long m_word, .ref a_c, .ref a_words, .int m_markMany, .ref a_there, .ref a_tried, .ref a_best, .ref a_found, .int m_thereMany, .int m_foundMany, .int m_orderHow, .int m_orderRing, .int m_orderMany, .int m_hasBest, .long m_bestTop, .long m_bestBy, .ref a_weights, .ref a_shared, .int m_random, .int m_truePlace, .int m_trueWay, .int m_seconds, .int m_done, .int m_feelings, .int m_tries, .int m_leftOver, .int m_playDoor, .int m_playRing, .int m_isOpen, .int m_isOver, .int m_wasTried, .int m_hasPlayed, .ref a_feltNow, .ref a_last, .ref a_kept, .int m_hasSeconds, .int m_hasTurned, .int m_hasRound, .ref a_hasFeels, .ref a_isOn, .int m_firstAct, .long m_meanTop, .long m_meanBy, .ref a_order, .int m_rowMany, .int m_newSteps])), (a_weights, .inl (cA.1 1, 100, .inr (.inl g_136)))] → va_S A s.heap H locs → lv_has ls 10 [(0, .ref h0), (1, .int pp), (2, .int 1), (3, .int d), (4, .long r_5), (6, .int 1), (7, .long v_134), (9, .int v_135)] → W p l e ({ frames := 3, cells := 0, slots := 0, locals := 76 }) s m args below meth c H locs 0 0 Q (F0 m 45 ls []) := by
      intro n
      induction n with
      | zero =>
        intro v_134 v_135 g_136 H locs ls hmu_hlp_147 hr_v_134 hr_v_135 hP hD hS hl
        exact absurd hmu_hlp_147 (Nat.not_lt_zero _)
      | succ n ih_148 =>
        intro v_134 v_135 g_136 H locs ls hmu_hlp_147 hr_v_134 hr_v_135 hP hD hS hl
        refine lv_iload hx hb dX12_worthOf_45 (lv_at hl 7 rfl) ?_
        refine lv_aload_n hx hb dX12_worthOf_47 rfl (lv_at hl 0 rfl) ?_
        refine va_get (D := G) (ci := 12) (v := .ref a_c) (C := RX12) (T := TX12) (N := 65) hx hb hts inT12 hown hK hP 2 rfl rfl 20 (by decide) (hts _ tw_1905) (fun _ h9 => h9) rfl dX12_worthOf_48 ?_
        refine lv_iconst (v := 0) hx hb dX12_worthOf_51 (by decide) ?_
        refine va_iald hx hb hK hP 0 0 rfl rfl (z_in (i := 0) (n := 1825) (by decide +kernel) (by decide +kernel)) dX12_worthOf_52 ?_
        refine lv_topi (fun x_149 he_x_149 => ?_)
        have hr_x_149 := z_ctk hC_g_c he_x_149 (k := 0) (lo := 0) (hi := 3) (by decide +kernel) (by decide +kernel) (by decide +kernel)
        refine lv_icmp_ge (tgt := 94) hx hb dX12_worthOf_53 (by decide) (fun c_150 => ?_) (fun c_150 => ?_)
        · have b_151 := z_fgeT c_150
          refine lv_iload_n hx hb dX12_worthOf_94 rfl (lv_at hl 1 rfl) ?_
          refine lv_if_ne (tgt := 104) hx hb dX12_worthOf_95 (by decide) (fun c_152 => ?_) (fun c_152 => ?_)
          · have b_153 := z_fneT c_152
            refine lv_lload hx hb dX12_worthOf_104 (lv_at hl 4 rfl) ?_
            exact hret _ _ _ _ _ _ (g_136, m_firstAct) [2, 0, 1, 3] hP hD hS rfl (by decide) dX12_worthOf_106 trivial
          · have b_154 := z_feqF c_152
            refine lv_aload_n hx hb dX12_worthOf_98 rfl (lv_at hl 0 rfl) ?_
            refine lv_iload hx hb dX12_worthOf_99 (lv_at hl 5 rfl) ?_
            refine va_put (D := G) (ci := 12) (v := .int 1) (ty := .int) (C := RX12) (T := TX12) (N := 65) hx hb hts inT12 tyX12 tyX12_ok nmX12 hown hK hP hD hS 2 rfl rfl 59 (by decide) (hts _ tw_1942) (fun _ h9 => h9) rfl (tyX12_ok 59 (by decide)) rfl rfl (Nat.le_of_ble_eq_true rfl) dX12_worthOf_101 (fun H locs hP hD hS => ?_)
            refine lv_lload hx hb dX12_worthOf_104 (lv_at hl 4 rfl) ?_
            exact hret _ _ _ _ _ _ (g_136, 1) [2, 0, 1, 3] hP hD hS rfl (by decide) dX12_worthOf_106 trivial
        · have b_155 := z_fltF c_150
          refine lv_aload_n hx hb dX12_worthOf_56 rfl (lv_at hl 0 rfl) ?_
          refine lv_iload_n hx hb dX12_worthOf_57 rfl (lv_at hl 1 rfl) ?_
          refine lv_iload_n hx hb dX12_worthOf_58 rfl (lv_at hl 2 rfl) ?_
          refine lv_iload_n hx hb dX12_worthOf_59 rfl (lv_at hl 3 rfl) ?_
          refine lv_iload hx hb dX12_worthOf_60 (lv_at hl 7 rfl) ?_
          refine z_callVl (As := [.int pp, .int 1, .int d, .int v_135]) (rest := []) (wr := []) ⟨hx, hb, hml, hown, hts⟩ hK hE hT hP hD hS hA (r_feltWorth_1 l G cA h0 m_status m_thrown m_above m_under a_traySort a_trayMany a_numbers a_tape m_taped m_textEnd m_faultKind m_faultAt m_bad m_badAt m_token m_at m_behind m_number m_letters m_word a_c a_words m_markMany a_there a_tried a_best a_found m_thereMany m_foundMany m_orderHow m_orderRing m_orderMany m_hasBest m_bestTop m_bestBy a_weights a_shared m_random m_truePlace m_trueWay m_seconds m_done m_feelings m_tries m_leftOver m_playDoor m_playRing m_isOpen m_isOver m_wasTried m_hasPlayed a_feltNow a_last a_kept m_hasSeconds m_hasTurned m_hasRound a_hasFeels a_isOn m_firstAct m_meanTop m_meanBy a_order m_rowMany m_newSteps g_c g_there g_136 pp d v_135 hr_pp hr_d (by omega) hr_m_thereMany hC_g_c hC_g_there) lk_RX12_369 ⟨rfl, rfl⟩ ⟨Nat.le_of_ble_eq_true rfl, Nat.le_of_ble_eq_true rfl⟩ 12 rfl rfl rfl [2, 0, 1, 3] [] rfl rfl (by decide) rfl hl.1 rfl (lv_room (Nat.le_of_ble_eq_true rfl)) dX12_worthOf_62 ⟨Nat.le_of_ble_eq_true rfl, Nat.le_of_ble_eq_true rfl⟩ (fun r_157 u_158 H locs hw hP hD hS => ?_)
          obtain ⟨n_156, rfl⟩ : ∃ z, z = u_158 := ⟨_, rfl⟩
          have hr_r_157 := hw
          refine lv_lstore (lv' := [(7, .long r_157), (0, .ref h0), (1, .int pp), (2, .int 1), (3, .int d), (4, .long r_5), (6, .int 1), (9, .int v_135)]) hx hb dX12_worthOf_65 hl (by decide) rfl (fun ls hl => ?_)
          refine lv_lload hx hb dX12_worthOf_67 (lv_at hl 0 rfl) ?_
          refine lv_lload hx hb dX12_worthOf_69 (lv_at hl 5 rfl) ?_
          refine W.lcmp hx hb dX12_worthOf_71 ?_
          refine lv_if_gt (tgt := 78) hx hb dX12_worthOf_72 (by decide) (fun h9 => (z_no (by have h8 := z_fgtTl h9; omega))) (fun c_159 => ?_)
          have b_160 := z_fleFl c_159
          refine lv_goto (tgt := 88) hx hb dX12_worthOf_75 (by decide) ?_
          obtain ⟨x_161, he_x_161⟩ : ∃ z : Int32, z = v_135 + 1 := ⟨_, rfl⟩
          have hq_x_161 := z_addq he_x_161 (rfl : v_135.toInt = _) hk_1 (by omega) (by omega)
          refine lv_iinc (v := x_161) (lv' := [(9, .int x_161), (7, .long r_157), (0, .ref h0), (1, .int pp), (2, .int 1), (3, .int d), (4, .long r_5), (6, .int 1)]) hx hb dX12_worthOf_88 hl (k := 7) rfl ((z_ofi (by decide +kernel)).trans he_x_161.symm) (by decide) rfl (fun ls hl => ?_)
          refine lv_goto (tgt := 45) hx hb dX12_worthOf_91 (by decide) ?_
          have hP := hP.sub (ws' := [(a_c, .inl (cA.1 0, 1825, .inl g_c)), (a_there, .inl (cA.1 0, 10, .inl g_there)), (h0, .inr (12, [.int m_status, .int m_thrown, .long m_above, .long m_under, .ref a_traySort, .ref a_trayMany, .ref a_numbers, .ref a_tape, .int m_taped, .int m_textEnd, .int m_faultKind, .int m_faultAt, .int m_bad, .int m_badAt, .int m_token, .int m_at, .int m_behind, .int m_number, .int m_letters, .long m_word, .ref a_c, .ref a_words, .int m_markMany, .ref a_there, .ref a_tried, .ref a_best, .ref a_found, .int m_thereMany, .int m_foundMany, .int m_orderHow, .int m_orderRing, .int m_orderMany, .int m_hasBest, .long m_bestTop, .long m_bestBy, .ref a_weights, .ref a_shared, .int m_random, .int m_truePlace, .int m_trueWay, .int m_seconds, .int m_done, .int m_feelings, .int m_tries, .int m_leftOver, .int m_playDoor, .int m_playRing, .int m_isOpen, .int m_isOver, .int m_wasTried, .int m_hasPlayed, .ref a_feltNow, .ref a_last, .ref a_kept, .int m_hasSeconds, .int m_hasTurned, .int m_hasRound, .ref a_hasFeels, .ref a_isOn, .int m_firstAct, .long m_meanTop, .long m_meanBy, .ref a_order, .int m_rowMany, .int m_newSteps])), (a_weights, .inl (cA.1 1, 100, .inr (.inl n_156)))]) [1, 2, 0, 3] rfl
          have hD := hD.sub (ws' := [(a_c, .inl (cA.1 0, 1825, .inl g_c)), (a_there, .inl (cA.1 0, 10, .inl g_there)), (h0, .inr (12, [.int m_status, .int m_thrown, .long m_above, .long m_under, .ref a_traySort, .ref a_trayMany, .ref a_numbers, .ref a_tape, .int m_taped, .int m_textEnd, .int m_faultKind, .int m_faultAt, .int m_bad, .int m_badAt, .int m_token, .int m_at, .int m_behind, .int m_number, .int m_letters, .long m_word, .ref a_c, .ref a_words, .int m_markMany, .ref a_there, .ref a_tried, .ref a_best, .ref a_found, .int m_thereMany, .int m_foundMany, .int m_orderHow, .int m_orderRing, .int m_orderMany, .int m_hasBest, .long m_bestTop, .long m_bestBy, .ref a_weights, .ref a_shared, .int m_random, .int m_truePlace, .int m_trueWay, .int m_seconds, .int m_done, .int m_feelings, .int m_tries, .int m_leftOver, .int m_playDoor, .int m_playRing, .int m_isOpen, .int m_isOver, .int m_wasTried, .int m_hasPlayed, .ref a_feltNow, .ref a_last, .ref a_kept, .int m_hasSeconds, .int m_hasTurned, .int m_hasRound, .ref a_hasFeels, .ref a_isOn, .int m_firstAct, .long m_meanTop, .long m_meanBy, .ref a_order, .int m_rowMany, .int m_newSteps])), (a_weights, .inl (cA.1 1, 100, .inr (.inl n_156)))]) [1, 2, 0, 3] (by decide) rfl
          exact ih_148 r_157 x_161 n_156 H locs ls (by omega) hr_r_157 (by omega) hP hD hS (lv_sub hl [2, 3, 4, 5, 6, 7, 1, 0] rfl)
    exact hlp_147 _ r_5 0 n_4 _ _ _ (Nat.lt_succ_self _) hr_r_5 (by decide +kernel) hP hD hS (lv_sub hl [4, 5, 6, 7, 2, 1, 3, 0] rfl)
set_option maxHeartbeats 4000000 in
set_option maxRecDepth 100000 in
theorem r_triedWorth_2 (l : Launch) (G : va_G) (cA : zCA) (h0 : Nat) (m_status : Int32) (m_thrown : Int32) (m_above : Int64) (m_under : Int64) (a_traySort : Nat) (a_trayMany : Nat) (a_numbers : Nat) (a_tape : Nat) (m_taped : Int32) (m_textEnd : Int32) (m_faultKind : Int32) (m_faultAt : Int32) (m_bad : Int32) (m_badAt : Int32) (m_token : Int32) (m_at : Int32) (m_behind : Int32) (m_number : Int32) (m_letters : Int32) (m_word : Int64) (a_c : Nat) (a_words : Nat) (m_markMany : Int32) (a_there : Nat) (a_tried : Nat) (a_best : Nat) (a_found : Nat) (m_thereMany : Int32) (m_foundMany : Int32) (m_orderHow : Int32) (m_orderRing : Int32) (m_orderMany : Int32) (m_hasBest : Int32) (m_bestTop : Int64) (m_bestBy : Int64) (a_weights : Nat) (a_shared : Nat) (m_random : Int32) (m_truePlace : Int32) (m_trueWay : Int32) (m_seconds : Int32) (m_done : Int32) (m_feelings : Int32) (m_tries : Int32) (m_leftOver : Int32) (m_playDoor : Int32) (m_playRing : Int32) (m_isOpen : Int32) (m_isOver : Int32) (m_wasTried : Int32) (m_hasPlayed : Int32) (a_feltNow : Nat) (a_last : Nat) (a_kept : Nat) (m_hasSeconds : Int32) (m_hasTurned : Int32) (m_hasRound : Int32) (a_hasFeels : Nat) (a_isOn : Nat) (m_firstAct : Int32) (m_meanTop : Int64) (m_meanBy : Int64) (a_order : Nat) (m_rowMany : Int32) (m_newSteps : Int32) (g_c : Nat → Int32) (g_there : Nat → Int32) (g_weights : Nat → Int64) (pp : Int32) (d : Int32) (hr_pp : 0 ≤ pp.toInt ∧ pp.toInt ≤ 2) (hr_d : 0 ≤ d.toInt ∧ d.toInt ≤ 4) (hr_m_thereMany : 0 ≤ m_thereMany.toInt ∧ m_thereMany.toInt ≤ 10) (hC_g_c : zC g_c) (hC_g_there : zRg 10 0 9 g_there) : zCl l yX12_triedWorth cX12_triedWorth 8 (some .long) ({ frames := 4, cells := 0, slots := 0, locals := 105 }) G cA [.ref h0, .int pp, .int 2, .int d] [(h0, .inr (12, [.int m_status, .int m_thrown, .long m_above, .long m_under, .ref a_traySort, .ref a_trayMany, .ref a_numbers, .ref a_tape, .int m_taped, .int m_textEnd, .int m_faultKind, .int m_faultAt, .int m_bad, .int m_badAt, .int m_token, .int m_at, .int m_behind, .int m_number, .int m_letters, .long m_word, .ref a_c, .ref a_words, .int m_markMany, .ref a_there, .ref a_tried, .ref a_best, .ref a_found, .int m_thereMany, .int m_foundMany, .int m_orderHow, .int m_orderRing, .int m_orderMany, .int m_hasBest, .long m_bestTop, .long m_bestBy, .ref a_weights, .ref a_shared, .int m_random, .int m_truePlace, .int m_trueWay, .int m_seconds, .int m_done, .int m_feelings, .int m_tries, .int m_leftOver, .int m_playDoor, .int m_playRing, .int m_isOpen, .int m_isOver, .int m_wasTried, .int m_hasPlayed, .ref a_feltNow, .ref a_last, .ref a_kept, .int m_hasSeconds, .int m_hasTurned, .int m_hasRound, .ref a_hasFeels, .ref a_isOn, .int m_firstAct, .long m_meanTop, .long m_meanBy, .ref a_order, .int m_rowMany, .int m_newSteps])), (a_c, .inl (cA.1 0, 1825, .inl g_c)), (a_there, .inl (cA.1 0, 10, .inl g_there)), (a_weights, .inl (cA.1 1, 100, .inr (.inl g_weights)))] (S := Int32 × (Nat → Int64)) (fun (r : Int64) (u : Int32 × (Nat → Int64)) => True) (fun (u : Int32 × (Nat → Int64)) => [(h0, .inr (12, [.int m_status, .int m_thrown, .long m_above, .long m_under, .ref a_traySort, .ref a_trayMany, .ref a_numbers, .ref a_tape, .int m_taped, .int m_textEnd, .int m_faultKind, .int m_faultAt, .int m_bad, .int m_badAt, .int m_token, .int m_at, .int m_behind, .int m_number, .int m_letters, .long m_word, .ref a_c, .ref a_words, .int m_markMany, .ref a_there, .ref a_tried, .ref a_best, .ref a_found, .int m_thereMany, .int m_foundMany, .int m_orderHow, .int m_orderRing, .int m_orderMany, .int m_hasBest, .long m_bestTop, .long m_bestBy, .ref a_weights, .ref a_shared, .int m_random, .int m_truePlace, .int m_trueWay, .int m_seconds, .int m_done, .int m_feelings, .int m_tries, .int m_leftOver, .int m_playDoor, .int m_playRing, .int m_isOpen, .int m_isOver, .int m_wasTried, .int m_hasPlayed, .ref a_feltNow, .ref a_last, .ref a_kept, .int m_hasSeconds, .int m_hasTurned, .int m_hasRound, .ref a_hasFeels, .ref a_isOn, .int u.1, .long m_meanTop, .long m_meanBy, .ref a_order, .int m_rowMany, .int m_newSteps])), (a_c, .inl (cA.1 0, 1825, .inl g_c)), (a_there, .inl (cA.1 0, 10, .inl g_there)), (a_weights, .inl (cA.1 1, 100, .inr (.inl u.2)))]) 0 0 := by
  have hk_0 : (0 : Int32).toInt = 0 := by decide +kernel
  have hk_1 : (1 : Int32).toInt = 1 := by decide +kernel
  have hk_2 : (2 : Int32).toInt = 2 := by decide +kernel
  have hk_20 : (20 : Int32).toInt = 20 := by decide +kernel
  have hkl_0 : (0 : Int64).toInt = 0 := by decide +kernel
  refine z_start2l (own := RX12) (by decide) (Nat.le_of_ble_eq_true rfl) rfl ?_
  intro p e s m args below meth c A ls Q hx hb hml hts hown hK hE hT hP hD hS hA hl hret
  have hl : lv_has ls 8 [(0, .ref h0), (1, .int pp), (2, .int 2), (3, .int d)] := hl
  refine lv_lconst (v := 0) hx hb dX12_triedWorth_0 (by decide) ?_
  refine lv_lstore (lv' := [(4, .long 0), (0, .ref h0), (1, .int pp), (2, .int 2), (3, .int d)]) hx hb dX12_triedWorth_1 hl (by decide) rfl (fun ls hl => ?_)
  refine lv_iconst (v := 0) hx hb dX12_triedWorth_3 (by decide) ?_
  refine lv_istore (lv' := [(6, .int 0), (4, .long 0), (0, .ref h0), (1, .int pp), (2, .int 2), (3, .int d)]) hx hb dX12_triedWorth_4 hl (by decide) rfl (fun ls hl => ?_)
  have hlp_645 : ∀ (n : Nat) (v_614 : Int64) (v_615 : Int32) (g_616 : Nat → Int64) (H : Heap) (locs : List Loc) (ls : Array Slot), (2147483647 - v_615.toInt).toNat < n → (0 ≤ v_615.toInt ∧ v_615.toInt ≤ 20) → va_P G vwCl [(h0, .inr (12, [.int m_status, .int m_thrown, .long m_above, .long m_under, .ref a_traySort, .ref a_trayMany, .ref a_numbers, .ref a_tape, .int m_taped, .int m_textEnd, .int m_faultKind, .int m_faultAt, .int m_bad, .int m_badAt, .int m_token, .int m_at, .int m_behind, .int m_number, .int m_letters, .long m_word, .ref a_c, .ref a_words, .int m_markMany, .ref a_there, .ref a_tried, .ref a_best, .ref a_found, .int m_thereMany, .int m_foundMany, .int m_orderHow, .int m_orderRing, .int m_orderMany, .int m_hasBest, .long m_bestTop, .long m_bestBy, .ref a_weights, .ref a_shared, .int m_random, .int m_truePlace, .int m_trueWay, .int m_seconds, .int m_done, .int m_feelings, .int m_tries, .int m_leftOver, .int m_playDoor, .int m_playRing, .int m_isOpen, .int m_isOver, .int m_wasTried, .int m_hasPlayed, .ref a_feltNow, .ref a_last, .ref a_kept, .int m_hasSeconds, .int m_hasTurned, .int m_hasRound, .ref a_hasFeels, .ref a_isOn, .int m_firstAct, .long m_meanTop, .long m_meanBy, .ref a_order, .int m_rowMany, .int m_newSteps])), (a_c, .inl (cA.1 0, 1825, .inl g_c)), (a_there, .inl (cA.1 0, 10, .inl g_there)), (a_weights, .inl (cA.1 1, 100, .inr (.inl g_616)))] H → va_D A [(h0, .inr (12, [.int m_status, .int m_thrown, .long m_above, .long m_under, .ref a_traySort, .ref a_trayMany, .ref a_numbers, .ref a_tape, .int m_taped, .int m_textEnd, .int m_faultKind, .int m_faultAt, .int m_bad, .int m_badAt, .int m_token, .int m_at, .int m_behind, .int m_number, .int m_letters, .long m_word, .ref a_c, .ref a_words, .int m_markMany, .ref a_there, .ref a_tried, .ref a_best, .ref a_found, .int m_thereMany, .int m_foundMany, .int m_orderHow, .int m_orderRing, .int m_orderMany, .int m_hasBest, .long m_bestTop, .long m_bestBy, .ref a_weights, .ref a_shared, .int m_random, .int m_truePlace, .int m_trueWay, .int m_seconds, .int m_done, .int m_feelings, .int m_tries, .int m_leftOver, .int m_playDoor, .int m_playRing, .int m_isOpen, .int m_isOver, .int m_wasTried, .int m_hasPlayed, .ref a_feltNow, .ref a_last, .ref a_kept, .int m_hasSeconds, .int m_hasTurned, .int m_hasRound, .ref a_hasFeels, .ref a_isOn, .int m_firstAct, .long m_meanTop, .long m_meanBy, .ref a_order, .int m_rowMany, .int m_newSteps])), (a_c, .inl (cA.1 0, 1825, .inl g_c)), (a_there, .inl (cA.1 0, 10, .inl g_there)), (a_weights, .inl (cA.1 1, 100, .inr (.inl g_616)))] → va_S A s.heap H locs → lv_has ls 8 [(0, .ref h0), (1, .int pp), (2, .int 2), (3, .int d), (4, .long v_614), (6, .int v_615)] → W p l e ({ frames := 4, cells := 0, slots := 0, locals := 105 }) s m args below meth c H locs 0 0 Q (F0 m 6 ls []) := by
    intro n
    induction n with
    | zero =>
      intro v_614 v_615 g_616 H locs ls hmu_hlp_645 hr_v_615 hP hD hS hl
      exact absurd hmu_hlp_645 (Nat.not_lt_zero _)
    | succ n ih_646 =>
      intro v_614 v_615 g_616 H locs ls hmu_hlp_645 hr_v_615 hP hD hS hl
      refine lv_iload hx hb dX12_triedWorth_6 (lv_at hl 5 rfl) ?_
      refine lv_iconst (v := 2) hx hb dX12_triedWorth_8 (by decide) ?_
      refine lv_aload_n hx hb dX12_triedWorth_9 rfl (lv_at hl 0 rfl) ?_
      refine va_get (D := G) (ci := 12) (v := .int m_thereMany) (C := RX12) (T := TX12) (N := 65) hx hb hts inT12 hown hK hP 0 rfl rfl 27 (by decide) (hts _ tw_1912) (fun _ h9 => h9) rfl dX12_triedWorth_10 ?_
      refine lv_imul hx hb dX12_triedWorth_13 ?_
      refine lv_topi (fun x_647 he_x_647 => ?_)
      have hq_x_647 := z_mulq he_x_647 hk_2 (rfl : m_thereMany.toInt = _) (by omega) (by omega)
      refine lv_icmp_ge (tgt := 101) hx hb dX12_triedWorth_14 (by decide) (fun c_648 => ?_) (fun c_648 => ?_)
      · have b_649 := z_fgeT c_648
        refine lv_lload hx hb dX12_triedWorth_101 (lv_at hl 4 rfl) ?_
        refine lv_iload_n hx hb dX12_triedWorth_103 rfl (lv_at hl 2 rfl) ?_
        refine z_callSl (As := [.int 2]) (rest := [.long v_614]) (wr := [(h0, .inr (12, [.int m_status, .int m_thrown, .long m_above, .long m_under, .ref a_traySort, .ref a_trayMany, .ref a_numbers, .ref a_tape, .int m_taped, .int m_textEnd, .int m_faultKind, .int m_faultAt, .int m_bad, .int m_badAt, .int m_token, .int m_at, .int m_behind, .int m_number, .int m_letters, .long m_word, .ref a_c, .ref a_words, .int m_markMany, .ref a_there, .ref a_tried, .ref a_best, .ref a_found, .int m_thereMany, .int m_foundMany, .int m_orderHow, .int m_orderRing, .int m_orderMany, .int m_hasBest, .long m_bestTop, .long m_bestBy, .ref a_weights, .ref a_shared, .int m_random, .int m_truePlace, .int m_trueWay, .int m_seconds, .int m_done, .int m_feelings, .int m_tries, .int m_leftOver, .int m_playDoor, .int m_playRing, .int m_isOpen, .int m_isOver, .int m_wasTried, .int m_hasPlayed, .ref a_feltNow, .ref a_last, .ref a_kept, .int m_hasSeconds, .int m_hasTurned, .int m_hasRound, .ref a_hasFeels, .ref a_isOn, .int m_firstAct, .long m_meanTop, .long m_meanBy, .ref a_order, .int m_rowMany, .int m_newSteps])), (a_c, .inl (cA.1 0, 1825, .inl g_c)), (a_there, .inl (cA.1 0, 10, .inl g_there)), (a_weights, .inl (cA.1 1, 100, .inr (.inl g_616)))]) ⟨hx, hb, hml, hown, hts⟩ hK hE hT hP hD hS hA (r_power l G cA 2 (by decide +kernel)) lk_RX12_376 ⟨rfl, rfl⟩ ⟨Nat.le_of_ble_eq_true rfl, Nat.le_of_ble_eq_true rfl⟩ [] [0, 1, 2, 3] rfl rfl (by decide) rfl hl.1 rfl (lv_room (Nat.le_of_ble_eq_true rfl)) dX12_triedWorth_104 ⟨Nat.le_of_ble_eq_true rfl, Nat.le_of_ble_eq_true rfl⟩ (fun r_650 u_651 H locs hw hP hD hS => ?_)
        refine lv_lmul hx hb dX12_triedWorth_107 ?_
        have hL_v_614 := z_fulll v_614
        have hL_r_650 := z_fulll r_650
        refine lv_topl (fun x_652 he_x_652 => ?_)
        refine lv_ldc2 (v := 16) hx hb hown (hts _ tw_2470) dX12_triedWorth_108 ?_
        refine lv_aload_n hx hb dX12_triedWorth_111 rfl (lv_at hl 0 rfl) ?_
        refine lv_iload_n hx hb dX12_triedWorth_112 rfl (lv_at hl 1 rfl) ?_
        refine lv_iconst (v := 1) hx hb dX12_triedWorth_113 (by decide) ?_
        refine lv_iadd hx hb dX12_triedWorth_114 ?_
        refine lv_topi (fun x_653 he_x_653 => ?_)
        have hq_x_653 := z_addq he_x_653 (rfl : pp.toInt = _) hk_1 (by omega) (by omega)
        refine lv_iload_n hx hb dX12_triedWorth_115 rfl (lv_at hl 2 rfl) ?_
        refine lv_iconst (v := 1) hx hb dX12_triedWorth_116 (by decide) ?_
        refine lv_isub hx hb dX12_triedWorth_117 ?_
        refine z_topi (y := 1) (by decide +kernel) ?_
        refine lv_iload_n hx hb dX12_triedWorth_118 rfl (lv_at hl 3 rfl) ?_
        refine z_callVl (As := [.int x_653, .int 1, .int d]) (rest := [.long 16, .long x_652]) (wr := []) ⟨hx, hb, hml, hown, hts⟩ hK hE hT hP hD hS hA (r_worthOf_1 l G cA h0 m_status m_thrown m_above m_under a_traySort a_trayMany a_numbers a_tape m_taped m_textEnd m_faultKind m_faultAt m_bad m_badAt m_token m_at m_behind m_number m_letters m_word a_c a_words m_markMany a_there a_tried a_best a_found m_thereMany m_foundMany m_orderHow m_orderRing m_orderMany m_hasBest m_bestTop m_bestBy a_weights a_shared m_random m_truePlace m_trueWay m_seconds m_done m_feelings m_tries m_leftOver m_playDoor m_playRing m_isOpen m_isOver m_wasTried m_hasPlayed a_feltNow a_last a_kept m_hasSeconds m_hasTurned m_hasRound a_hasFeels a_isOn m_firstAct m_meanTop m_meanBy a_order m_rowMany m_newSteps g_c g_there g_616 x_653 d (by omega) hr_d hr_m_thereMany hC_g_c hC_g_there) lk_RX12_379 ⟨rfl, rfl⟩ ⟨Nat.le_of_ble_eq_true rfl, Nat.le_of_ble_eq_true rfl⟩ 12 rfl rfl rfl [0, 1, 2, 3] [] rfl rfl (by decide) rfl hl.1 rfl (lv_room (Nat.le_of_ble_eq_true rfl)) dX12_triedWorth_119 ⟨Nat.le_of_ble_eq_true rfl, Nat.le_of_ble_eq_true rfl⟩ (fun r_656 u_657 H locs hw hP hD hS => ?_)
        obtain ⟨n_654, n_655⟩ := u_657
        try dsimp only at hw
        refine lv_lmul hx hb dX12_triedWorth_122 ?_
        have hL_r_656 := z_fulll r_656
        refine lv_topl (fun x_658 he_x_658 => ?_)
        refine lv_ladd hx hb dX12_triedWorth_123 ?_
        have hL_x_652 := z_fulll x_652
        have hL_x_658 := z_fulll x_658
        refine lv_topl (fun x_659 he_x_659 => ?_)
        exact hret _ _ _ _ _ _ (n_655, n_654) [0, 1, 2, 3] hP hD hS rfl (by decide) dX12_triedWorth_124 trivial
      · have b_660 := z_fltF c_648
        refine lv_aload_n hx hb dX12_triedWorth_17 rfl (lv_at hl 0 rfl) ?_
        refine lv_aload_n hx hb dX12_triedWorth_18 rfl (lv_at hl 0 rfl) ?_
        refine va_get (D := G) (ci := 12) (v := .ref a_there) (C := RX12) (T := TX12) (N := 65) hx hb hts inT12 hown hK hP 0 rfl rfl 23 (by decide) (hts _ tw_1908) (fun _ h9 => h9) rfl dX12_triedWorth_19 ?_
        refine lv_iload hx hb dX12_triedWorth_22 (lv_at hl 5 rfl) ?_
        refine lv_iconst (v := 2) hx hb dX12_triedWorth_24 (by decide) ?_
        refine lv_idiv hx hb dX12_triedWorth_25 (by decide +kernel) ?_
        refine lv_topi (fun x_661 he_x_661 => ?_)
        have hq_x_661 := z_divq he_x_661 (rfl : v_615.toInt = _) hk_2 (by omega) (by decide)
        refine va_iald hx hb hK hP 2 0 rfl rfl (z_inN (by omega) (by omega)) dX12_triedWorth_26 ?_
        refine lv_topi (fun x_662 he_x_662 => ?_)
        have hr_x_662 := z_rg hC_g_there he_x_662 (by omega) (by omega)
        refine lv_iload_n hx hb dX12_triedWorth_27 rfl (lv_at hl 3 rfl) ?_
        refine z_callVi (As := [.int x_662, .int d]) (rest := []) (wr := [(a_there, .inl (cA.1 0, 10, .inl g_there)), (a_weights, .inl (cA.1 1, 100, .inr (.inl g_616)))]) ⟨hx, hb, hml, hown, hts⟩ hK hE hT hP hD hS hA (r_canOpen l G cA h0 m_status m_thrown m_above m_under a_traySort a_trayMany a_numbers a_tape m_taped m_textEnd m_faultKind m_faultAt m_bad m_badAt m_token m_at m_behind m_number m_letters m_word a_c a_words m_markMany a_there a_tried a_best a_found m_thereMany m_foundMany m_orderHow m_orderRing m_orderMany m_hasBest m_bestTop m_bestBy a_weights a_shared m_random m_truePlace m_trueWay m_seconds m_done m_feelings m_tries m_leftOver m_playDoor m_playRing m_isOpen m_isOver m_wasTried m_hasPlayed a_feltNow a_last a_kept m_hasSeconds m_hasTurned m_hasRound a_hasFeels a_isOn m_firstAct m_meanTop m_meanBy a_order m_rowMany m_newSteps g_c x_662 d hr_x_662 hr_d hC_g_c) lk_RX12_345 ⟨rfl, rfl⟩ ⟨Nat.le_of_ble_eq_true rfl, Nat.le_of_ble_eq_true rfl⟩ 12 rfl rfl rfl [0, 1] [2, 3] rfl rfl (by decide) rfl hl.1 rfl (lv_room (Nat.le_of_ble_eq_true rfl)) dX12_triedWorth_28 ⟨Nat.le_of_ble_eq_true rfl, Nat.le_of_ble_eq_true rfl⟩ (fun r_663 u_664 H locs hw hP hD hS => ?_)
        obtain ⟨he_r_663, hw⟩ := hw
        rcases hw with ⟨rfl, hf_665⟩ | ⟨rfl, hf_666⟩
        · skip
          refine lv_istore (lv' := [(7, .int 0), (0, .ref h0), (1, .int pp), (2, .int 2), (3, .int d), (4, .long v_614), (6, .int v_615)]) hx hb dX12_triedWorth_31 hl (by decide) rfl (fun ls hl => ?_)
          refine lv_lload hx hb dX12_triedWorth_33 (lv_at hl 5 rfl) ?_
          refine lv_iload hx hb dX12_triedWorth_35 (lv_at hl 0 rfl) ?_
          refine lv_if_eq (tgt := 55) hx hb dX12_triedWorth_37 (by decide) (fun _ => ?_) (fun h9 => absurd (by decide +kernel) h9)
          refine lv_lconst (v := 0) hx hb dX12_triedWorth_55 (by decide) ?_
          refine lv_ladd hx hb dX12_triedWorth_56 ?_
          have hL_v_614 := z_fulll v_614
          refine lv_topl (fun x_667 he_x_667 => ?_)
          have hq_x_667 := z_addql he_x_667 (rfl : v_614.toInt = _) hkl_0 (by omega) (by omega)
          refine lv_lstore (lv' := [(4, .long x_667), (7, .int 0), (0, .ref h0), (1, .int pp), (2, .int 2), (3, .int d), (6, .int v_615)]) hx hb dX12_triedWorth_57 hl (by decide) rfl (fun ls hl => ?_)
          refine lv_aload_n hx hb dX12_triedWorth_59 rfl (lv_at hl 2 rfl) ?_
          refine va_get (D := G) (ci := 12) (v := .ref a_weights) (C := RX12) (T := TX12) (N := 65) hx hb hts inT12 hown hK hP 2 rfl rfl 35 (by decide) (hts _ tw_1919) (fun _ h9 => h9) rfl dX12_triedWorth_60 ?_
          refine lv_bipush (v := 20) hx hb dX12_triedWorth_63 (by decide) ?_
          refine lv_iload_n hx hb dX12_triedWorth_65 rfl (lv_at hl 3 rfl) ?_
          refine lv_imul hx hb dX12_triedWorth_66 ?_
          refine lv_topi (fun x_668 he_x_668 => ?_)
          have hq_x_668 := z_mulq he_x_668 hk_20 (rfl : pp.toInt = _) (by omega) (by omega)
          refine lv_bipush (v := 20) hx hb dX12_triedWorth_67 (by decide) ?_
          refine lv_iadd hx hb dX12_triedWorth_69 ?_
          refine lv_topi (fun x_669 he_x_669 => ?_)
          have hq_x_669 := z_addq he_x_669 (rfl : x_668.toInt = _) hk_20 (by omega) (by omega)
          refine lv_iload hx hb dX12_triedWorth_70 (lv_at hl 6 rfl) ?_
          refine lv_iadd hx hb dX12_triedWorth_72 ?_
          refine lv_topi (fun x_670 he_x_670 => ?_)
          have hq_x_670 := z_addq he_x_670 (rfl : x_669.toInt = _) (rfl : v_615.toInt = _) (by omega) (by omega)
          refine lv_iload hx hb dX12_triedWorth_73 (lv_at hl 1 rfl) ?_
          refine lv_if_eq (tgt := 82) hx hb dX12_triedWorth_75 (by decide) (fun _ => ?_) (fun h9 => absurd (by decide +kernel) h9)
          refine lv_aload_n hx hb dX12_triedWorth_82 rfl (lv_at hl 2 rfl) ?_
          refine va_get (D := G) (ci := 12) (v := .ref a_weights) (C := RX12) (T := TX12) (N := 65) hx hb hts inT12 hown hK hP 2 rfl rfl 35 (by decide) (hts _ tw_1919) (fun _ h9 => h9) rfl dX12_triedWorth_83 ?_
          refine lv_bipush (v := 20) hx hb dX12_triedWorth_86 (by decide) ?_
          refine lv_iload_n hx hb dX12_triedWorth_88 rfl (lv_at hl 3 rfl) ?_
          refine lv_imul hx hb dX12_triedWorth_89 ?_
          refine lv_topi (fun x_671 he_x_671 => ?_)
          have hq_x_671 := z_mulq he_x_671 hk_20 (rfl : pp.toInt = _) (by omega) (by omega)
          refine lv_iload hx hb dX12_triedWorth_90 (lv_at hl 6 rfl) ?_
          refine lv_iadd hx hb dX12_triedWorth_92 ?_
          refine lv_topi (fun x_672 he_x_672 => ?_)
          have hq_x_672 := z_addq he_x_672 (rfl : x_671.toInt = _) (rfl : v_615.toInt = _) (by omega) (by omega)
          refine va_lald hx hb hK hP 1 1 rfl rfl (z_inN (by omega) (by omega)) dX12_triedWorth_93 ?_
          refine lv_topl (fun x_673 he_x_673 => ?_)
          refine z_last hx hb hK hP hD hS 1 1 rfl rfl (z_inN (by omega) (by omega)) dX12_triedWorth_94 (fun g_674 hg_g_674 H locs hP hD hS => ?_)
          obtain ⟨x_675, he_x_675⟩ : ∃ z : Int32, z = v_615 + 1 := ⟨_, rfl⟩
          have hq_x_675 := z_addq he_x_675 (rfl : v_615.toInt = _) hk_1 (by omega) (by omega)
          refine lv_iinc (v := x_675) (lv' := [(6, .int x_675), (4, .long x_667), (7, .int 0), (0, .ref h0), (1, .int pp), (2, .int 2), (3, .int d)]) hx hb dX12_triedWorth_95 hl (k := 6) rfl ((z_ofi (by decide +kernel)).trans he_x_675.symm) (by decide) rfl (fun ls hl => ?_)
          refine lv_goto (tgt := 6) hx hb dX12_triedWorth_98 (by decide) ?_
          have hP := hP.sub (ws' := [(h0, .inr (12, [.int m_status, .int m_thrown, .long m_above, .long m_under, .ref a_traySort, .ref a_trayMany, .ref a_numbers, .ref a_tape, .int m_taped, .int m_textEnd, .int m_faultKind, .int m_faultAt, .int m_bad, .int m_badAt, .int m_token, .int m_at, .int m_behind, .int m_number, .int m_letters, .long m_word, .ref a_c, .ref a_words, .int m_markMany, .ref a_there, .ref a_tried, .ref a_best, .ref a_found, .int m_thereMany, .int m_foundMany, .int m_orderHow, .int m_orderRing, .int m_orderMany, .int m_hasBest, .long m_bestTop, .long m_bestBy, .ref a_weights, .ref a_shared, .int m_random, .int m_truePlace, .int m_trueWay, .int m_seconds, .int m_done, .int m_feelings, .int m_tries, .int m_leftOver, .int m_playDoor, .int m_playRing, .int m_isOpen, .int m_isOver, .int m_wasTried, .int m_hasPlayed, .ref a_feltNow, .ref a_last, .ref a_kept, .int m_hasSeconds, .int m_hasTurned, .int m_hasRound, .ref a_hasFeels, .ref a_isOn, .int m_firstAct, .long m_meanTop, .long m_meanBy, .ref a_order, .int m_rowMany, .int m_newSteps])), (a_c, .inl (cA.1 0, 1825, .inl g_c)), (a_there, .inl (cA.1 0, 10, .inl g_there)), (a_weights, .inl (cA.1 1, 100, .inr (.inl g_674)))]) [2, 3, 0, 1] rfl
          have hD := hD.sub (ws' := [(h0, .inr (12, [.int m_status, .int m_thrown, .long m_above, .long m_under, .ref a_traySort, .ref a_trayMany, .ref a_numbers, .ref a_tape, .int m_taped, .int m_textEnd, .int m_faultKind, .int m_faultAt, .int m_bad, .int m_badAt, .int m_token, .int m_at, .int m_behind, .int m_number, .int m_letters, .long m_word, .ref a_c, .ref a_words, .int m_markMany, .ref a_there, .ref a_tried, .ref a_best, .ref a_found, .int m_thereMany, .int m_foundMany, .int m_orderHow, .int m_orderRing, .int m_orderMany, .int m_hasBest, .long m_bestTop, .long m_bestBy, .ref a_weights, .ref a_shared, .int m_random, .int m_truePlace, .int m_trueWay, .int m_seconds, .int m_done, .int m_feelings, .int m_tries, .int m_leftOver, .int m_playDoor, .int m_playRing, .int m_isOpen, .int m_isOver, .int m_wasTried, .int m_hasPlayed, .ref a_feltNow, .ref a_last, .ref a_kept, .int m_hasSeconds, .int m_hasTurned, .int m_hasRound, .ref a_hasFeels, .ref a_isOn, .int m_firstAct, .long m_meanTop, .long m_meanBy, .ref a_order, .int m_rowMany, .int m_newSteps])), (a_c, .inl (cA.1 0, 1825, .inl g_c)), (a_there, .inl (cA.1 0, 10, .inl g_there)), (a_weights, .inl (cA.1 1, 100, .inr (.inl g_674)))]) [2, 3, 0, 1] (by decide) rfl
          exact ih_646 x_667 x_675 g_674 H locs ls (by omega) (by omega) hP hD hS (lv_sub hl [3, 4, 5, 6, 1, 0] rfl)
        · skip
          refine lv_istore (lv' := [(7, .int 1), (0, .ref h0), (1, .int pp), (2, .int 2), (3, .int d), (4, .long v_614), (6, .int v_615)]) hx hb dX12_triedWorth_31 hl (by decide) rfl (fun ls hl => ?_)
          refine lv_lload hx hb dX12_triedWorth_33 (lv_at hl 5 rfl) ?_
          refine lv_iload hx hb dX12_triedWorth_35 (lv_at hl 0 rfl) ?_
          refine lv_if_eq (tgt := 55) hx hb dX12_triedWorth_37 (by decide) (fun h9 => absurd h9 (by decide +kernel)) (fun _ => ?_)
          refine lv_aload_n hx hb dX12_triedWorth_40 rfl (lv_at hl 1 rfl) ?_
          refine va_get (D := G) (ci := 12) (v := .ref a_weights) (C := RX12) (T := TX12) (N := 65) hx hb hts inT12 hown hK hP 2 rfl rfl 35 (by decide) (hts _ tw_1919) (fun _ h9 => h9) rfl dX12_triedWorth_41 ?_
          refine lv_bipush (v := 20) hx hb dX12_triedWorth_44 (by decide) ?_
          refine lv_iload_n hx hb dX12_triedWorth_46 rfl (lv_at hl 2 rfl) ?_
          refine lv_imul hx hb dX12_triedWorth_47 ?_
          refine lv_topi (fun x_676 he_x_676 => ?_)
          have hq_x_676 := z_mulq he_x_676 hk_20 (rfl : pp.toInt = _) (by omega) (by omega)
          refine lv_iload hx hb dX12_triedWorth_48 (lv_at hl 6 rfl) ?_
          refine lv_iadd hx hb dX12_triedWorth_50 ?_
          refine lv_topi (fun x_677 he_x_677 => ?_)
          have hq_x_677 := z_addq he_x_677 (rfl : x_676.toInt = _) (rfl : v_615.toInt = _) (by omega) (by omega)
          refine va_lald hx hb hK hP 1 1 rfl rfl (z_inN (by omega) (by omega)) dX12_triedWorth_51 ?_
          refine lv_topl (fun x_678 he_x_678 => ?_)
          refine lv_goto (tgt := 56) hx hb dX12_triedWorth_52 (by decide) ?_
          refine lv_ladd hx hb dX12_triedWorth_56 ?_
          have hL_v_614 := z_fulll v_614
          have hL_x_678 := z_fulll x_678
          refine lv_topl (fun x_679 he_x_679 => ?_)
          refine lv_lstore (lv' := [(4, .long x_679), (7, .int 1), (0, .ref h0), (1, .int pp), (2, .int 2), (3, .int d), (6, .int v_615)]) hx hb dX12_triedWorth_57 hl (by decide) rfl (fun ls hl => ?_)
          refine lv_aload_n hx hb dX12_triedWorth_59 rfl (lv_at hl 2 rfl) ?_
          refine va_get (D := G) (ci := 12) (v := .ref a_weights) (C := RX12) (T := TX12) (N := 65) hx hb hts inT12 hown hK hP 2 rfl rfl 35 (by decide) (hts _ tw_1919) (fun _ h9 => h9) rfl dX12_triedWorth_60 ?_
          refine lv_bipush (v := 20) hx hb dX12_triedWorth_63 (by decide) ?_
          refine lv_iload_n hx hb dX12_triedWorth_65 rfl (lv_at hl 3 rfl) ?_
          refine lv_imul hx hb dX12_triedWorth_66 ?_
          refine lv_topi (fun x_680 he_x_680 => ?_)
          have hq_x_680 := z_mulq he_x_680 hk_20 (rfl : pp.toInt = _) (by omega) (by omega)
          refine lv_bipush (v := 20) hx hb dX12_triedWorth_67 (by decide) ?_
          refine lv_iadd hx hb dX12_triedWorth_69 ?_
          refine lv_topi (fun x_681 he_x_681 => ?_)
          have hq_x_681 := z_addq he_x_681 (rfl : x_680.toInt = _) hk_20 (by omega) (by omega)
          refine lv_iload hx hb dX12_triedWorth_70 (lv_at hl 6 rfl) ?_
          refine lv_iadd hx hb dX12_triedWorth_72 ?_
          refine lv_topi (fun x_682 he_x_682 => ?_)
          have hq_x_682 := z_addq he_x_682 (rfl : x_681.toInt = _) (rfl : v_615.toInt = _) (by omega) (by omega)
          refine lv_iload hx hb dX12_triedWorth_73 (lv_at hl 1 rfl) ?_
          refine lv_if_eq (tgt := 82) hx hb dX12_triedWorth_75 (by decide) (fun h9 => absurd h9 (by decide +kernel)) (fun _ => ?_)
          refine lv_lconst (v := 0) hx hb dX12_triedWorth_78 (by decide) ?_
          refine lv_goto (tgt := 94) hx hb dX12_triedWorth_79 (by decide) ?_
          refine z_last hx hb hK hP hD hS 1 1 rfl rfl (z_inN (by omega) (by omega)) dX12_triedWorth_94 (fun g_683 hg_g_683 H locs hP hD hS => ?_)
          obtain ⟨x_684, he_x_684⟩ : ∃ z : Int32, z = v_615 + 1 := ⟨_, rfl⟩
          have hq_x_684 := z_addq he_x_684 (rfl : v_615.toInt = _) hk_1 (by omega) (by omega)
          refine lv_iinc (v := x_684) (lv' := [(6, .int x_684), (4, .long x_679), (7, .int 1), (0, .ref h0), (1, .int pp), (2, .int 2), (3, .int d)]) hx hb dX12_triedWorth_95 hl (k := 6) rfl ((z_ofi (by decide +kernel)).trans he_x_684.symm) (by decide) rfl (fun ls hl => ?_)
          refine lv_goto (tgt := 6) hx hb dX12_triedWorth_98 (by decide) ?_
          have hP := hP.sub (ws' := [(h0, .inr (12, [.int m_status, .int m_thrown, .long m_above, .long m_under, .ref a_traySort, .ref a_trayMany, .ref a_numbers, .ref a_tape, .int m_taped, .int m_textEnd, .int m_faultKind, .int m_faultAt, .int m_bad, .int m_badAt, .int m_token, .int m_at, .int m_behind, .int m_number, .int m_letters, .long m_word, .ref a_c, .ref a_words, .int m_markMany, .ref a_there, .ref a_tried, .ref a_best, .ref a_found, .int m_thereMany, .int m_foundMany, .int m_orderHow, .int m_orderRing, .int m_orderMany, .int m_hasBest, .long m_bestTop, .long m_bestBy, .ref a_weights, .ref a_shared, .int m_random, .int m_truePlace, .int m_trueWay, .int m_seconds, .int m_done, .int m_feelings, .int m_tries, .int m_leftOver, .int m_playDoor, .int m_playRing, .int m_isOpen, .int m_isOver, .int m_wasTried, .int m_hasPlayed, .ref a_feltNow, .ref a_last, .ref a_kept, .int m_hasSeconds, .int m_hasTurned, .int m_hasRound, .ref a_hasFeels, .ref a_isOn, .int m_firstAct, .long m_meanTop, .long m_meanBy, .ref a_order, .int m_rowMany, .int m_newSteps])), (a_c, .inl (cA.1 0, 1825, .inl g_c)), (a_there, .inl (cA.1 0, 10, .inl g_there)), (a_weights, .inl (cA.1 1, 100, .inr (.inl g_683)))]) [2, 3, 0, 1] rfl
          have hD := hD.sub (ws' := [(h0, .inr (12, [.int m_status, .int m_thrown, .long m_above, .long m_under, .ref a_traySort, .ref a_trayMany, .ref a_numbers, .ref a_tape, .int m_taped, .int m_textEnd, .int m_faultKind, .int m_faultAt, .int m_bad, .int m_badAt, .int m_token, .int m_at, .int m_behind, .int m_number, .int m_letters, .long m_word, .ref a_c, .ref a_words, .int m_markMany, .ref a_there, .ref a_tried, .ref a_best, .ref a_found, .int m_thereMany, .int m_foundMany, .int m_orderHow, .int m_orderRing, .int m_orderMany, .int m_hasBest, .long m_bestTop, .long m_bestBy, .ref a_weights, .ref a_shared, .int m_random, .int m_truePlace, .int m_trueWay, .int m_seconds, .int m_done, .int m_feelings, .int m_tries, .int m_leftOver, .int m_playDoor, .int m_playRing, .int m_isOpen, .int m_isOver, .int m_wasTried, .int m_hasPlayed, .ref a_feltNow, .ref a_last, .ref a_kept, .int m_hasSeconds, .int m_hasTurned, .int m_hasRound, .ref a_hasFeels, .ref a_isOn, .int m_firstAct, .long m_meanTop, .long m_meanBy, .ref a_order, .int m_rowMany, .int m_newSteps])), (a_c, .inl (cA.1 0, 1825, .inl g_c)), (a_there, .inl (cA.1 0, 10, .inl g_there)), (a_weights, .inl (cA.1 1, 100, .inr (.inl g_683)))]) [2, 3, 0, 1] (by decide) rfl
          exact ih_646 x_679 x_684 g_683 H locs ls (by omega) (by omega) hP hD hS (lv_sub hl [3, 4, 5, 6, 1, 0] rfl)
  exact hlp_645 _ 0 0 g_weights _ _ _ (Nat.lt_succ_self _) (by decide +kernel) hP hD hS (lv_sub hl [2, 3, 4, 5, 1, 0] rfl)
set_option maxHeartbeats 4000000 in
set_option maxRecDepth 100000 in
theorem r_goneWorth_2 (l : Launch) (G : va_G) (cA : zCA) (h0 : Nat) (m_status : Int32) (m_thrown : Int32) (m_above : Int64) (m_under : Int64) (a_traySort : Nat) (a_trayMany : Nat) (a_numbers : Nat) (a_tape : Nat) (m_taped : Int32) (m_textEnd : Int32) (m_faultKind : Int32) (m_faultAt : Int32) (m_bad : Int32) (m_badAt : Int32) (m_token : Int32) (m_at : Int32) (m_behind : Int32) (m_number : Int32) (m_letters : Int32) (m_word : Int64) (a_c : Nat) (a_words : Nat) (m_markMany : Int32) (a_there : Nat) (a_tried : Nat) (a_best : Nat) (a_found : Nat) (m_thereMany : Int32) (m_foundMany : Int32) (m_orderHow : Int32) (m_orderRing : Int32) (m_orderMany : Int32) (m_hasBest : Int32) (m_bestTop : Int64) (m_bestBy : Int64) (a_weights : Nat) (a_shared : Nat) (m_random : Int32) (m_truePlace : Int32) (m_trueWay : Int32) (m_seconds : Int32) (m_done : Int32) (m_feelings : Int32) (m_tries : Int32) (m_leftOver : Int32) (m_playDoor : Int32) (m_playRing : Int32) (m_isOpen : Int32) (m_isOver : Int32) (m_wasTried : Int32) (m_hasPlayed : Int32) (a_feltNow : Nat) (a_last : Nat) (a_kept : Nat) (m_hasSeconds : Int32) (m_hasTurned : Int32) (m_hasRound : Int32) (a_hasFeels : Nat) (a_isOn : Nat) (m_firstAct : Int32) (m_meanTop : Int64) (m_meanBy : Int64) (a_order : Nat) (m_rowMany : Int32) (m_newSteps : Int32) (g_c : Nat → Int32) (g_there : Nat → Int32) (g_weights : Nat → Int64) (pp : Int32) (d : Int32) (hr_pp : 0 ≤ pp.toInt ∧ pp.toInt ≤ 2) (hr_d : 0 ≤ d.toInt ∧ d.toInt ≤ 4) (hr_m_thereMany : 0 ≤ m_thereMany.toInt ∧ m_thereMany.toInt ≤ 10) (hC_g_c : zC g_c) (hC_g_there : zRg 10 0 9 g_there) : zCl l yX12_goneWorth cX12_goneWorth 5 (some .long) ({ frames := 4, cells := 0, slots := 0, locals := 105 }) G cA [.ref h0, .int pp, .int 2, .int d] [(h0, .inr (12, [.int m_status, .int m_thrown, .long m_above, .long m_under, .ref a_traySort, .ref a_trayMany, .ref a_numbers, .ref a_tape, .int m_taped, .int m_textEnd, .int m_faultKind, .int m_faultAt, .int m_bad, .int m_badAt, .int m_token, .int m_at, .int m_behind, .int m_number, .int m_letters, .long m_word, .ref a_c, .ref a_words, .int m_markMany, .ref a_there, .ref a_tried, .ref a_best, .ref a_found, .int m_thereMany, .int m_foundMany, .int m_orderHow, .int m_orderRing, .int m_orderMany, .int m_hasBest, .long m_bestTop, .long m_bestBy, .ref a_weights, .ref a_shared, .int m_random, .int m_truePlace, .int m_trueWay, .int m_seconds, .int m_done, .int m_feelings, .int m_tries, .int m_leftOver, .int m_playDoor, .int m_playRing, .int m_isOpen, .int m_isOver, .int m_wasTried, .int m_hasPlayed, .ref a_feltNow, .ref a_last, .ref a_kept, .int m_hasSeconds, .int m_hasTurned, .int m_hasRound, .ref a_hasFeels, .ref a_isOn, .int m_firstAct, .long m_meanTop, .long m_meanBy, .ref a_order, .int m_rowMany, .int m_newSteps])), (a_c, .inl (cA.1 0, 1825, .inl g_c)), (a_there, .inl (cA.1 0, 10, .inl g_there)), (a_weights, .inl (cA.1 1, 100, .inr (.inl g_weights)))] (S := Int32 × (Nat → Int64)) (fun (r : Int64) (u : Int32 × (Nat → Int64)) => True) (fun (u : Int32 × (Nat → Int64)) => [(h0, .inr (12, [.int m_status, .int m_thrown, .long m_above, .long m_under, .ref a_traySort, .ref a_trayMany, .ref a_numbers, .ref a_tape, .int m_taped, .int m_textEnd, .int m_faultKind, .int m_faultAt, .int m_bad, .int m_badAt, .int m_token, .int m_at, .int m_behind, .int m_number, .int m_letters, .long m_word, .ref a_c, .ref a_words, .int m_markMany, .ref a_there, .ref a_tried, .ref a_best, .ref a_found, .int m_thereMany, .int m_foundMany, .int m_orderHow, .int m_orderRing, .int m_orderMany, .int m_hasBest, .long m_bestTop, .long m_bestBy, .ref a_weights, .ref a_shared, .int m_random, .int m_truePlace, .int m_trueWay, .int m_seconds, .int m_done, .int m_feelings, .int m_tries, .int m_leftOver, .int m_playDoor, .int m_playRing, .int m_isOpen, .int m_isOver, .int m_wasTried, .int m_hasPlayed, .ref a_feltNow, .ref a_last, .ref a_kept, .int m_hasSeconds, .int m_hasTurned, .int m_hasRound, .ref a_hasFeels, .ref a_isOn, .int u.1, .long m_meanTop, .long m_meanBy, .ref a_order, .int m_rowMany, .int m_newSteps])), (a_c, .inl (cA.1 0, 1825, .inl g_c)), (a_there, .inl (cA.1 0, 10, .inl g_there)), (a_weights, .inl (cA.1 1, 100, .inr (.inl u.2)))]) 0 0 := by
  have hk_0 : (0 : Int32).toInt = 0 := by decide +kernel
  have hk_1 : (1 : Int32).toInt = 1 := by decide +kernel
  have hk_2 : (2 : Int32).toInt = 2 := by decide +kernel
  have hk_20 : (20 : Int32).toInt = 20 := by decide +kernel
  refine z_start2l (own := RX12) (by decide) (Nat.le_of_ble_eq_true rfl) rfl ?_
  intro p e s m args below meth c A ls Q hx hb hml hts hown hK hE hT hP hD hS hA hl hret
  have hl : lv_has ls 5 [(0, .ref h0), (1, .int pp), (2, .int 2), (3, .int d)] := hl
  refine lv_iconst (v := 0) hx hb dX12_goneWorth_0 (by decide) ?_
  refine lv_istore (lv' := [(4, .int 0), (0, .ref h0), (1, .int pp), (2, .int 2), (3, .int d)]) hx hb dX12_goneWorth_1 hl (by decide) rfl (fun ls hl => ?_)
  have hlp_355 : ∀ (n : Nat) (v_338 : Int32) (g_339 : Nat → Int64) (H : Heap) (locs : List Loc) (ls : Array Slot), (2147483647 - v_338.toInt).toNat < n → (0 ≤ v_338.toInt ∧ v_338.toInt ≤ 20) → va_P G vwCl [(h0, .inr (12, [.int m_status, .int m_thrown, .long m_above, .long m_under, .ref a_traySort, .ref a_trayMany, .ref a_numbers, .ref a_tape, .int m_taped, .int m_textEnd, .int m_faultKind, .int m_faultAt, .int m_bad, .int m_badAt, .int m_token, .int m_at, .int m_behind, .int m_number, .int m_letters, .long m_word, .ref a_c, .ref a_words, .int m_markMany, .ref a_there, .ref a_tried, .ref a_best, .ref a_found, .int m_thereMany, .int m_foundMany, .int m_orderHow, .int m_orderRing, .int m_orderMany, .int m_hasBest, .long m_bestTop, .long m_bestBy, .ref a_weights, .ref a_shared, .int m_random, .int m_truePlace, .int m_trueWay, .int m_seconds, .int m_done, .int m_feelings, .int m_tries, .int m_leftOver, .int m_playDoor, .int m_playRing, .int m_isOpen, .int m_isOver, .int m_wasTried, .int m_hasPlayed, .ref a_feltNow, .ref a_last, .ref a_kept, .int m_hasSeconds, .int m_hasTurned, .int m_hasRound, .ref a_hasFeels, .ref a_isOn, .int m_firstAct, .long m_meanTop, .long m_meanBy, .ref a_order, .int m_rowMany, .int m_newSteps])), (a_c, .inl (cA.1 0, 1825, .inl g_c)), (a_there, .inl (cA.1 0, 10, .inl g_there)), (a_weights, .inl (cA.1 1, 100, .inr (.inl g_339)))] H → va_D A [(h0, .inr (12, [.int m_status, .int m_thrown, .long m_above, .long m_under, .ref a_traySort, .ref a_trayMany, .ref a_numbers, .ref a_tape, .int m_taped, .int m_textEnd, .int m_faultKind, .int m_faultAt, .int m_bad, .int m_badAt, .int m_token, .int m_at, .int m_behind, .int m_number, .int m_letters, .long m_word, .ref a_c, .ref a_words, .int m_markMany, .ref a_there, .ref a_tried, .ref a_best, .ref a_found, .int m_thereMany, .int m_foundMany, .int m_orderHow, .int m_orderRing, .int m_orderMany, .int m_hasBest, .long m_bestTop, .long m_bestBy, .ref a_weights, .ref a_shared, .int m_random, .int m_truePlace, .int m_trueWay, .int m_seconds, .int m_done, .int m_feelings, .int m_tries, .int m_leftOver, .int m_playDoor, .int m_playRing, .int m_isOpen, .int m_isOver, .int m_wasTried, .int m_hasPlayed, .ref a_feltNow, .ref a_last, .ref a_kept, .int m_hasSeconds, .int m_hasTurned, .int m_hasRound, .ref a_hasFeels, .ref a_isOn, .int m_firstAct, .long m_meanTop, .long m_meanBy, .ref a_order, .int m_rowMany, .int m_newSteps])), (a_c, .inl (cA.1 0, 1825, .inl g_c)), (a_there, .inl (cA.1 0, 10, .inl g_there)), (a_weights, .inl (cA.1 1, 100, .inr (.inl g_339)))] → va_S A s.heap H locs → lv_has ls 5 [(0, .ref h0), (1, .int pp), (2, .int 2), (3, .int d), (4, .int v_338)] → W p l e ({ frames := 4, cells := 0, slots := 0, locals := 105 }) s m args below meth c H locs 0 0 Q (F0 m 3 ls []) := by
    intro n
    induction n with
    | zero =>
      intro v_338 g_339 H locs ls hmu_hlp_355 hr_v_338 hP hD hS hl
      exact absurd hmu_hlp_355 (Nat.not_lt_zero _)
    | succ n ih_356 =>
      intro v_338 g_339 H locs ls hmu_hlp_355 hr_v_338 hP hD hS hl
      refine lv_iload hx hb dX12_goneWorth_3 (lv_at hl 4 rfl) ?_
      refine lv_iconst (v := 2) hx hb dX12_goneWorth_5 (by decide) ?_
      refine lv_aload_n hx hb dX12_goneWorth_6 rfl (lv_at hl 0 rfl) ?_
      refine va_get (D := G) (ci := 12) (v := .int m_thereMany) (C := RX12) (T := TX12) (N := 65) hx hb hts inT12 hown hK hP 0 rfl rfl 27 (by decide) (hts _ tw_1912) (fun _ h9 => h9) rfl dX12_goneWorth_7 ?_
      refine lv_imul hx hb dX12_goneWorth_10 ?_
      refine lv_topi (fun x_357 he_x_357 => ?_)
      have hq_x_357 := z_mulq he_x_357 hk_2 (rfl : m_thereMany.toInt = _) (by omega) (by omega)
      refine lv_icmp_ge (tgt := 51) hx hb dX12_goneWorth_11 (by decide) (fun c_358 => ?_) (fun c_358 => ?_)
      · have b_359 := z_fgeT c_358
        refine lv_ldc2 (v := 16) hx hb hown (hts _ tw_2470) dX12_goneWorth_51 ?_
        refine lv_aload_n hx hb dX12_goneWorth_54 rfl (lv_at hl 0 rfl) ?_
        refine lv_iload_n hx hb dX12_goneWorth_55 rfl (lv_at hl 1 rfl) ?_
        refine lv_iconst (v := 1) hx hb dX12_goneWorth_56 (by decide) ?_
        refine lv_iadd hx hb dX12_goneWorth_57 ?_
        refine lv_topi (fun x_360 he_x_360 => ?_)
        have hq_x_360 := z_addq he_x_360 (rfl : pp.toInt = _) hk_1 (by omega) (by omega)
        refine lv_iload_n hx hb dX12_goneWorth_58 rfl (lv_at hl 2 rfl) ?_
        refine lv_iconst (v := 1) hx hb dX12_goneWorth_59 (by decide) ?_
        refine lv_isub hx hb dX12_goneWorth_60 ?_
        refine z_topi (y := 1) (by decide +kernel) ?_
        refine lv_iload_n hx hb dX12_goneWorth_61 rfl (lv_at hl 3 rfl) ?_
        refine z_callVl (As := [.int x_360, .int 1, .int d]) (rest := [.long 16]) (wr := []) ⟨hx, hb, hml, hown, hts⟩ hK hE hT hP hD hS hA (r_worthOf_1 l G cA h0 m_status m_thrown m_above m_under a_traySort a_trayMany a_numbers a_tape m_taped m_textEnd m_faultKind m_faultAt m_bad m_badAt m_token m_at m_behind m_number m_letters m_word a_c a_words m_markMany a_there a_tried a_best a_found m_thereMany m_foundMany m_orderHow m_orderRing m_orderMany m_hasBest m_bestTop m_bestBy a_weights a_shared m_random m_truePlace m_trueWay m_seconds m_done m_feelings m_tries m_leftOver m_playDoor m_playRing m_isOpen m_isOver m_wasTried m_hasPlayed a_feltNow a_last a_kept m_hasSeconds m_hasTurned m_hasRound a_hasFeels a_isOn m_firstAct m_meanTop m_meanBy a_order m_rowMany m_newSteps g_c g_there g_339 x_360 d (by omega) hr_d hr_m_thereMany hC_g_c hC_g_there) lk_RX12_379 ⟨rfl, rfl⟩ ⟨Nat.le_of_ble_eq_true rfl, Nat.le_of_ble_eq_true rfl⟩ 12 rfl rfl rfl [0, 1, 2, 3] [] rfl rfl (by decide) rfl hl.1 rfl (lv_room (Nat.le_of_ble_eq_true rfl)) dX12_goneWorth_62 ⟨Nat.le_of_ble_eq_true rfl, Nat.le_of_ble_eq_true rfl⟩ (fun r_363 u_364 H locs hw hP hD hS => ?_)
        obtain ⟨n_361, n_362⟩ := u_364
        try dsimp only at hw
        refine lv_lmul hx hb dX12_goneWorth_65 ?_
        have hL_r_363 := z_fulll r_363
        refine lv_topl (fun x_365 he_x_365 => ?_)
        exact hret _ _ _ _ _ _ (n_362, n_361) [0, 1, 2, 3] hP hD hS rfl (by decide) dX12_goneWorth_66 trivial
      · have b_366 := z_fltF c_358
        refine lv_aload_n hx hb dX12_goneWorth_14 rfl (lv_at hl 0 rfl) ?_
        refine va_get (D := G) (ci := 12) (v := .ref a_weights) (C := RX12) (T := TX12) (N := 65) hx hb hts inT12 hown hK hP 0 rfl rfl 35 (by decide) (hts _ tw_1919) (fun _ h9 => h9) rfl dX12_goneWorth_15 ?_
        refine lv_bipush (v := 20) hx hb dX12_goneWorth_18 (by decide) ?_
        refine lv_iload_n hx hb dX12_goneWorth_20 rfl (lv_at hl 1 rfl) ?_
        refine lv_imul hx hb dX12_goneWorth_21 ?_
        refine lv_topi (fun x_367 he_x_367 => ?_)
        have hq_x_367 := z_mulq he_x_367 hk_20 (rfl : pp.toInt = _) (by omega) (by omega)
        refine lv_bipush (v := 20) hx hb dX12_goneWorth_22 (by decide) ?_
        refine lv_iadd hx hb dX12_goneWorth_24 ?_
        refine lv_topi (fun x_368 he_x_368 => ?_)
        have hq_x_368 := z_addq he_x_368 (rfl : x_367.toInt = _) hk_20 (by omega) (by omega)
        refine lv_aload_n hx hb dX12_goneWorth_25 rfl (lv_at hl 0 rfl) ?_
        refine lv_iload hx hb dX12_goneWorth_26 (lv_at hl 4 rfl) ?_
        refine z_callVi (As := [.int v_338]) (rest := [.int x_368, .ref a_weights]) (wr := [(a_c, .inl (cA.1 0, 1825, .inl g_c)), (a_there, .inl (cA.1 0, 10, .inl g_there)), (a_weights, .inl (cA.1 1, 100, .inr (.inl g_339)))]) ⟨hx, hb, hml, hown, hts⟩ hK hE hT hP hD hS hA (r_onward l G cA h0 m_status m_thrown m_above m_under a_traySort a_trayMany a_numbers a_tape m_taped m_textEnd m_faultKind m_faultAt m_bad m_badAt m_token m_at m_behind m_number m_letters m_word a_c a_words m_markMany a_there a_tried a_best a_found m_thereMany m_foundMany m_orderHow m_orderRing m_orderMany m_hasBest m_bestTop m_bestBy a_weights a_shared m_random m_truePlace m_trueWay m_seconds m_done m_feelings m_tries m_leftOver m_playDoor m_playRing m_isOpen m_isOver m_wasTried m_hasPlayed a_feltNow a_last a_kept m_hasSeconds m_hasTurned m_hasRound a_hasFeels a_isOn m_firstAct m_meanTop m_meanBy a_order m_rowMany m_newSteps v_338 (by omega) (by omega) (by omega)) lk_RX12_336 ⟨rfl, rfl⟩ ⟨Nat.le_of_ble_eq_true rfl, Nat.le_of_ble_eq_true rfl⟩ 12 rfl rfl rfl [0] [1, 2, 3] rfl rfl (by decide) rfl hl.1 rfl (lv_room (Nat.le_of_ble_eq_true rfl)) dX12_goneWorth_28 ⟨Nat.le_of_ble_eq_true rfl, Nat.le_of_ble_eq_true rfl⟩ (fun r_369 u_370 H locs hw hP hD hS => ?_)
        obtain ⟨hr_r_369, hf_371⟩ := hw
        refine lv_iadd hx hb dX12_goneWorth_31 ?_
        refine lv_topi (fun x_372 he_x_372 => ?_)
        have hq_x_372 := z_addq he_x_372 (rfl : x_368.toInt = _) (rfl : r_369.toInt = _) (by omega) (by omega)
        refine lv_aload_n hx hb dX12_goneWorth_32 rfl (lv_at hl 0 rfl) ?_
        refine va_get (D := G) (ci := 12) (v := .ref a_weights) (C := RX12) (T := TX12) (N := 65) hx hb hts inT12 hown hK hP 3 rfl rfl 35 (by decide) (hts _ tw_1919) (fun _ h9 => h9) rfl dX12_goneWorth_33 ?_
        refine lv_bipush (v := 20) hx hb dX12_goneWorth_36 (by decide) ?_
        refine lv_iload_n hx hb dX12_goneWorth_38 rfl (lv_at hl 1 rfl) ?_
        refine lv_imul hx hb dX12_goneWorth_39 ?_
        refine lv_topi (fun x_373 he_x_373 => ?_)
        have hq_x_373 := z_mulq he_x_373 hk_20 (rfl : pp.toInt = _) (by omega) (by omega)
        refine lv_iload hx hb dX12_goneWorth_40 (lv_at hl 4 rfl) ?_
        refine lv_iadd hx hb dX12_goneWorth_42 ?_
        refine lv_topi (fun x_374 he_x_374 => ?_)
        have hq_x_374 := z_addq he_x_374 (rfl : x_373.toInt = _) (rfl : v_338.toInt = _) (by omega) (by omega)
        refine va_lald hx hb hK hP 2 1 rfl rfl (z_inN (by omega) (by omega)) dX12_goneWorth_43 ?_
        refine lv_topl (fun x_375 he_x_375 => ?_)
        refine z_last hx hb hK hP hD hS 2 1 rfl rfl (z_inN (by omega) (by omega)) dX12_goneWorth_44 (fun g_376 hg_g_376 H locs hP hD hS => ?_)
        obtain ⟨x_377, he_x_377⟩ : ∃ z : Int32, z = v_338 + 1 := ⟨_, rfl⟩
        have hq_x_377 := z_addq he_x_377 (rfl : v_338.toInt = _) hk_1 (by omega) (by omega)
        refine lv_iinc (v := x_377) (lv' := [(4, .int x_377), (0, .ref h0), (1, .int pp), (2, .int 2), (3, .int d)]) hx hb dX12_goneWorth_45 hl (k := 4) rfl ((z_ofi (by decide +kernel)).trans he_x_377.symm) (by decide) rfl (fun ls hl => ?_)
        refine lv_goto (tgt := 3) hx hb dX12_goneWorth_48 (by decide) ?_
        have hP := hP.sub (ws' := [(h0, .inr (12, [.int m_status, .int m_thrown, .long m_above, .long m_under, .ref a_traySort, .ref a_trayMany, .ref a_numbers, .ref a_tape, .int m_taped, .int m_textEnd, .int m_faultKind, .int m_faultAt, .int m_bad, .int m_badAt, .int m_token, .int m_at, .int m_behind, .int m_number, .int m_letters, .long m_word, .ref a_c, .ref a_words, .int m_markMany, .ref a_there, .ref a_tried, .ref a_best, .ref a_found, .int m_thereMany, .int m_foundMany, .int m_orderHow, .int m_orderRing, .int m_orderMany, .int m_hasBest, .long m_bestTop, .long m_bestBy, .ref a_weights, .ref a_shared, .int m_random, .int m_truePlace, .int m_trueWay, .int m_seconds, .int m_done, .int m_feelings, .int m_tries, .int m_leftOver, .int m_playDoor, .int m_playRing, .int m_isOpen, .int m_isOver, .int m_wasTried, .int m_hasPlayed, .ref a_feltNow, .ref a_last, .ref a_kept, .int m_hasSeconds, .int m_hasTurned, .int m_hasRound, .ref a_hasFeels, .ref a_isOn, .int m_firstAct, .long m_meanTop, .long m_meanBy, .ref a_order, .int m_rowMany, .int m_newSteps])), (a_c, .inl (cA.1 0, 1825, .inl g_c)), (a_there, .inl (cA.1 0, 10, .inl g_there)), (a_weights, .inl (cA.1 1, 100, .inr (.inl g_376)))]) [3, 0, 1, 2] rfl
        have hD := hD.sub (ws' := [(h0, .inr (12, [.int m_status, .int m_thrown, .long m_above, .long m_under, .ref a_traySort, .ref a_trayMany, .ref a_numbers, .ref a_tape, .int m_taped, .int m_textEnd, .int m_faultKind, .int m_faultAt, .int m_bad, .int m_badAt, .int m_token, .int m_at, .int m_behind, .int m_number, .int m_letters, .long m_word, .ref a_c, .ref a_words, .int m_markMany, .ref a_there, .ref a_tried, .ref a_best, .ref a_found, .int m_thereMany, .int m_foundMany, .int m_orderHow, .int m_orderRing, .int m_orderMany, .int m_hasBest, .long m_bestTop, .long m_bestBy, .ref a_weights, .ref a_shared, .int m_random, .int m_truePlace, .int m_trueWay, .int m_seconds, .int m_done, .int m_feelings, .int m_tries, .int m_leftOver, .int m_playDoor, .int m_playRing, .int m_isOpen, .int m_isOver, .int m_wasTried, .int m_hasPlayed, .ref a_feltNow, .ref a_last, .ref a_kept, .int m_hasSeconds, .int m_hasTurned, .int m_hasRound, .ref a_hasFeels, .ref a_isOn, .int m_firstAct, .long m_meanTop, .long m_meanBy, .ref a_order, .int m_rowMany, .int m_newSteps])), (a_c, .inl (cA.1 0, 1825, .inl g_c)), (a_there, .inl (cA.1 0, 10, .inl g_there)), (a_weights, .inl (cA.1 1, 100, .inr (.inl g_376)))]) [3, 0, 1, 2] (by decide) rfl
        exact ih_356 x_377 g_376 H locs ls (by omega) (by omega) hP hD hS (lv_sub hl [1, 2, 3, 4, 0] rfl)
  exact hlp_355 _ 0 g_weights _ _ _ (Nat.lt_succ_self _) (by decide +kernel) hP hD hS (lv_sub hl [1, 2, 3, 4, 0] rfl)
set_option maxHeartbeats 4000000 in
set_option maxRecDepth 100000 in
theorem r_feltWorth_2 (l : Launch) (G : va_G) (cA : zCA) (h0 : Nat) (m_status : Int32) (m_thrown : Int32) (m_above : Int64) (m_under : Int64) (a_traySort : Nat) (a_trayMany : Nat) (a_numbers : Nat) (a_tape : Nat) (m_taped : Int32) (m_textEnd : Int32) (m_faultKind : Int32) (m_faultAt : Int32) (m_bad : Int32) (m_badAt : Int32) (m_token : Int32) (m_at : Int32) (m_behind : Int32) (m_number : Int32) (m_letters : Int32) (m_word : Int64) (a_c : Nat) (a_words : Nat) (m_markMany : Int32) (a_there : Nat) (a_tried : Nat) (a_best : Nat) (a_found : Nat) (m_thereMany : Int32) (m_foundMany : Int32) (m_orderHow : Int32) (m_orderRing : Int32) (m_orderMany : Int32) (m_hasBest : Int32) (m_bestTop : Int64) (m_bestBy : Int64) (a_weights : Nat) (a_shared : Nat) (m_random : Int32) (m_truePlace : Int32) (m_trueWay : Int32) (m_seconds : Int32) (m_done : Int32) (m_feelings : Int32) (m_tries : Int32) (m_leftOver : Int32) (m_playDoor : Int32) (m_playRing : Int32) (m_isOpen : Int32) (m_isOver : Int32) (m_wasTried : Int32) (m_hasPlayed : Int32) (a_feltNow : Nat) (a_last : Nat) (a_kept : Nat) (m_hasSeconds : Int32) (m_hasTurned : Int32) (m_hasRound : Int32) (a_hasFeels : Nat) (a_isOn : Nat) (m_firstAct : Int32) (m_meanTop : Int64) (m_meanBy : Int64) (a_order : Nat) (m_rowMany : Int32) (m_newSteps : Int32) (g_c : Nat → Int32) (g_there : Nat → Int32) (g_weights : Nat → Int64) (pp : Int32) (d : Int32) (f : Int32) (hr_pp : 0 ≤ pp.toInt ∧ pp.toInt ≤ 2) (hr_d : 0 ≤ d.toInt ∧ d.toInt ≤ 4) (hr_f : 0 ≤ f.toInt ∧ f.toInt ≤ 2) (hr_m_thereMany : 0 ≤ m_thereMany.toInt ∧ m_thereMany.toInt ≤ 10) (hC_g_c : zC g_c) (hC_g_there : zRg 10 0 9 g_there) : zCl l yX12_feltWorth cX12_feltWorth 9 (some .long) ({ frames := 4, cells := 0, slots := 0, locals := 105 }) G cA [.ref h0, .int pp, .int 2, .int d, .int f] [(h0, .inr (12, [.int m_status, .int m_thrown, .long m_above, .long m_under, .ref a_traySort, .ref a_trayMany, .ref a_numbers, .ref a_tape, .int m_taped, .int m_textEnd, .int m_faultKind, .int m_faultAt, .int m_bad, .int m_badAt, .int m_token, .int m_at, .int m_behind, .int m_number, .int m_letters, .long m_word, .ref a_c, .ref a_words, .int m_markMany, .ref a_there, .ref a_tried, .ref a_best, .ref a_found, .int m_thereMany, .int m_foundMany, .int m_orderHow, .int m_orderRing, .int m_orderMany, .int m_hasBest, .long m_bestTop, .long m_bestBy, .ref a_weights, .ref a_shared, .int m_random, .int m_truePlace, .int m_trueWay, .int m_seconds, .int m_done, .int m_feelings, .int m_tries, .int m_leftOver, .int m_playDoor, .int m_playRing, .int m_isOpen, .int m_isOver, .int m_wasTried, .int m_hasPlayed, .ref a_feltNow, .ref a_last, .ref a_kept, .int m_hasSeconds, .int m_hasTurned, .int m_hasRound, .ref a_hasFeels, .ref a_isOn, .int m_firstAct, .long m_meanTop, .long m_meanBy, .ref a_order, .int m_rowMany, .int m_newSteps])), (a_c, .inl (cA.1 0, 1825, .inl g_c)), (a_there, .inl (cA.1 0, 10, .inl g_there)), (a_weights, .inl (cA.1 1, 100, .inr (.inl g_weights)))] (S := Int32 × (Nat → Int64)) (fun (r : Int64) (u : Int32 × (Nat → Int64)) => True) (fun (u : Int32 × (Nat → Int64)) => [(h0, .inr (12, [.int m_status, .int m_thrown, .long m_above, .long m_under, .ref a_traySort, .ref a_trayMany, .ref a_numbers, .ref a_tape, .int m_taped, .int m_textEnd, .int m_faultKind, .int m_faultAt, .int m_bad, .int m_badAt, .int m_token, .int m_at, .int m_behind, .int m_number, .int m_letters, .long m_word, .ref a_c, .ref a_words, .int m_markMany, .ref a_there, .ref a_tried, .ref a_best, .ref a_found, .int m_thereMany, .int m_foundMany, .int m_orderHow, .int m_orderRing, .int m_orderMany, .int m_hasBest, .long m_bestTop, .long m_bestBy, .ref a_weights, .ref a_shared, .int m_random, .int m_truePlace, .int m_trueWay, .int m_seconds, .int m_done, .int m_feelings, .int m_tries, .int m_leftOver, .int m_playDoor, .int m_playRing, .int m_isOpen, .int m_isOver, .int m_wasTried, .int m_hasPlayed, .ref a_feltNow, .ref a_last, .ref a_kept, .int m_hasSeconds, .int m_hasTurned, .int m_hasRound, .ref a_hasFeels, .ref a_isOn, .int u.1, .long m_meanTop, .long m_meanBy, .ref a_order, .int m_rowMany, .int m_newSteps])), (a_c, .inl (cA.1 0, 1825, .inl g_c)), (a_there, .inl (cA.1 0, 10, .inl g_there)), (a_weights, .inl (cA.1 1, 100, .inr (.inl u.2)))]) 0 0 := by
  have hk_0 : (0 : Int32).toInt = 0 := by decide +kernel
  have hk_1 : (1 : Int32).toInt = 1 := by decide +kernel
  have hk_2 : (2 : Int32).toInt = 2 := by decide +kernel
  have hk_11 : (11 : Int32).toInt = 11 := by decide +kernel
  have hk_20 : (20 : Int32).toInt = 20 := by decide +kernel
  have hkl_0 : (0 : Int64).toInt = 0 := by decide +kernel
  refine z_start2l (own := RX12) (by decide) (Nat.le_of_ble_eq_true rfl) rfl ?_
  intro p e s m args below meth c A ls Q hx hb hml hts hown hK hE hT hP hD hS hA hl hret
  have hl : lv_has ls 9 [(0, .ref h0), (1, .int pp), (2, .int 2), (3, .int d), (4, .int f)] := hl
  refine lv_lconst (v := 0) hx hb dX12_feltWorth_0 (by decide) ?_
  refine lv_lstore (lv' := [(5, .long 0), (0, .ref h0), (1, .int pp), (2, .int 2), (3, .int d), (4, .int f)]) hx hb dX12_feltWorth_1 hl (by decide) rfl (fun ls hl => ?_)
  refine lv_iconst (v := 0) hx hb dX12_feltWorth_3 (by decide) ?_
  refine lv_istore (lv' := [(7, .int 0), (5, .long 0), (0, .ref h0), (1, .int pp), (2, .int 2), (3, .int d), (4, .int f)]) hx hb dX12_feltWorth_4 hl (by decide) rfl (fun ls hl => ?_)
  have hlp_2966 : ∀ (n : Nat) (v_2471 : Int64) (v_2472 : Int32) (v_2473 : Int32) (g_2474 : Nat → Int64) (H : Heap) (locs : List Loc) (ls : Array Slot), (2147483647 - v_2472.toInt).toNat < n → (0 ≤ v_2472.toInt ∧ v_2472.toInt ≤ 4) → va_P G vwCl [(h0, .inr (12, [.int m_status, .int m_thrown, .long m_above, .long m_under, .ref a_traySort, .ref a_trayMany, .ref a_numbers, .ref a_tape, .int m_taped, .int m_textEnd, .int m_faultKind, .int m_faultAt, .int m_bad, .int m_badAt, .int m_token, .int m_at, .int m_behind, .int m_number, .int m_letters, .long m_word, .ref a_c, .ref a_words, .int m_markMany, .ref a_there, .ref a_tried, .ref a_best, .ref a_found, .int m_thereMany, .int m_foundMany, .int m_orderHow, .int m_orderRing, .int m_orderMany, .int m_hasBest, .long m_bestTop, .long m_bestBy, .ref a_weights, .ref a_shared, .int m_random, .int m_truePlace, .int m_trueWay, .int m_seconds, .int m_done, .int m_feelings, .int m_tries, .int m_leftOver, .int m_playDoor, .int m_playRing, .int m_isOpen, .int m_isOver, .int m_wasTried, .int m_hasPlayed, .ref a_feltNow, .ref a_last, .ref a_kept, .int m_hasSeconds, .int m_hasTurned, .int m_hasRound, .ref a_hasFeels, .ref a_isOn, .int v_2473, .long m_meanTop, .long m_meanBy, .ref a_order, .int m_rowMany, .int m_newSteps])), (a_c, .inl (cA.1 0, 1825, .inl g_c)), (a_there, .inl (cA.1 0, 10, .inl g_there)), (a_weights, .inl (cA.1 1, 100, .inr (.inl g_2474)))] H → va_D A [(h0, .inr (12, [.int m_status, .int m_thrown, .long m_above, .long m_under, .ref a_traySort, .ref a_trayMany, .ref a_numbers, .ref a_tape, .int m_taped, .int m_textEnd, .int m_faultKind, .int m_faultAt, .int m_bad, .int m_badAt, .int m_token, .int m_at, .int m_behind, .int m_number, .int m_letters, .long m_word, .ref a_c, .ref a_words, .int m_markMany, .ref a_there, .ref a_tried, .ref a_best, .ref a_found, .int m_thereMany, .int m_foundMany, .int m_orderHow, .int m_orderRing, .int m_orderMany, .int m_hasBest, .long m_bestTop, .long m_bestBy, .ref a_weights, .ref a_shared, .int m_random, .int m_truePlace, .int m_trueWay, .int m_seconds, .int m_done, .int m_feelings, .int m_tries, .int m_leftOver, .int m_playDoor, .int m_playRing, .int m_isOpen, .int m_isOver, .int m_wasTried, .int m_hasPlayed, .ref a_feltNow, .ref a_last, .ref a_kept, .int m_hasSeconds, .int m_hasTurned, .int m_hasRound, .ref a_hasFeels, .ref a_isOn, .int v_2473, .long m_meanTop, .long m_meanBy, .ref a_order, .int m_rowMany, .int m_newSteps])), (a_c, .inl (cA.1 0, 1825, .inl g_c)), (a_there, .inl (cA.1 0, 10, .inl g_there)), (a_weights, .inl (cA.1 1, 100, .inr (.inl g_2474)))] → va_S A s.heap H locs → lv_has ls 9 [(0, .ref h0), (1, .int pp), (2, .int 2), (3, .int d), (4, .int f), (5, .long v_2471), (7, .int v_2472)] → W p l e ({ frames := 4, cells := 0, slots := 0, locals := 105 }) s m args below meth c H locs 0 0 Q (F0 m 6 ls []) := by
    intro n
    induction n with
    | zero =>
      intro v_2471 v_2472 v_2473 g_2474 H locs ls hmu_hlp_2966 hr_v_2472 hP hD hS hl
      exact absurd hmu_hlp_2966 (Nat.not_lt_zero _)
    | succ n ih_2967 =>
      intro v_2471 v_2472 v_2473 g_2474 H locs ls hmu_hlp_2966 hr_v_2472 hP hD hS hl
      refine lv_iload hx hb dX12_feltWorth_6 (lv_at hl 6 rfl) ?_
      refine lv_aload_n hx hb dX12_feltWorth_8 rfl (lv_at hl 0 rfl) ?_
      refine va_get (D := G) (ci := 12) (v := .ref a_c) (C := RX12) (T := TX12) (N := 65) hx hb hts inT12 hown hK hP 0 rfl rfl 20 (by decide) (hts _ tw_1905) (fun _ h9 => h9) rfl dX12_feltWorth_9 ?_
      refine lv_bipush (v := 11) hx hb dX12_feltWorth_12 (by decide) ?_
      refine lv_iload hx hb dX12_feltWorth_14 (lv_at hl 4 rfl) ?_
      refine lv_iadd hx hb dX12_feltWorth_16 ?_
      refine lv_topi (fun x_2968 he_x_2968 => ?_)
      have hq_x_2968 := z_addq he_x_2968 hk_11 (rfl : f.toInt = _) (by omega) (by omega)
      refine va_iald hx hb hK hP 1 0 rfl rfl (z_inN (by omega) (by omega)) dX12_feltWorth_17 ?_
      refine lv_topi (fun x_2969 he_x_2969 => ?_)
      have hr_x_2969 := z_ct hC_g_c he_x_2969 (a := 11) (b := 13) (lo := 0) (hi := 4) (by decide +kernel) (by decide) (by omega) (by omega)
      refine lv_icmp_ge (tgt := 113) hx hb dX12_feltWorth_18 (by decide) (fun c_2970 => ?_) (fun c_2970 => ?_)
      · have b_2971 := z_fgeT c_2970
        refine lv_lload hx hb dX12_feltWorth_113 (lv_at hl 5 rfl) ?_
        exact hret _ _ _ _ _ _ (v_2473, g_2474) [0, 1, 2, 3] hP hD hS rfl (by decide) dX12_feltWorth_115 trivial
      · have b_2972 := z_fltF c_2970
        refine lv_iconst (v := 0) hx hb dX12_feltWorth_21 (by decide) ?_
        refine lv_istore (lv' := [(8, .int 0), (0, .ref h0), (1, .int pp), (2, .int 2), (3, .int d), (4, .int f), (5, .long v_2471), (7, .int v_2472)]) hx hb dX12_feltWorth_22 hl (by decide) rfl (fun ls hl => ?_)
        have hlp_3430 : ∀ (n : Nat) (v_3408 : Int32) (g_3409 : Nat → Int64) (H : Heap) (locs : List Loc) (ls : Array Slot), (2147483647 - v_3408.toInt).toNat < n → (0 ≤ v_3408.toInt ∧ v_3408.toInt ≤ 20) → va_P G vwCl [(h0, .inr (12, [.int m_status, .int m_thrown, .long m_above, .long m_under, .ref a_traySort, .ref a_trayMany, .ref a_numbers, .ref a_tape, .int m_taped, .int m_textEnd, .int m_faultKind, .int m_faultAt, .int m_bad, .int m_badAt, .int m_token, .int m_at, .int m_behind, .int m_number, .int m_letters, .long m_word, .ref a_c, .ref a_words, .int m_markMany, .ref a_there, .ref a_tried, .ref a_best, .ref a_found, .int m_thereMany, .int m_foundMany, .int m_orderHow, .int m_orderRing, .int m_orderMany, .int m_hasBest, .long m_bestTop, .long m_bestBy, .ref a_weights, .ref a_shared, .int m_random, .int m_truePlace, .int m_trueWay, .int m_seconds, .int m_done, .int m_feelings, .int m_tries, .int m_leftOver, .int m_playDoor, .int m_playRing, .int m_isOpen, .int m_isOver, .int m_wasTried, .int m_hasPlayed, .ref a_feltNow, .ref a_last, .ref a_kept, .int m_hasSeconds, .int m_hasTurned, .int m_hasRound, .ref a_hasFeels, .ref a_isOn, .int v_2473, .long m_meanTop, .long m_meanBy, .ref a_order, .int m_rowMany, .int m_newSteps])), (a_c, .inl (cA.1 0, 1825, .inl g_c)), (a_there, .inl (cA.1 0, 10, .inl g_there)), (a_weights, .inl (cA.1 1, 100, .inr (.inl g_3409)))] H → va_D A [(h0, .inr (12, [.int m_status, .int m_thrown, .long m_above, .long m_under, .ref a_traySort, .ref a_trayMany, .ref a_numbers, .ref a_tape, .int m_taped, .int m_textEnd, .int m_faultKind, .int m_faultAt, .int m_bad, .int m_badAt, .int m_token, .int m_at, .int m_behind, .int m_number, .int m_letters, .long m_word, .ref a_c, .ref a_words, .int m_markMany, .ref a_there, .ref a_tried, .ref a_best, .ref a_found, .int m_thereMany, .int m_foundMany, .int m_orderHow, .int m_orderRing, .int m_orderMany, .int m_hasBest, .long m_bestTop, .long m_bestBy, .ref a_weights, .ref a_shared, .int m_random, .int m_truePlace, .int m_trueWay, .int m_seconds, .int m_done, .int m_feelings, .int m_tries, .int m_leftOver, .int m_playDoor, .int m_playRing, .int m_isOpen, .int m_isOver, .int m_wasTried, .int m_hasPlayed, .ref a_feltNow, .ref a_last, .ref a_kept, .int m_hasSeconds, .int m_hasTurned, .int m_hasRound, .ref a_hasFeels, .ref a_isOn, .int v_2473, .long m_meanTop, .long m_meanBy, .ref a_order, .int m_rowMany, .int m_newSteps])), (a_c, .inl (cA.1 0, 1825, .inl g_c)), (a_there, .inl (cA.1 0, 10, .inl g_there)), (a_weights, .inl (cA.1 1, 100, .inr (.inl g_3409)))] → va_S A s.heap H locs → lv_has ls 9 [(0, .ref h0), (1, .int pp), (2, .int 2), (3, .int d), (4, .int f), (5, .long v_2471), (7, .int v_2472), (8, .int v_3408)] → W p l e ({ frames := 4, cells := 0, slots := 0, locals := 105 }) s m args below meth c H locs 0 0 Q (F0 m 24 ls []) := by
          intro n
          induction n with
          | zero =>
            intro v_3408 g_3409 H locs ls hmu_hlp_3430 hr_v_3408 hP hD hS hl
            exact absurd hmu_hlp_3430 (Nat.not_lt_zero _)
          | succ n ih_3431 =>
            intro v_3408 g_3409 H locs ls hmu_hlp_3430 hr_v_3408 hP hD hS hl
            refine lv_iload hx hb dX12_feltWorth_24 (lv_at hl 7 rfl) ?_
            refine lv_iconst (v := 2) hx hb dX12_feltWorth_26 (by decide) ?_
            refine lv_aload_n hx hb dX12_feltWorth_27 rfl (lv_at hl 0 rfl) ?_
            refine va_get (D := G) (ci := 12) (v := .int m_thereMany) (C := RX12) (T := TX12) (N := 65) hx hb hts inT12 hown hK hP 0 rfl rfl 27 (by decide) (hts _ tw_1912) (fun _ h9 => h9) rfl dX12_feltWorth_28 ?_
            refine lv_imul hx hb dX12_feltWorth_31 ?_
            refine lv_topi (fun x_3432 he_x_3432 => ?_)
            have hq_x_3432 := z_mulq he_x_3432 hk_2 (rfl : m_thereMany.toInt = _) (by omega) (by omega)
            refine lv_icmp_ge (tgt := 91) hx hb dX12_feltWorth_32 (by decide) (fun c_3433 => ?_) (fun c_3433 => ?_)
            · have b_3434 := z_fgeT c_3433
              refine lv_lload hx hb dX12_feltWorth_91 (lv_at hl 5 rfl) ?_
              refine lv_aload_n hx hb dX12_feltWorth_93 rfl (lv_at hl 0 rfl) ?_
              refine lv_iload_n hx hb dX12_feltWorth_94 rfl (lv_at hl 1 rfl) ?_
              refine lv_iconst (v := 1) hx hb dX12_feltWorth_95 (by decide) ?_
              refine lv_iadd hx hb dX12_feltWorth_96 ?_
              refine lv_topi (fun x_3435 he_x_3435 => ?_)
              have hq_x_3435 := z_addq he_x_3435 (rfl : pp.toInt = _) hk_1 (by omega) (by omega)
              refine lv_iload_n hx hb dX12_feltWorth_97 rfl (lv_at hl 2 rfl) ?_
              refine lv_iconst (v := 1) hx hb dX12_feltWorth_98 (by decide) ?_
              refine lv_isub hx hb dX12_feltWorth_99 ?_
              refine z_topi (y := 1) (by decide +kernel) ?_
              refine lv_iload_n hx hb dX12_feltWorth_100 rfl (lv_at hl 3 rfl) ?_
              refine z_callVl (As := [.int x_3435, .int 1, .int d]) (rest := [.long v_2471]) (wr := []) ⟨hx, hb, hml, hown, hts⟩ hK hE hT hP hD hS hA (r_worthOf_1 l G cA h0 m_status m_thrown m_above m_under a_traySort a_trayMany a_numbers a_tape m_taped m_textEnd m_faultKind m_faultAt m_bad m_badAt m_token m_at m_behind m_number m_letters m_word a_c a_words m_markMany a_there a_tried a_best a_found m_thereMany m_foundMany m_orderHow m_orderRing m_orderMany m_hasBest m_bestTop m_bestBy a_weights a_shared m_random m_truePlace m_trueWay m_seconds m_done m_feelings m_tries m_leftOver m_playDoor m_playRing m_isOpen m_isOver m_wasTried m_hasPlayed a_feltNow a_last a_kept m_hasSeconds m_hasTurned m_hasRound a_hasFeels a_isOn v_2473 m_meanTop m_meanBy a_order m_rowMany m_newSteps g_c g_there g_3409 x_3435 d (by omega) hr_d hr_m_thereMany hC_g_c hC_g_there) lk_RX12_379 ⟨rfl, rfl⟩ ⟨Nat.le_of_ble_eq_true rfl, Nat.le_of_ble_eq_true rfl⟩ 12 rfl rfl rfl [0, 1, 2, 3] [] rfl rfl (by decide) rfl hl.1 rfl (lv_room (Nat.le_of_ble_eq_true rfl)) dX12_feltWorth_101 ⟨Nat.le_of_ble_eq_true rfl, Nat.le_of_ble_eq_true rfl⟩ (fun r_3438 u_3439 H locs hw hP hD hS => ?_)
              obtain ⟨n_3436, n_3437⟩ := u_3439
              try dsimp only at hw
              refine lv_ladd hx hb dX12_feltWorth_104 ?_
              have hL_v_2471 := z_fulll v_2471
              have hL_r_3438 := z_fulll r_3438
              refine lv_topl (fun x_3440 he_x_3440 => ?_)
              refine lv_lstore (lv' := [(5, .long x_3440), (0, .ref h0), (1, .int pp), (2, .int 2), (3, .int d), (4, .int f), (7, .int v_2472), (8, .int v_3408)]) hx hb dX12_feltWorth_105 hl (by decide) rfl (fun ls hl => ?_)
              obtain ⟨x_3441, he_x_3441⟩ : ∃ z : Int32, z = v_2472 + 1 := ⟨_, rfl⟩
              have hq_x_3441 := z_addq he_x_3441 (rfl : v_2472.toInt = _) hk_1 (by omega) (by omega)
              refine lv_iinc (v := x_3441) (lv' := [(7, .int x_3441), (5, .long x_3440), (0, .ref h0), (1, .int pp), (2, .int 2), (3, .int d), (4, .int f), (8, .int v_3408)]) hx hb dX12_feltWorth_107 hl (k := 6) rfl ((z_ofi (by decide +kernel)).trans he_x_3441.symm) (by decide) rfl (fun ls hl => ?_)
              refine lv_goto (tgt := 6) hx hb dX12_feltWorth_110 (by decide) ?_
              exact ih_2967 x_3440 x_3441 n_3437 n_3436 H locs ls (by omega) (by omega) hP hD hS (lv_sub hl [2, 3, 4, 5, 6, 1, 0] rfl)
            · have b_3442 := z_fltF c_3433
              refine lv_aload_n hx hb dX12_feltWorth_35 rfl (lv_at hl 0 rfl) ?_
              refine va_get (D := G) (ci := 12) (v := .ref a_weights) (C := RX12) (T := TX12) (N := 65) hx hb hts inT12 hown hK hP 0 rfl rfl 35 (by decide) (hts _ tw_1919) (fun _ h9 => h9) rfl dX12_feltWorth_36 ?_
              refine lv_bipush (v := 20) hx hb dX12_feltWorth_39 (by decide) ?_
              refine lv_iload_n hx hb dX12_feltWorth_41 rfl (lv_at hl 1 rfl) ?_
              refine lv_imul hx hb dX12_feltWorth_42 ?_
              refine lv_topi (fun x_3443 he_x_3443 => ?_)
              have hq_x_3443 := z_mulq he_x_3443 hk_20 (rfl : pp.toInt = _) (by omega) (by omega)
              refine lv_bipush (v := 20) hx hb dX12_feltWorth_43 (by decide) ?_
              refine lv_iadd hx hb dX12_feltWorth_45 ?_
              refine lv_topi (fun x_3444 he_x_3444 => ?_)
              have hq_x_3444 := z_addq he_x_3444 (rfl : x_3443.toInt = _) hk_20 (by omega) (by omega)
              refine lv_iload hx hb dX12_feltWorth_46 (lv_at hl 7 rfl) ?_
              refine lv_iadd hx hb dX12_feltWorth_48 ?_
              refine lv_topi (fun x_3445 he_x_3445 => ?_)
              have hq_x_3445 := z_addq he_x_3445 (rfl : x_3444.toInt = _) (rfl : v_3408.toInt = _) (by omega) (by omega)
              refine lv_aload_n hx hb dX12_feltWorth_49 rfl (lv_at hl 0 rfl) ?_
              refine va_get (D := G) (ci := 12) (v := .ref a_weights) (C := RX12) (T := TX12) (N := 65) hx hb hts inT12 hown hK hP 0 rfl rfl 35 (by decide) (hts _ tw_1919) (fun _ h9 => h9) rfl dX12_feltWorth_50 ?_
              refine lv_bipush (v := 20) hx hb dX12_feltWorth_53 (by decide) ?_
              refine lv_iload_n hx hb dX12_feltWorth_55 rfl (lv_at hl 1 rfl) ?_
              refine lv_imul hx hb dX12_feltWorth_56 ?_
              refine lv_topi (fun x_3446 he_x_3446 => ?_)
              have hq_x_3446 := z_mulq he_x_3446 hk_20 (rfl : pp.toInt = _) (by omega) (by omega)
              refine lv_iload hx hb dX12_feltWorth_57 (lv_at hl 7 rfl) ?_
              refine lv_iadd hx hb dX12_feltWorth_59 ?_
              refine lv_topi (fun x_3447 he_x_3447 => ?_)
              have hq_x_3447 := z_addq he_x_3447 (rfl : x_3446.toInt = _) (rfl : v_3408.toInt = _) (by omega) (by omega)
              refine va_lald hx hb hK hP 3 1 rfl rfl (z_inN (by omega) (by omega)) dX12_feltWorth_60 ?_
              refine lv_topl (fun x_3448 he_x_3448 => ?_)
              refine lv_aload_n hx hb dX12_feltWorth_61 rfl (lv_at hl 0 rfl) ?_
              refine lv_aload_n hx hb dX12_feltWorth_62 rfl (lv_at hl 0 rfl) ?_
              refine va_get (D := G) (ci := 12) (v := .ref a_there) (C := RX12) (T := TX12) (N := 65) hx hb hts inT12 hown hK hP 0 rfl rfl 23 (by decide) (hts _ tw_1908) (fun _ h9 => h9) rfl dX12_feltWorth_63 ?_
              refine lv_iload hx hb dX12_feltWorth_66 (lv_at hl 7 rfl) ?_
              refine lv_iconst (v := 2) hx hb dX12_feltWorth_68 (by decide) ?_
              refine lv_idiv hx hb dX12_feltWorth_69 (by decide +kernel) ?_
              refine lv_topi (fun x_3449 he_x_3449 => ?_)
              have hq_x_3449 := z_divq he_x_3449 (rfl : v_3408.toInt = _) hk_2 (by omega) (by decide)
              refine va_iald hx hb hK hP 2 0 rfl rfl (z_inN (by omega) (by omega)) dX12_feltWorth_70 ?_
              refine lv_topi (fun x_3450 he_x_3450 => ?_)
              have hr_x_3450 := z_rg hC_g_there he_x_3450 (by omega) (by omega)
              refine lv_iload hx hb dX12_feltWorth_71 (lv_at hl 4 rfl) ?_
              refine lv_iload hx hb dX12_feltWorth_73 (lv_at hl 7 rfl) ?_
              refine lv_iconst (v := 2) hx hb dX12_feltWorth_75 (by decide) ?_
              refine lv_irem hx hb dX12_feltWorth_76 (by decide +kernel) ?_
              refine lv_topi (fun x_3451 he_x_3451 => ?_)
              have hq_x_3451 := z_remq he_x_3451 (rfl : v_3408.toInt = _) hk_2 (by omega) (by decide)
              refine lv_iload hx hb dX12_feltWorth_77 (lv_at hl 6 rfl) ?_
              refine z_callVi (As := [.int x_3450, .int f, .int x_3451, .int v_2472]) (rest := [.long x_3448, .int x_3445, .ref a_weights]) (wr := [(a_there, .inl (cA.1 0, 10, .inl g_there)), (a_weights, .inl (cA.1 1, 100, .inr (.inl g_3409)))]) ⟨hx, hb, hml, hown, hts⟩ hK hE hT hP hD hS hA (r_felt l G cA h0 m_status m_thrown m_above m_under a_traySort a_trayMany a_numbers a_tape m_taped m_textEnd m_faultKind m_faultAt m_bad m_badAt m_token m_at m_behind m_number m_letters m_word a_c a_words m_markMany a_there a_tried a_best a_found m_thereMany m_foundMany m_orderHow m_orderRing m_orderMany m_hasBest m_bestTop m_bestBy a_weights a_shared m_random m_truePlace m_trueWay m_seconds m_done m_feelings m_tries m_leftOver m_playDoor m_playRing m_isOpen m_isOver m_wasTried m_hasPlayed a_feltNow a_last a_kept m_hasSeconds m_hasTurned m_hasRound a_hasFeels a_isOn v_2473 m_meanTop m_meanBy a_order m_rowMany m_newSteps g_c x_3450 f x_3451 v_2472 hr_x_3450 hr_f (by omega) (by omega) hC_g_c) lk_RX12_329 ⟨rfl, rfl⟩ ⟨Nat.le_of_ble_eq_true rfl, Nat.le_of_ble_eq_true rfl⟩ 12 rfl rfl rfl [0, 1] [2, 3] rfl rfl (by decide) rfl hl.1 rfl (lv_room (Nat.le_of_ble_eq_true rfl)) dX12_feltWorth_79 ⟨Nat.le_of_ble_eq_true rfl, Nat.le_of_ble_eq_true rfl⟩ (fun r_3452 u_3453 H locs hw hP hD hS => ?_)
              obtain ⟨hr_r_3452, hf_3454⟩ := hw
              refine lv_i2l (v := (r_3452).toInt64) hx hb dX12_feltWorth_82 rfl ?_
              refine lv_topl (fun x_3455 he_x_3455 => ?_)
              have hq_x_3455 := z_i2l he_x_3455
              refine lv_lmul hx hb dX12_feltWorth_83 ?_
              have hL_x_3448 := z_fulll x_3448
              refine lv_topl (fun x_3456 he_x_3456 => ?_)
              refine z_last hx hb hK hP hD hS 1 1 rfl rfl (z_inN (by omega) (by omega)) dX12_feltWorth_84 (fun g_3457 hg_g_3457 H locs hP hD hS => ?_)
              obtain ⟨x_3458, he_x_3458⟩ : ∃ z : Int32, z = v_3408 + 1 := ⟨_, rfl⟩
              have hq_x_3458 := z_addq he_x_3458 (rfl : v_3408.toInt = _) hk_1 (by omega) (by omega)
              refine lv_iinc (v := x_3458) (lv' := [(8, .int x_3458), (0, .ref h0), (1, .int pp), (2, .int 2), (3, .int d), (4, .int f), (5, .long v_2471), (7, .int v_2472)]) hx hb dX12_feltWorth_85 hl (k := 7) rfl ((z_ofi (by decide +kernel)).trans he_x_3458.symm) (by decide) rfl (fun ls hl => ?_)
              refine lv_goto (tgt := 24) hx hb dX12_feltWorth_88 (by decide) ?_
              have hP := hP.sub (ws' := [(h0, .inr (12, [.int m_status, .int m_thrown, .long m_above, .long m_under, .ref a_traySort, .ref a_trayMany, .ref a_numbers, .ref a_tape, .int m_taped, .int m_textEnd, .int m_faultKind, .int m_faultAt, .int m_bad, .int m_badAt, .int m_token, .int m_at, .int m_behind, .int m_number, .int m_letters, .long m_word, .ref a_c, .ref a_words, .int m_markMany, .ref a_there, .ref a_tried, .ref a_best, .ref a_found, .int m_thereMany, .int m_foundMany, .int m_orderHow, .int m_orderRing, .int m_orderMany, .int m_hasBest, .long m_bestTop, .long m_bestBy, .ref a_weights, .ref a_shared, .int m_random, .int m_truePlace, .int m_trueWay, .int m_seconds, .int m_done, .int m_feelings, .int m_tries, .int m_leftOver, .int m_playDoor, .int m_playRing, .int m_isOpen, .int m_isOver, .int m_wasTried, .int m_hasPlayed, .ref a_feltNow, .ref a_last, .ref a_kept, .int m_hasSeconds, .int m_hasTurned, .int m_hasRound, .ref a_hasFeels, .ref a_isOn, .int v_2473, .long m_meanTop, .long m_meanBy, .ref a_order, .int m_rowMany, .int m_newSteps])), (a_c, .inl (cA.1 0, 1825, .inl g_c)), (a_there, .inl (cA.1 0, 10, .inl g_there)), (a_weights, .inl (cA.1 1, 100, .inr (.inl g_3457)))]) [2, 3, 0, 1] rfl
              have hD := hD.sub (ws' := [(h0, .inr (12, [.int m_status, .int m_thrown, .long m_above, .long m_under, .ref a_traySort, .ref a_trayMany, .ref a_numbers, .ref a_tape, .int m_taped, .int m_textEnd, .int m_faultKind, .int m_faultAt, .int m_bad, .int m_badAt, .int m_token, .int m_at, .int m_behind, .int m_number, .int m_letters, .long m_word, .ref a_c, .ref a_words, .int m_markMany, .ref a_there, .ref a_tried, .ref a_best, .ref a_found, .int m_thereMany, .int m_foundMany, .int m_orderHow, .int m_orderRing, .int m_orderMany, .int m_hasBest, .long m_bestTop, .long m_bestBy, .ref a_weights, .ref a_shared, .int m_random, .int m_truePlace, .int m_trueWay, .int m_seconds, .int m_done, .int m_feelings, .int m_tries, .int m_leftOver, .int m_playDoor, .int m_playRing, .int m_isOpen, .int m_isOver, .int m_wasTried, .int m_hasPlayed, .ref a_feltNow, .ref a_last, .ref a_kept, .int m_hasSeconds, .int m_hasTurned, .int m_hasRound, .ref a_hasFeels, .ref a_isOn, .int v_2473, .long m_meanTop, .long m_meanBy, .ref a_order, .int m_rowMany, .int m_newSteps])), (a_c, .inl (cA.1 0, 1825, .inl g_c)), (a_there, .inl (cA.1 0, 10, .inl g_there)), (a_weights, .inl (cA.1 1, 100, .inr (.inl g_3457)))]) [2, 3, 0, 1] (by decide) rfl
              exact ih_3431 x_3458 g_3457 H locs ls (by omega) (by omega) hP hD hS (lv_sub hl [1, 2, 3, 4, 5, 6, 7, 0] rfl)
        exact hlp_3430 _ 0 g_2474 _ _ _ (Nat.lt_succ_self _) (by decide +kernel) hP hD hS (lv_sub hl [1, 2, 3, 4, 5, 6, 7, 0] rfl)
  exact hlp_2966 _ 0 0 m_firstAct g_weights _ _ _ (Nat.lt_succ_self _) (by decide +kernel) hP hD hS (lv_sub hl [2, 3, 4, 5, 6, 1, 0] rfl)
set_option maxHeartbeats 4000000 in
set_option maxRecDepth 100000 in
theorem r_worthOf_2 (l : Launch) (G : va_G) (cA : zCA) (h0 : Nat) (m_status : Int32) (m_thrown : Int32) (m_above : Int64) (m_under : Int64) (a_traySort : Nat) (a_trayMany : Nat) (a_numbers : Nat) (a_tape : Nat) (m_taped : Int32) (m_textEnd : Int32) (m_faultKind : Int32) (m_faultAt : Int32) (m_bad : Int32) (m_badAt : Int32) (m_token : Int32) (m_at : Int32) (m_behind : Int32) (m_number : Int32) (m_letters : Int32) (m_word : Int64) (a_c : Nat) (a_words : Nat) (m_markMany : Int32) (a_there : Nat) (a_tried : Nat) (a_best : Nat) (a_found : Nat) (m_thereMany : Int32) (m_foundMany : Int32) (m_orderHow : Int32) (m_orderRing : Int32) (m_orderMany : Int32) (m_hasBest : Int32) (m_bestTop : Int64) (m_bestBy : Int64) (a_weights : Nat) (a_shared : Nat) (m_random : Int32) (m_truePlace : Int32) (m_trueWay : Int32) (m_seconds : Int32) (m_done : Int32) (m_feelings : Int32) (m_tries : Int32) (m_leftOver : Int32) (m_playDoor : Int32) (m_playRing : Int32) (m_isOpen : Int32) (m_isOver : Int32) (m_wasTried : Int32) (m_hasPlayed : Int32) (a_feltNow : Nat) (a_last : Nat) (a_kept : Nat) (m_hasSeconds : Int32) (m_hasTurned : Int32) (m_hasRound : Int32) (a_hasFeels : Nat) (a_isOn : Nat) (m_firstAct : Int32) (m_meanTop : Int64) (m_meanBy : Int64) (a_order : Nat) (m_rowMany : Int32) (m_newSteps : Int32) (g_c : Nat → Int32) (g_there : Nat → Int32) (g_weights : Nat → Int64) (pp : Int32) (d : Int32) (hr_pp : 0 ≤ pp.toInt ∧ pp.toInt ≤ 2) (hr_d : 0 ≤ d.toInt ∧ d.toInt ≤ 4) (hr_m_thereMany : 0 ≤ m_thereMany.toInt ∧ m_thereMany.toInt ≤ 10) (hC_g_c : zC g_c) (hC_g_there : zRg 10 0 9 g_there) : zCl l yX12_worthOf cX12_worthOf 10 (some .long) ({ frames := 5, cells := 0, slots := 0, locals := 133 }) G cA [.ref h0, .int pp, .int 2, .int d] [(h0, .inr (12, [.int m_status, .int m_thrown, .long m_above, .long m_under, .ref a_traySort, .ref a_trayMany, .ref a_numbers, .ref a_tape, .int m_taped, .int m_textEnd, .int m_faultKind, .int m_faultAt, .int m_bad, .int m_badAt, .int m_token, .int m_at, .int m_behind, .int m_number, .int m_letters, .long m_word, .ref a_c, .ref a_words, .int m_markMany, .ref a_there, .ref a_tried, .ref a_best, .ref a_found, .int m_thereMany, .int m_foundMany, .int m_orderHow, .int m_orderRing, .int m_orderMany, .int m_hasBest, .long m_bestTop, .long m_bestBy, .ref a_weights, .ref a_shared, .int m_random, .int m_truePlace, .int m_trueWay, .int m_seconds, .int m_done, .int m_feelings, .int m_tries, .int m_leftOver, .int m_playDoor, .int m_playRing, .int m_isOpen, .int m_isOver, .int m_wasTried, .int m_hasPlayed, .ref a_feltNow, .ref a_last, .ref a_kept, .int m_hasSeconds, .int m_hasTurned, .int m_hasRound, .ref a_hasFeels, .ref a_isOn, .int m_firstAct, .long m_meanTop, .long m_meanBy, .ref a_order, .int m_rowMany, .int m_newSteps])), (a_c, .inl (cA.1 0, 1825, .inl g_c)), (a_there, .inl (cA.1 0, 10, .inl g_there)), (a_weights, .inl (cA.1 1, 100, .inr (.inl g_weights)))] (S := Int32 × (Nat → Int64)) (fun (r : Int64) (u : Int32 × (Nat → Int64)) => True) (fun (u : Int32 × (Nat → Int64)) => [(h0, .inr (12, [.int m_status, .int m_thrown, .long m_above, .long m_under, .ref a_traySort, .ref a_trayMany, .ref a_numbers, .ref a_tape, .int m_taped, .int m_textEnd, .int m_faultKind, .int m_faultAt, .int m_bad, .int m_badAt, .int m_token, .int m_at, .int m_behind, .int m_number, .int m_letters, .long m_word, .ref a_c, .ref a_words, .int m_markMany, .ref a_there, .ref a_tried, .ref a_best, .ref a_found, .int m_thereMany, .int m_foundMany, .int m_orderHow, .int m_orderRing, .int m_orderMany, .int m_hasBest, .long m_bestTop, .long m_bestBy, .ref a_weights, .ref a_shared, .int m_random, .int m_truePlace, .int m_trueWay, .int m_seconds, .int m_done, .int m_feelings, .int m_tries, .int m_leftOver, .int m_playDoor, .int m_playRing, .int m_isOpen, .int m_isOver, .int m_wasTried, .int m_hasPlayed, .ref a_feltNow, .ref a_last, .ref a_kept, .int m_hasSeconds, .int m_hasTurned, .int m_hasRound, .ref a_hasFeels, .ref a_isOn, .int u.1, .long m_meanTop, .long m_meanBy, .ref a_order, .int m_rowMany, .int m_newSteps])), (a_c, .inl (cA.1 0, 1825, .inl g_c)), (a_there, .inl (cA.1 0, 10, .inl g_there)), (a_weights, .inl (cA.1 1, 100, .inr (.inl u.2)))]) 0 0 := by
  have hk_0 : (0 : Int32).toInt = 0 := by decide +kernel
  have hk_1 : (1 : Int32).toInt = 1 := by decide +kernel
  have hk_2 : (2 : Int32).toInt = 2 := by decide +kernel
  refine z_start2l (own := RX12) (by decide) (Nat.le_of_ble_eq_true rfl) rfl ?_
  intro p e s m args below meth c A ls Q hx hb hml hts hown hK hE hT hP hD hS hA hl hret
  have hl : lv_has ls 10 [(0, .ref h0), (1, .int pp), (2, .int 2), (3, .int d)] := hl
  refine lv_iload_n hx hb dX12_worthOf_0 rfl (lv_at hl 2 rfl) ?_
  refine lv_if_ne (tgt := 6) hx hb dX12_worthOf_1 (by decide) (fun _ => ?_) (fun h9 => absurd h9 (by decide +kernel))
  refine lv_aload_n hx hb dX12_worthOf_6 rfl (lv_at hl 0 rfl) ?_
  refine lv_iload_n hx hb dX12_worthOf_7 rfl (lv_at hl 1 rfl) ?_
  refine lv_iload_n hx hb dX12_worthOf_8 rfl (lv_at hl 2 rfl) ?_
  refine lv_iload_n hx hb dX12_worthOf_9 rfl (lv_at hl 3 rfl) ?_
  refine z_callVl (As := [.int pp, .int 2, .int d]) (rest := []) (wr := []) ⟨hx, hb, hml, hown, hts⟩ hK hE hT hP hD hS hA (r_triedWorth_2 l G cA h0 m_status m_thrown m_above m_under a_traySort a_trayMany a_numbers a_tape m_taped m_textEnd m_faultKind m_faultAt m_bad m_badAt m_token m_at m_behind m_number m_letters m_word a_c a_words m_markMany a_there a_tried a_best a_found m_thereMany m_foundMany m_orderHow m_orderRing m_orderMany m_hasBest m_bestTop m_bestBy a_weights a_shared m_random m_truePlace m_trueWay m_seconds m_done m_feelings m_tries m_leftOver m_playDoor m_playRing m_isOpen m_isOver m_wasTried m_hasPlayed a_feltNow a_last a_kept m_hasSeconds m_hasTurned m_hasRound a_hasFeels a_isOn m_firstAct m_meanTop m_meanBy a_order m_rowMany m_newSteps g_c g_there g_weights pp d hr_pp hr_d hr_m_thereMany hC_g_c hC_g_there) lk_RX12_362 ⟨rfl, rfl⟩ ⟨Nat.le_of_ble_eq_true rfl, Nat.le_of_ble_eq_true rfl⟩ 12 rfl rfl rfl [0, 1, 2, 3] [] rfl rfl (by decide) rfl hl.1 rfl (lv_room (Nat.le_of_ble_eq_true rfl)) dX12_worthOf_10 ⟨Nat.le_of_ble_eq_true rfl, Nat.le_of_ble_eq_true rfl⟩ (fun r_3 u_4 H locs hw hP hD hS => ?_)
  obtain ⟨n_1, n_2⟩ := u_4
  try dsimp only at hw
  refine lv_lstore (lv' := [(4, .long r_3), (0, .ref h0), (1, .int pp), (2, .int 2), (3, .int d)]) hx hb dX12_worthOf_13 hl (by decide) rfl (fun ls hl => ?_)
  refine lv_iconst (v := 0) hx hb dX12_worthOf_15 (by decide) ?_
  refine lv_istore (lv' := [(6, .int 0), (4, .long r_3), (0, .ref h0), (1, .int pp), (2, .int 2), (3, .int d)]) hx hb dX12_worthOf_16 hl (by decide) rfl (fun ls hl => ?_)
  refine lv_aload_n hx hb dX12_worthOf_18 rfl (lv_at hl 2 rfl) ?_
  refine lv_iload_n hx hb dX12_worthOf_19 rfl (lv_at hl 3 rfl) ?_
  refine lv_iload_n hx hb dX12_worthOf_20 rfl (lv_at hl 4 rfl) ?_
  refine lv_iload_n hx hb dX12_worthOf_21 rfl (lv_at hl 5 rfl) ?_
  refine z_callVl (As := [.int pp, .int 2, .int d]) (rest := []) (wr := []) ⟨hx, hb, hml, hown, hts⟩ hK hE hT hP hD hS hA (r_goneWorth_2 l G cA h0 m_status m_thrown m_above m_under a_traySort a_trayMany a_numbers a_tape m_taped m_textEnd m_faultKind m_faultAt m_bad m_badAt m_token m_at m_behind m_number m_letters m_word a_c a_words m_markMany a_there a_tried a_best a_found m_thereMany m_foundMany m_orderHow m_orderRing m_orderMany m_hasBest m_bestTop m_bestBy a_weights a_shared m_random m_truePlace m_trueWay m_seconds m_done m_feelings m_tries m_leftOver m_playDoor m_playRing m_isOpen m_isOver m_wasTried m_hasPlayed a_feltNow a_last a_kept m_hasSeconds m_hasTurned m_hasRound a_hasFeels a_isOn n_1 m_meanTop m_meanBy a_order m_rowMany m_newSteps g_c g_there n_2 pp d hr_pp hr_d hr_m_thereMany hC_g_c hC_g_there) lk_RX12_366 ⟨rfl, rfl⟩ ⟨Nat.le_of_ble_eq_true rfl, Nat.le_of_ble_eq_true rfl⟩ 12 rfl rfl rfl [0, 1, 2, 3] [] rfl rfl (by decide) rfl hl.1 rfl (lv_room (Nat.le_of_ble_eq_true rfl)) dX12_worthOf_22 ⟨Nat.le_of_ble_eq_true rfl, Nat.le_of_ble_eq_true rfl⟩ (fun r_7 u_8 H locs hw hP hD hS => ?_)
  obtain ⟨n_5, n_6⟩ := u_8
  try dsimp only at hw
  refine lv_lstore (lv' := [(7, .long r_7), (6, .int 0), (4, .long r_3), (0, .ref h0), (1, .int pp), (2, .int 2), (3, .int d)]) hx hb dX12_worthOf_25 hl (by decide) rfl (fun ls hl => ?_)
  refine lv_lload hx hb dX12_worthOf_27 (lv_at hl 0 rfl) ?_
  refine lv_lload hx hb dX12_worthOf_29 (lv_at hl 2 rfl) ?_
  refine W.lcmp hx hb dX12_worthOf_31 ?_
  refine lv_if_le (tgt := 42) hx hb dX12_worthOf_32 (by decide) (fun c_9 => ?_) (fun c_9 => ?_)
  · have b_10 := z_fleTl c_9
    refine lv_iconst (v := 0) hx hb dX12_worthOf_42 (by decide) ?_
    refine lv_istore (lv' := [(9, .int 0), (7, .long r_7), (6, .int 0), (4, .long r_3), (0, .ref h0), (1, .int pp), (2, .int 2), (3, .int d)]) hx hb dX12_worthOf_43 hl (by decide) rfl (fun ls hl => ?_)
    have hlp_102 : ∀ (n : Nat) (v_82 : Int64) (v_83 : Int32) (v_84 : Int64) (v_85 : Int32) (v_86 : Int32) (g_87 : Nat → Int64) (H : Heap) (locs : List Loc) (ls : Array Slot), (2147483647 - v_85.toInt).toNat < n → (0 ≤ v_83.toInt ∧ v_83.toInt ≤ 4) → (0 ≤ v_85.toInt ∧ v_85.toInt ≤ 3) → va_P G vwCl [(h0, .inr (12, [.int m_status, .int m_thrown, .long m_above, .long m_under, .ref a_traySort, .ref a_trayMany, .ref a_numbers, .ref a_tape, .int m_taped, .int m_textEnd, .int m_faultKind, .int m_faultAt, .int m_bad, .int m_badAt, .int m_token, .int m_at, .int m_behind, .int m_number, .int m_letters, .long m_word, .ref a_c, .ref a_words, .int m_markMany, .ref a_there, .ref a_tried, .ref a_best, .ref a_found, .int m_thereMany, .int m_foundMany, .int m_orderHow, .int m_orderRing, .int m_orderMany, .int m_hasBest, .long m_bestTop, .long m_bestBy, .ref a_weights, .ref a_shared, .int m_random, .int m_truePlace, .int m_trueWay, .int m_seconds, .int m_done, .int m_feelings, .int m_tries, .int m_leftOver, .int m_playDoor, .int m_playRing, .int m_isOpen, .int m_isOver, .int m_wasTried, .int m_hasPlayed, .ref a_feltNow, .ref a_last, .ref a_kept, .int m_hasSeconds, .int m_hasTurned, .int m_hasRound, .ref a_hasFeels, .ref a_isOn, .int v_86, .long m_meanTop, .long m_meanBy, .ref a_order, .int m_rowMany, .int m_newSteps])), (a_c, .inl (cA.1 0, 1825, .inl g_c)), (a_there, .inl (cA.1 0, 10, .inl g_there)), (a_weights, .inl (cA.1 1, 100, .inr (.inl g_87)))] H → va_D A [(h0, .inr (12, [.int m_status, .int m_thrown, .long m_above, .long m_under, .ref a_traySort, .ref a_trayMany, .ref a_numbers, .ref a_tape, .int m_taped, .int m_textEnd, .int m_faultKind, .int m_faultAt, .int m_bad, .int m_badAt, .int m_token, .int m_at, .int m_behind, .int m_number, .int m_letters, .long m_word, .ref a_c, .ref a_words, .int m_markMany, .ref a_there, .ref a_tried, .ref a_best, .ref a_found, .int m_thereMany, .int m_foundMany, .int m_orderHow, .int m_orderRing, .int m_orderMany, .int m_hasBest, .long m_bestTop, .long m_bestBy, .ref a_weights, .ref a_shared, .int m_random, .int m_truePlace, .int m_trueWay, .int m_seconds, .int m_done, .int m_feelings, .int m_tries, .int m_leftOver, .int m_playDoor, .int m_playRing, .int m_isOpen, .int m_isOver, .int m_wasTried, .int m_hasPlayed, .ref a_feltNow, .ref a_last, .ref a_kept, .int m_hasSeconds, .int m_hasTurned, .int m_hasRound, .ref a_hasFeels, .ref a_isOn, .int v_86, .long m_meanTop, .long m_meanBy, .ref a_order, .int m_rowMany, .int m_newSteps])), (a_c, .inl (cA.1 0, 1825, .inl g_c)), (a_there, .inl (cA.1 0, 10, .inl g_there)), (a_weights, .inl (cA.1 1, 100, .inr (.inl g_87)))] → va_S A s.heap H locs → lv_has ls 10 [(0, .ref h0), (1, .int pp), (2, .int 2), (3, .int d), (4, .long v_82), (6, .int v_83), (7, .long v_84), (9, .int v_85)] → W p l e ({ frames := 5, cells := 0, slots := 0, locals := 133 }) s m args below meth c H locs 0 0 Q (F0 m 45 ls []) := by
      intro n
      induction n with
      | zero =>
        intro v_82 v_83 v_84 v_85 v_86 g_87 H locs ls hmu_hlp_102 hr_v_83 hr_v_85 hP hD hS hl
        exact absurd hmu_hlp_102 (Nat.not_lt_zero _)
      | succ n ih_103 =>
        intro v_82 v_83 v_84 v_85 v_86 g_87 H locs ls hmu_hlp_102 hr_v_83 hr_v_85 hP hD hS hl
        refine lv_iload hx hb dX12_worthOf_45 (lv_at hl 7 rfl) ?_
        refine lv_aload_n hx hb dX12_worthOf_47 rfl (lv_at hl 0 rfl) ?_
        refine va_get (D := G) (ci := 12) (v := .ref a_c) (C := RX12) (T := TX12) (N := 65) hx hb hts inT12 hown hK hP 0 rfl rfl 20 (by decide) (hts _ tw_1905) (fun _ h9 => h9) rfl dX12_worthOf_48 ?_
        refine lv_iconst (v := 0) hx hb dX12_worthOf_51 (by decide) ?_
        refine va_iald hx hb hK hP 1 0 rfl rfl (z_in (i := 0) (n := 1825) (by decide +kernel) (by decide +kernel)) dX12_worthOf_52 ?_
        refine lv_topi (fun x_104 he_x_104 => ?_)
        have hr_x_104 := z_ctk hC_g_c he_x_104 (k := 0) (lo := 0) (hi := 3) (by decide +kernel) (by decide +kernel) (by decide +kernel)
        refine lv_icmp_ge (tgt := 94) hx hb dX12_worthOf_53 (by decide) (fun c_105 => ?_) (fun c_105 => ?_)
        · have b_106 := z_fgeT c_105
          refine lv_iload_n hx hb dX12_worthOf_94 rfl (lv_at hl 1 rfl) ?_
          refine lv_if_ne (tgt := 104) hx hb dX12_worthOf_95 (by decide) (fun c_107 => ?_) (fun c_107 => ?_)
          · have b_108 := z_fneT c_107
            refine lv_lload hx hb dX12_worthOf_104 (lv_at hl 4 rfl) ?_
            exact hret _ _ _ _ _ _ (v_86, g_87) [0, 1, 2, 3] hP hD hS rfl (by decide) dX12_worthOf_106 trivial
          · have b_109 := z_feqF c_107
            refine lv_aload_n hx hb dX12_worthOf_98 rfl (lv_at hl 0 rfl) ?_
            refine lv_iload hx hb dX12_worthOf_99 (lv_at hl 5 rfl) ?_
            refine va_put (D := G) (ci := 12) (v := .int v_83) (ty := .int) (C := RX12) (T := TX12) (N := 65) hx hb hts inT12 tyX12 tyX12_ok nmX12 hown hK hP hD hS 0 rfl rfl 59 (by decide) (hts _ tw_1942) (fun _ h9 => h9) rfl (tyX12_ok 59 (by decide)) rfl rfl (Nat.le_of_ble_eq_true rfl) dX12_worthOf_101 (fun H locs hP hD hS => ?_)
            refine lv_lload hx hb dX12_worthOf_104 (lv_at hl 4 rfl) ?_
            exact hret _ _ _ _ _ _ (v_83, g_87) [0, 1, 2, 3] hP hD hS rfl (by decide) dX12_worthOf_106 trivial
        · have b_110 := z_fltF c_105
          refine lv_aload_n hx hb dX12_worthOf_56 rfl (lv_at hl 0 rfl) ?_
          refine lv_iload_n hx hb dX12_worthOf_57 rfl (lv_at hl 1 rfl) ?_
          refine lv_iload_n hx hb dX12_worthOf_58 rfl (lv_at hl 2 rfl) ?_
          refine lv_iload_n hx hb dX12_worthOf_59 rfl (lv_at hl 3 rfl) ?_
          refine lv_iload hx hb dX12_worthOf_60 (lv_at hl 7 rfl) ?_
          refine z_callVl (As := [.int pp, .int 2, .int d, .int v_85]) (rest := []) (wr := []) ⟨hx, hb, hml, hown, hts⟩ hK hE hT hP hD hS hA (r_feltWorth_2 l G cA h0 m_status m_thrown m_above m_under a_traySort a_trayMany a_numbers a_tape m_taped m_textEnd m_faultKind m_faultAt m_bad m_badAt m_token m_at m_behind m_number m_letters m_word a_c a_words m_markMany a_there a_tried a_best a_found m_thereMany m_foundMany m_orderHow m_orderRing m_orderMany m_hasBest m_bestTop m_bestBy a_weights a_shared m_random m_truePlace m_trueWay m_seconds m_done m_feelings m_tries m_leftOver m_playDoor m_playRing m_isOpen m_isOver m_wasTried m_hasPlayed a_feltNow a_last a_kept m_hasSeconds m_hasTurned m_hasRound a_hasFeels a_isOn v_86 m_meanTop m_meanBy a_order m_rowMany m_newSteps g_c g_there g_87 pp d v_85 hr_pp hr_d (by omega) hr_m_thereMany hC_g_c hC_g_there) lk_RX12_369 ⟨rfl, rfl⟩ ⟨Nat.le_of_ble_eq_true rfl, Nat.le_of_ble_eq_true rfl⟩ 12 rfl rfl rfl [0, 1, 2, 3] [] rfl rfl (by decide) rfl hl.1 rfl (lv_room (Nat.le_of_ble_eq_true rfl)) dX12_worthOf_62 ⟨Nat.le_of_ble_eq_true rfl, Nat.le_of_ble_eq_true rfl⟩ (fun r_113 u_114 H locs hw hP hD hS => ?_)
          obtain ⟨n_111, n_112⟩ := u_114
          try dsimp only at hw
          refine lv_lstore (lv' := [(7, .long r_113), (0, .ref h0), (1, .int pp), (2, .int 2), (3, .int d), (4, .long v_82), (6, .int v_83), (9, .int v_85)]) hx hb dX12_worthOf_65 hl (by decide) rfl (fun ls hl => ?_)
          refine lv_lload hx hb dX12_worthOf_67 (lv_at hl 0 rfl) ?_
          refine lv_lload hx hb dX12_worthOf_69 (lv_at hl 5 rfl) ?_
          refine W.lcmp hx hb dX12_worthOf_71 ?_
          refine lv_if_gt (tgt := 78) hx hb dX12_worthOf_72 (by decide) (fun c_115 => ?_) (fun c_115 => ?_)
          · have b_116 := z_fgtTl c_115
            refine lv_lload hx hb dX12_worthOf_78 (lv_at hl 0 rfl) ?_
            refine lv_lstore (lv' := [(4, .long r_113), (7, .long r_113), (0, .ref h0), (1, .int pp), (2, .int 2), (3, .int d), (6, .int v_83), (9, .int v_85)]) hx hb dX12_worthOf_80 hl (by decide) rfl (fun ls hl => ?_)
            refine lv_iconst (v := 2) hx hb dX12_worthOf_82 (by decide) ?_
            refine lv_iload hx hb dX12_worthOf_83 (lv_at hl 7 rfl) ?_
            refine lv_iadd hx hb dX12_worthOf_85 ?_
            refine lv_topi (fun x_117 he_x_117 => ?_)
            have hq_x_117 := z_addq he_x_117 hk_2 (rfl : v_85.toInt = _) (by omega) (by omega)
            refine lv_istore (lv' := [(6, .int x_117), (4, .long r_113), (7, .long r_113), (0, .ref h0), (1, .int pp), (2, .int 2), (3, .int d), (9, .int v_85)]) hx hb dX12_worthOf_86 hl (by decide) rfl (fun ls hl => ?_)
            obtain ⟨x_118, he_x_118⟩ : ∃ z : Int32, z = v_85 + 1 := ⟨_, rfl⟩
            have hq_x_118 := z_addq he_x_118 (rfl : v_85.toInt = _) hk_1 (by omega) (by omega)
            refine lv_iinc (v := x_118) (lv' := [(9, .int x_118), (6, .int x_117), (4, .long r_113), (7, .long r_113), (0, .ref h0), (1, .int pp), (2, .int 2), (3, .int d)]) hx hb dX12_worthOf_88 hl (k := 7) rfl ((z_ofi (by decide +kernel)).trans he_x_118.symm) (by decide) rfl (fun ls hl => ?_)
            refine lv_goto (tgt := 45) hx hb dX12_worthOf_91 (by decide) ?_
            exact ih_103 r_113 x_117 r_113 x_118 n_111 n_112 H locs ls (by omega) (by omega) (by omega) hP hD hS (lv_sub hl [4, 5, 6, 7, 2, 1, 3, 0] rfl)
          · have b_119 := z_fleFl c_115
            refine lv_goto (tgt := 88) hx hb dX12_worthOf_75 (by decide) ?_
            obtain ⟨x_120, he_x_120⟩ : ∃ z : Int32, z = v_85 + 1 := ⟨_, rfl⟩
            have hq_x_120 := z_addq he_x_120 (rfl : v_85.toInt = _) hk_1 (by omega) (by omega)
            refine lv_iinc (v := x_120) (lv' := [(9, .int x_120), (7, .long r_113), (0, .ref h0), (1, .int pp), (2, .int 2), (3, .int d), (4, .long v_82), (6, .int v_83)]) hx hb dX12_worthOf_88 hl (k := 7) rfl ((z_ofi (by decide +kernel)).trans he_x_120.symm) (by decide) rfl (fun ls hl => ?_)
            refine lv_goto (tgt := 45) hx hb dX12_worthOf_91 (by decide) ?_
            exact ih_103 v_82 v_83 r_113 x_120 n_111 n_112 H locs ls (by omega) hr_v_83 (by omega) hP hD hS (lv_sub hl [2, 3, 4, 5, 6, 7, 1, 0] rfl)
    exact hlp_102 _ r_3 0 r_7 0 n_5 n_6 _ _ _ (Nat.lt_succ_self _) (by decide +kernel) (by decide +kernel) hP hD hS (lv_sub hl [4, 5, 6, 7, 3, 2, 1, 0] rfl)
  · have b_121 := z_fgtFl c_9
    refine lv_lload hx hb dX12_worthOf_35 (lv_at hl 0 rfl) ?_
    refine lv_lstore (lv' := [(4, .long r_7), (7, .long r_7), (6, .int 0), (0, .ref h0), (1, .int pp), (2, .int 2), (3, .int d)]) hx hb dX12_worthOf_37 hl (by decide) rfl (fun ls hl => ?_)
    refine lv_iconst (v := 1) hx hb dX12_worthOf_39 (by decide) ?_
    refine lv_istore (lv' := [(6, .int 1), (4, .long r_7), (7, .long r_7), (0, .ref h0), (1, .int pp), (2, .int 2), (3, .int d)]) hx hb dX12_worthOf_40 hl (by decide) rfl (fun ls hl => ?_)
    refine lv_iconst (v := 0) hx hb dX12_worthOf_42 (by decide) ?_
    refine lv_istore (lv' := [(9, .int 0), (6, .int 1), (4, .long r_7), (7, .long r_7), (0, .ref h0), (1, .int pp), (2, .int 2), (3, .int d)]) hx hb dX12_worthOf_43 hl (by decide) rfl (fun ls hl => ?_)
    have hlp_213 : ∀ (n : Nat) (v_193 : Int64) (v_194 : Int32) (v_195 : Int64) (v_196 : Int32) (v_197 : Int32) (g_198 : Nat → Int64) (H : Heap) (locs : List Loc) (ls : Array Slot), (2147483647 - v_196.toInt).toNat < n → (1 ≤ v_194.toInt ∧ v_194.toInt ≤ 4) → (0 ≤ v_196.toInt ∧ v_196.toInt ≤ 3) → va_P G vwCl [(h0, .inr (12, [.int m_status, .int m_thrown, .long m_above, .long m_under, .ref a_traySort, .ref a_trayMany, .ref a_numbers, .ref a_tape, .int m_taped, .int m_textEnd, .int m_faultKind, .int m_faultAt, .int m_bad, .int m_badAt, .int m_token, .int m_at, .int m_behind, .int m_number, .int m_letters, .long m_word, .ref a_c, .ref a_words, .int m_markMany, .ref a_there, .ref a_tried, .ref a_best, .ref a_found, .int m_thereMany, .int m_foundMany, .int m_orderHow, .int m_orderRing, .int m_orderMany, .int m_hasBest, .long m_bestTop, .long m_bestBy, .ref a_weights, .ref a_shared, .int m_random, .int m_truePlace, .int m_trueWay, .int m_seconds, .int m_done, .int m_feelings, .int m_tries, .int m_leftOver, .int m_playDoor, .int m_playRing, .int m_isOpen, .int m_isOver, .int m_wasTried, .int m_hasPlayed, .ref a_feltNow, .ref a_last, .ref a_kept, .int m_hasSeconds, .int m_hasTurned, .int m_hasRound, .ref a_hasFeels, .ref a_isOn, .int v_197, .long m_meanTop, .long m_meanBy, .ref a_order, .int m_rowMany, .int m_newSteps])), (a_c, .inl (cA.1 0, 1825, .inl g_c)), (a_there, .inl (cA.1 0, 10, .inl g_there)), (a_weights, .inl (cA.1 1, 100, .inr (.inl g_198)))] H → va_D A [(h0, .inr (12, [.int m_status, .int m_thrown, .long m_above, .long m_under, .ref a_traySort, .ref a_trayMany, .ref a_numbers, .ref a_tape, .int m_taped, .int m_textEnd, .int m_faultKind, .int m_faultAt, .int m_bad, .int m_badAt, .int m_token, .int m_at, .int m_behind, .int m_number, .int m_letters, .long m_word, .ref a_c, .ref a_words, .int m_markMany, .ref a_there, .ref a_tried, .ref a_best, .ref a_found, .int m_thereMany, .int m_foundMany, .int m_orderHow, .int m_orderRing, .int m_orderMany, .int m_hasBest, .long m_bestTop, .long m_bestBy, .ref a_weights, .ref a_shared, .int m_random, .int m_truePlace, .int m_trueWay, .int m_seconds, .int m_done, .int m_feelings, .int m_tries, .int m_leftOver, .int m_playDoor, .int m_playRing, .int m_isOpen, .int m_isOver, .int m_wasTried, .int m_hasPlayed, .ref a_feltNow, .ref a_last, .ref a_kept, .int m_hasSeconds, .int m_hasTurned, .int m_hasRound, .ref a_hasFeels, .ref a_isOn, .int v_197, .long m_meanTop, .long m_meanBy, .ref a_order, .int m_rowMany, .int m_newSteps])), (a_c, .inl (cA.1 0, 1825, .inl g_c)), (a_there, .inl (cA.1 0, 10, .inl g_there)), (a_weights, .inl (cA.1 1, 100, .inr (.inl g_198)))] → va_S A s.heap H locs → lv_has ls 10 [(0, .ref h0), (1, .int pp), (2, .int 2), (3, .int d), (4, .long v_193), (6, .int v_194), (7, .long v_195), (9, .int v_196)] → W p l e ({ frames := 5, cells := 0, slots := 0, locals := 133 }) s m args below meth c H locs 0 0 Q (F0 m 45 ls []) := by
      intro n
      induction n with
      | zero =>
        intro v_193 v_194 v_195 v_196 v_197 g_198 H locs ls hmu_hlp_213 hr_v_194 hr_v_196 hP hD hS hl
        exact absurd hmu_hlp_213 (Nat.not_lt_zero _)
      | succ n ih_214 =>
        intro v_193 v_194 v_195 v_196 v_197 g_198 H locs ls hmu_hlp_213 hr_v_194 hr_v_196 hP hD hS hl
        refine lv_iload hx hb dX12_worthOf_45 (lv_at hl 7 rfl) ?_
        refine lv_aload_n hx hb dX12_worthOf_47 rfl (lv_at hl 0 rfl) ?_
        refine va_get (D := G) (ci := 12) (v := .ref a_c) (C := RX12) (T := TX12) (N := 65) hx hb hts inT12 hown hK hP 0 rfl rfl 20 (by decide) (hts _ tw_1905) (fun _ h9 => h9) rfl dX12_worthOf_48 ?_
        refine lv_iconst (v := 0) hx hb dX12_worthOf_51 (by decide) ?_
        refine va_iald hx hb hK hP 1 0 rfl rfl (z_in (i := 0) (n := 1825) (by decide +kernel) (by decide +kernel)) dX12_worthOf_52 ?_
        refine lv_topi (fun x_215 he_x_215 => ?_)
        have hr_x_215 := z_ctk hC_g_c he_x_215 (k := 0) (lo := 0) (hi := 3) (by decide +kernel) (by decide +kernel) (by decide +kernel)
        refine lv_icmp_ge (tgt := 94) hx hb dX12_worthOf_53 (by decide) (fun c_216 => ?_) (fun c_216 => ?_)
        · have b_217 := z_fgeT c_216
          refine lv_iload_n hx hb dX12_worthOf_94 rfl (lv_at hl 1 rfl) ?_
          refine lv_if_ne (tgt := 104) hx hb dX12_worthOf_95 (by decide) (fun c_218 => ?_) (fun c_218 => ?_)
          · have b_219 := z_fneT c_218
            refine lv_lload hx hb dX12_worthOf_104 (lv_at hl 4 rfl) ?_
            exact hret _ _ _ _ _ _ (v_197, g_198) [0, 1, 2, 3] hP hD hS rfl (by decide) dX12_worthOf_106 trivial
          · have b_220 := z_feqF c_218
            refine lv_aload_n hx hb dX12_worthOf_98 rfl (lv_at hl 0 rfl) ?_
            refine lv_iload hx hb dX12_worthOf_99 (lv_at hl 5 rfl) ?_
            refine va_put (D := G) (ci := 12) (v := .int v_194) (ty := .int) (C := RX12) (T := TX12) (N := 65) hx hb hts inT12 tyX12 tyX12_ok nmX12 hown hK hP hD hS 0 rfl rfl 59 (by decide) (hts _ tw_1942) (fun _ h9 => h9) rfl (tyX12_ok 59 (by decide)) rfl rfl (Nat.le_of_ble_eq_true rfl) dX12_worthOf_101 (fun H locs hP hD hS => ?_)
            refine lv_lload hx hb dX12_worthOf_104 (lv_at hl 4 rfl) ?_
            exact hret _ _ _ _ _ _ (v_194, g_198) [0, 1, 2, 3] hP hD hS rfl (by decide) dX12_worthOf_106 trivial
        · have b_221 := z_fltF c_216
          refine lv_aload_n hx hb dX12_worthOf_56 rfl (lv_at hl 0 rfl) ?_
          refine lv_iload_n hx hb dX12_worthOf_57 rfl (lv_at hl 1 rfl) ?_
          refine lv_iload_n hx hb dX12_worthOf_58 rfl (lv_at hl 2 rfl) ?_
          refine lv_iload_n hx hb dX12_worthOf_59 rfl (lv_at hl 3 rfl) ?_
          refine lv_iload hx hb dX12_worthOf_60 (lv_at hl 7 rfl) ?_
          refine z_callVl (As := [.int pp, .int 2, .int d, .int v_196]) (rest := []) (wr := []) ⟨hx, hb, hml, hown, hts⟩ hK hE hT hP hD hS hA (r_feltWorth_2 l G cA h0 m_status m_thrown m_above m_under a_traySort a_trayMany a_numbers a_tape m_taped m_textEnd m_faultKind m_faultAt m_bad m_badAt m_token m_at m_behind m_number m_letters m_word a_c a_words m_markMany a_there a_tried a_best a_found m_thereMany m_foundMany m_orderHow m_orderRing m_orderMany m_hasBest m_bestTop m_bestBy a_weights a_shared m_random m_truePlace m_trueWay m_seconds m_done m_feelings m_tries m_leftOver m_playDoor m_playRing m_isOpen m_isOver m_wasTried m_hasPlayed a_feltNow a_last a_kept m_hasSeconds m_hasTurned m_hasRound a_hasFeels a_isOn v_197 m_meanTop m_meanBy a_order m_rowMany m_newSteps g_c g_there g_198 pp d v_196 hr_pp hr_d (by omega) hr_m_thereMany hC_g_c hC_g_there) lk_RX12_369 ⟨rfl, rfl⟩ ⟨Nat.le_of_ble_eq_true rfl, Nat.le_of_ble_eq_true rfl⟩ 12 rfl rfl rfl [0, 1, 2, 3] [] rfl rfl (by decide) rfl hl.1 rfl (lv_room (Nat.le_of_ble_eq_true rfl)) dX12_worthOf_62 ⟨Nat.le_of_ble_eq_true rfl, Nat.le_of_ble_eq_true rfl⟩ (fun r_224 u_225 H locs hw hP hD hS => ?_)
          obtain ⟨n_222, n_223⟩ := u_225
          try dsimp only at hw
          refine lv_lstore (lv' := [(7, .long r_224), (0, .ref h0), (1, .int pp), (2, .int 2), (3, .int d), (4, .long v_193), (6, .int v_194), (9, .int v_196)]) hx hb dX12_worthOf_65 hl (by decide) rfl (fun ls hl => ?_)
          refine lv_lload hx hb dX12_worthOf_67 (lv_at hl 0 rfl) ?_
          refine lv_lload hx hb dX12_worthOf_69 (lv_at hl 5 rfl) ?_
          refine W.lcmp hx hb dX12_worthOf_71 ?_
          refine lv_if_gt (tgt := 78) hx hb dX12_worthOf_72 (by decide) (fun c_226 => ?_) (fun c_226 => ?_)
          · have b_227 := z_fgtTl c_226
            refine lv_lload hx hb dX12_worthOf_78 (lv_at hl 0 rfl) ?_
            refine lv_lstore (lv' := [(4, .long r_224), (7, .long r_224), (0, .ref h0), (1, .int pp), (2, .int 2), (3, .int d), (6, .int v_194), (9, .int v_196)]) hx hb dX12_worthOf_80 hl (by decide) rfl (fun ls hl => ?_)
            refine lv_iconst (v := 2) hx hb dX12_worthOf_82 (by decide) ?_
            refine lv_iload hx hb dX12_worthOf_83 (lv_at hl 7 rfl) ?_
            refine lv_iadd hx hb dX12_worthOf_85 ?_
            refine lv_topi (fun x_228 he_x_228 => ?_)
            have hq_x_228 := z_addq he_x_228 hk_2 (rfl : v_196.toInt = _) (by omega) (by omega)
            refine lv_istore (lv' := [(6, .int x_228), (4, .long r_224), (7, .long r_224), (0, .ref h0), (1, .int pp), (2, .int 2), (3, .int d), (9, .int v_196)]) hx hb dX12_worthOf_86 hl (by decide) rfl (fun ls hl => ?_)
            obtain ⟨x_229, he_x_229⟩ : ∃ z : Int32, z = v_196 + 1 := ⟨_, rfl⟩
            have hq_x_229 := z_addq he_x_229 (rfl : v_196.toInt = _) hk_1 (by omega) (by omega)
            refine lv_iinc (v := x_229) (lv' := [(9, .int x_229), (6, .int x_228), (4, .long r_224), (7, .long r_224), (0, .ref h0), (1, .int pp), (2, .int 2), (3, .int d)]) hx hb dX12_worthOf_88 hl (k := 7) rfl ((z_ofi (by decide +kernel)).trans he_x_229.symm) (by decide) rfl (fun ls hl => ?_)
            refine lv_goto (tgt := 45) hx hb dX12_worthOf_91 (by decide) ?_
            exact ih_214 r_224 x_228 r_224 x_229 n_222 n_223 H locs ls (by omega) (by omega) (by omega) hP hD hS (lv_sub hl [4, 5, 6, 7, 2, 1, 3, 0] rfl)
          · have b_230 := z_fleFl c_226
            refine lv_goto (tgt := 88) hx hb dX12_worthOf_75 (by decide) ?_
            obtain ⟨x_231, he_x_231⟩ : ∃ z : Int32, z = v_196 + 1 := ⟨_, rfl⟩
            have hq_x_231 := z_addq he_x_231 (rfl : v_196.toInt = _) hk_1 (by omega) (by omega)
            refine lv_iinc (v := x_231) (lv' := [(9, .int x_231), (7, .long r_224), (0, .ref h0), (1, .int pp), (2, .int 2), (3, .int d), (4, .long v_193), (6, .int v_194)]) hx hb dX12_worthOf_88 hl (k := 7) rfl ((z_ofi (by decide +kernel)).trans he_x_231.symm) (by decide) rfl (fun ls hl => ?_)
            refine lv_goto (tgt := 45) hx hb dX12_worthOf_91 (by decide) ?_
            exact ih_214 v_193 v_194 r_224 x_231 n_222 n_223 H locs ls (by omega) hr_v_194 (by omega) hP hD hS (lv_sub hl [2, 3, 4, 5, 6, 7, 1, 0] rfl)
    exact hlp_213 _ r_7 1 r_7 0 n_5 n_6 _ _ _ (Nat.lt_succ_self _) (by decide +kernel) (by decide +kernel) hP hD hS (lv_sub hl [4, 5, 6, 7, 2, 1, 3, 0] rfl)
