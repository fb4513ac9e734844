set_option maxHeartbeats 4000000 in
set_option maxRecDepth 100000 in
theorem r_goneWorth_4 (l : Launch) (G : va_G) (cA : zCA) (h0 : Nat) (m_status : Int32) (m_thrown : Int32) (m_above : Int64) (m_under : Int64) (a_traySort : Nat) (a_trayMany : Nat) (a_numbers : Nat) (a_tape : Nat) (m_taped : Int32) (m_textEnd : Int32) (m_faultKind : Int32) (m_faultAt : Int32) (m_bad : Int32) (m_badAt : Int32) (m_token : Int32) (m_at : Int32) (m_behind : Int32) (m_number : Int32) (m_letters : Int32) (m_word : Int64) (a_c : Nat) (a_words : Nat) (m_markMany : Int32) (a_there : Nat) (a_tried : Nat) (a_best : Nat) (a_found : Nat) (m_thereMany : Int32) (m_foundMany : Int32) (m_orderHow : Int32) (m_orderRing : Int32) (m_orderMany : Int32) (m_hasBest : Int32) (m_bestTop : Int64) (m_bestBy : Int64) (a_weights : Nat) (a_shared : Nat) (m_random : Int32) (m_truePlace : Int32) (m_trueWay : Int32) (m_seconds : Int32) (m_done : Int32) (m_feelings : Int32) (m_tries : Int32) (m_leftOver : Int32) (m_playDoor : Int32) (m_playRing : Int32) (m_isOpen : Int32) (m_isOver : Int32) (m_wasTried : Int32) (m_hasPlayed : Int32) (a_feltNow : Nat) (a_last : Nat) (a_kept : Nat) (m_hasSeconds : Int32) (m_hasTurned : Int32) (m_hasRound : Int32) (a_hasFeels : Nat) (a_isOn : Nat) (m_firstAct : Int32) (m_meanTop : Int64) (m_meanBy : Int64) (a_order : Nat) (m_rowMany : Int32) (m_newSteps : Int32) (g_c : Nat → Int32) (g_there : Nat → Int32) (g_weights : Nat → Int64) (pp : Int32) (d : Int32) (hr_pp : 0 ≤ pp.toInt ∧ pp.toInt ≤ 0) (hr_d : 0 ≤ d.toInt ∧ d.toInt ≤ 4) (hr_m_thereMany : 0 ≤ m_thereMany.toInt ∧ m_thereMany.toInt ≤ 10) (hC_g_c : zC g_c) (hC_g_there : zRg 10 0 9 g_there) : zCl l yX12_goneWorth cX12_goneWorth 5 (some .long) ({ frames := 8, cells := 0, slots := 0, locals := 219 }) G cA [.ref h0, .int pp, .int 4, .int d] [(h0, .inr (12, [.int m_status, .int m_thrown, .long m_above, .long m_under, .ref a_traySort, .ref a_trayMany, .ref a_numbers, .ref a_tape, .int m_taped, .int m_textEnd, .int m_faultKind, .int m_faultAt, .int m_bad, .int m_badAt, .int m_token, .int m_at, .int m_behind, .int m_number, .int m_letters, .long m_word, .ref a_c, .ref a_words, .int m_markMany, .ref a_there, .ref a_tried, .ref a_best, .ref a_found, .int m_thereMany, .int m_foundMany, .int m_orderHow, .int m_orderRing, .int m_orderMany, .int m_hasBest, .long m_bestTop, .long m_bestBy, .ref a_weights, .ref a_shared, .int m_random, .int m_truePlace, .int m_trueWay, .int m_seconds, .int m_done, .int m_feelings, .int m_tries, .int m_leftOver, .int m_playDoor, .int m_playRing, .int m_isOpen, .int m_isOver, .int m_wasTried, .int m_hasPlayed, .ref a_feltNow, .ref a_last, .ref a_kept, .int m_hasSeconds, .int m_hasTurned, .int m_hasRound, .ref a_hasFeels, .ref a_isOn, .int m_firstAct, .long m_meanTop, .long m_meanBy, .ref a_order, .int m_rowMany, .int m_newSteps])), (a_c, .inl (cA.1 0, 1825, .inl g_c)), (a_there, .inl (cA.1 0, 10, .inl g_there)), (a_weights, .inl (cA.1 1, 100, .inr (.inl g_weights)))] (S := Int32 × (Nat → Int64)) (fun (r : Int64) (u : Int32 × (Nat → Int64)) => True) (fun (u : Int32 × (Nat → Int64)) => [(h0, .inr (12, [.int m_status, .int m_thrown, .long m_above, .long m_under, .ref a_traySort, .ref a_trayMany, .ref a_numbers, .ref a_tape, .int m_taped, .int m_textEnd, .int m_faultKind, .int m_faultAt, .int m_bad, .int m_badAt, .int m_token, .int m_at, .int m_behind, .int m_number, .int m_letters, .long m_word, .ref a_c, .ref a_words, .int m_markMany, .ref a_there, .ref a_tried, .ref a_best, .ref a_found, .int m_thereMany, .int m_foundMany, .int m_orderHow, .int m_orderRing, .int m_orderMany, .int m_hasBest, .long m_bestTop, .long m_bestBy, .ref a_weights, .ref a_shared, .int m_random, .int m_truePlace, .int m_trueWay, .int m_seconds, .int m_done, .int m_feelings, .int m_tries, .int m_leftOver, .int m_playDoor, .int m_playRing, .int m_isOpen, .int m_isOver, .int m_wasTried, .int m_hasPlayed, .ref a_feltNow, .ref a_last, .ref a_kept, .int m_hasSeconds, .int m_hasTurned, .int m_hasRound, .ref a_hasFeels, .ref a_isOn, .int u.1, .long m_meanTop, .long m_meanBy, .ref a_order, .int m_rowMany, .int m_newSteps])), (a_c, .inl (cA.1 0, 1825, .inl g_c)), (a_there, .inl (cA.1 0, 10, .inl g_there)), (a_weights, .inl (cA.1 1, 100, .inr (.inl u.2)))]) 0 0 := by
  have hk_0 : (0 : Int32).toInt = 0 := by decide +kernel
  have hk_1 : (1 : Int32).toInt = 1 := by decide +kernel
  have hk_2 : (2 : Int32).toInt = 2 := by decide +kernel
  have hk_3 : (3 : Int32).toInt = 3 := by decide +kernel
  have hk_20 : (20 : Int32).toInt = 20 := by decide +kernel
  refine z_start2l (own := RX12) (by decide) (Nat.le_of_ble_eq_true rfl) rfl ?_
  intro p e s m args below meth c A ls Q hx hb hml hts hown hK hE hT hP hD hS hA hl hret
  have hl : lv_has ls 5 [(0, .ref h0), (1, .int pp), (2, .int 4), (3, .int d)] := hl
  refine lv_iconst (v := 0) hx hb dX12_goneWorth_0 (by decide) ?_
  refine lv_istore (lv' := [(4, .int 0), (0, .ref h0), (1, .int pp), (2, .int 4), (3, .int d)]) hx hb dX12_goneWorth_1 hl (by decide) rfl (fun ls hl => ?_)
  have hlp_355 : ∀ (n : Nat) (v_338 : Int32) (g_339 : Nat → Int64) (H : Heap) (locs : List Loc) (ls : Array Slot), (2147483647 - v_338.toInt).toNat < n → (0 ≤ v_338.toInt ∧ v_338.toInt ≤ 20) → va_P G vwCl [(h0, .inr (12, [.int m_status, .int m_thrown, .long m_above, .long m_under, .ref a_traySort, .ref a_trayMany, .ref a_numbers, .ref a_tape, .int m_taped, .int m_textEnd, .int m_faultKind, .int m_faultAt, .int m_bad, .int m_badAt, .int m_token, .int m_at, .int m_behind, .int m_number, .int m_letters, .long m_word, .ref a_c, .ref a_words, .int m_markMany, .ref a_there, .ref a_tried, .ref a_best, .ref a_found, .int m_thereMany, .int m_foundMany, .int m_orderHow, .int m_orderRing, .int m_orderMany, .int m_hasBest, .long m_bestTop, .long m_bestBy, .ref a_weights, .ref a_shared, .int m_random, .int m_truePlace, .int m_trueWay, .int m_seconds, .int m_done, .int m_feelings, .int m_tries, .int m_leftOver, .int m_playDoor, .int m_playRing, .int m_isOpen, .int m_isOver, .int m_wasTried, .int m_hasPlayed, .ref a_feltNow, .ref a_last, .ref a_kept, .int m_hasSeconds, .int m_hasTurned, .int m_hasRound, .ref a_hasFeels, .ref a_isOn, .int m_firstAct, .long m_meanTop, .long m_meanBy, .ref a_order, .int m_rowMany, .int m_newSteps])), (a_c, .inl (cA.1 0, 1825, .inl g_c)), (a_there, .inl (cA.1 0, 10, .inl g_there)), (a_weights, .inl (cA.1 1, 100, .inr (.inl g_339)))] H → va_D A [(h0, .inr (12, [.int m_status, .int m_thrown, .long m_above, .long m_under, .ref a_traySort, .ref a_trayMany, .ref a_numbers, .ref a_tape, .int m_taped, .int m_textEnd, .int m_faultKind, .int m_faultAt, .int m_bad, .int m_badAt, .int m_token, .int m_at, .int m_behind, .int m_number, .int m_letters, .long m_word, .ref a_c, .ref a_words, .int m_markMany, .ref a_there, .ref a_tried, .ref a_best, .ref a_found, .int m_thereMany, .int m_foundMany, .int m_orderHow, .int m_orderRing, .int m_orderMany, .int m_hasBest, .long m_bestTop, .long m_bestBy, .ref a_weights, .ref a_shared, .int m_random, .int m_truePlace, .int m_trueWay, .int m_seconds, .int m_done, .int m_feelings, .int m_tries, .int m_leftOver, .int m_playDoor, .int m_playRing, .int m_isOpen, .int m_isOver, .int m_wasTried, .int m_hasPlayed, .ref a_feltNow, .ref a_last, .ref a_kept, .int m_hasSeconds, .int m_hasTurned, .int m_hasRound, .ref a_hasFeels, .ref a_isOn, .int m_firstAct, .long m_meanTop, .long m_meanBy, .ref a_order, .int m_rowMany, .int m_newSteps])), (a_c, .inl (cA.1 0, 1825, .inl g_c)), (a_there, .inl (cA.1 0, 10, .inl g_there)), (a_weights, .inl (cA.1 1, 100, .inr (.inl g_339)))] → va_S A s.heap H locs → lv_has ls 5 [(0, .ref h0), (1, .int pp), (2, .int 4), (3, .int d), (4, .int v_338)] → W p l e ({ frames := 8, cells := 0, slots := 0, locals := 219 }) s m args below meth c H locs 0 0 Q (F0 m 3 ls []) := by
    intro n
    induction n with
    | zero =>
      intro v_338 g_339 H locs ls hmu_hlp_355 hr_v_338 hP hD hS hl
      exact absurd hmu_hlp_355 (Nat.not_lt_zero _)
    | succ n ih_356 =>
      intro v_338 g_339 H locs ls hmu_hlp_355 hr_v_338 hP hD hS hl
      refine lv_iload hx hb dX12_goneWorth_3 (lv_at hl 4 rfl) ?_
      refine lv_iconst (v := 2) hx hb dX12_goneWorth_5 (by decide) ?_
      refine lv_aload_n hx hb dX12_goneWorth_6 rfl (lv_at hl 0 rfl) ?_
      refine va_get (D := G) (ci := 12) (v := .int m_thereMany) (C := RX12) (T := TX12) (N := 65) hx hb hts inT12 hown hK hP 0 rfl rfl 27 (by decide) (hts _ tw_1912) (fun _ h9 => h9) rfl dX12_goneWorth_7 ?_
      refine lv_imul hx hb dX12_goneWorth_10 ?_
      refine lv_topi (fun x_357 he_x_357 => ?_)
      have hq_x_357 := z_mulq he_x_357 hk_2 (rfl : m_thereMany.toInt = _) (by omega) (by omega)
      refine lv_icmp_ge (tgt := 51) hx hb dX12_goneWorth_11 (by decide) (fun c_358 => ?_) (fun c_358 => ?_)
      · have b_359 := z_fgeT c_358
        refine lv_ldc2 (v := 16) hx hb hown (hts _ tw_2470) dX12_goneWorth_51 ?_
        refine lv_aload_n hx hb dX12_goneWorth_54 rfl (lv_at hl 0 rfl) ?_
        refine lv_iload_n hx hb dX12_goneWorth_55 rfl (lv_at hl 1 rfl) ?_
        refine lv_iconst (v := 1) hx hb dX12_goneWorth_56 (by decide) ?_
        refine lv_iadd hx hb dX12_goneWorth_57 ?_
        refine lv_topi (fun x_360 he_x_360 => ?_)
        have hq_x_360 := z_addq he_x_360 (rfl : pp.toInt = _) hk_1 (by omega) (by omega)
        refine lv_iload_n hx hb dX12_goneWorth_58 rfl (lv_at hl 2 rfl) ?_
        refine lv_iconst (v := 1) hx hb dX12_goneWorth_59 (by decide) ?_
        refine lv_isub hx hb dX12_goneWorth_60 ?_
        refine z_topi (y := 3) (by decide +kernel) ?_
        refine lv_iload_n hx hb dX12_goneWorth_61 rfl (lv_at hl 3 rfl) ?_
        refine z_callVl (As := [.int x_360, .int 3, .int d]) (rest := [.long 16]) (wr := []) ⟨hx, hb, hml, hown, hts⟩ hK hE hT hP hD hS hA (r_worthOf_3 l G cA h0 m_status m_thrown m_above m_under a_traySort a_trayMany a_numbers a_tape m_taped m_textEnd m_faultKind m_faultAt m_bad m_badAt m_token m_at m_behind m_number m_letters m_word a_c a_words m_markMany a_there a_tried a_best a_found m_thereMany m_foundMany m_orderHow m_orderRing m_orderMany m_hasBest m_bestTop m_bestBy a_weights a_shared m_random m_truePlace m_trueWay m_seconds m_done m_feelings m_tries m_leftOver m_playDoor m_playRing m_isOpen m_isOver m_wasTried m_hasPlayed a_feltNow a_last a_kept m_hasSeconds m_hasTurned m_hasRound a_hasFeels a_isOn m_firstAct m_meanTop m_meanBy a_order m_rowMany m_newSteps g_c g_there g_339 x_360 d (by omega) hr_d hr_m_thereMany hC_g_c hC_g_there) lk_RX12_379 ⟨rfl, rfl⟩ ⟨Nat.le_of_ble_eq_true rfl, Nat.le_of_ble_eq_true rfl⟩ 12 rfl rfl rfl [0, 1, 2, 3] [] rfl rfl (by decide) rfl hl.1 rfl (lv_room (Nat.le_of_ble_eq_true rfl)) dX12_goneWorth_62 ⟨Nat.le_of_ble_eq_true rfl, Nat.le_of_ble_eq_true rfl⟩ (fun r_363 u_364 H locs hw hP hD hS => ?_)
        obtain ⟨n_361, n_362⟩ := u_364
        try dsimp only at hw
        refine lv_lmul hx hb dX12_goneWorth_65 ?_
        have hL_r_363 := z_fulll r_363
        refine lv_topl (fun x_365 he_x_365 => ?_)
        exact hret _ _ _ _ _ _ (n_361, n_362) [0, 1, 2, 3] hP hD hS rfl (by decide) dX12_goneWorth_66 trivial
      · have b_366 := z_fltF c_358
        refine lv_aload_n hx hb dX12_goneWorth_14 rfl (lv_at hl 0 rfl) ?_
        refine va_get (D := G) (ci := 12) (v := .ref a_weights) (C := RX12) (T := TX12) (N := 65) hx hb hts inT12 hown hK hP 0 rfl rfl 35 (by decide) (hts _ tw_1919) (fun _ h9 => h9) rfl dX12_goneWorth_15 ?_
        refine lv_bipush (v := 20) hx hb dX12_goneWorth_18 (by decide) ?_
        refine lv_iload_n hx hb dX12_goneWorth_20 rfl (lv_at hl 1 rfl) ?_
        refine lv_imul hx hb dX12_goneWorth_21 ?_
        refine lv_topi (fun x_367 he_x_367 => ?_)
        have hq_x_367 := z_mulq he_x_367 hk_20 (rfl : pp.toInt = _) (by omega) (by omega)
        refine lv_bipush (v := 20) hx hb dX12_goneWorth_22 (by decide) ?_
        refine lv_iadd hx hb dX12_goneWorth_24 ?_
        refine lv_topi (fun x_368 he_x_368 => ?_)
        have hq_x_368 := z_addq he_x_368 (rfl : x_367.toInt = _) hk_20 (by omega) (by omega)
        refine lv_aload_n hx hb dX12_goneWorth_25 rfl (lv_at hl 0 rfl) ?_
        refine lv_iload hx hb dX12_goneWorth_26 (lv_at hl 4 rfl) ?_
        refine z_callVi (As := [.int v_338]) (rest := [.int x_368, .ref a_weights]) (wr := [(a_c, .inl (cA.1 0, 1825, .inl g_c)), (a_there, .inl (cA.1 0, 10, .inl g_there)), (a_weights, .inl (cA.1 1, 100, .inr (.inl g_339)))]) ⟨hx, hb, hml, hown, hts⟩ hK hE hT hP hD hS hA (r_onward l G cA h0 m_status m_thrown m_above m_under a_traySort a_trayMany a_numbers a_tape m_taped m_textEnd m_faultKind m_faultAt m_bad m_badAt m_token m_at m_behind m_number m_letters m_word a_c a_words m_markMany a_there a_tried a_best a_found m_thereMany m_foundMany m_orderHow m_orderRing m_orderMany m_hasBest m_bestTop m_bestBy a_weights a_shared m_random m_truePlace m_trueWay m_seconds m_done m_feelings m_tries m_leftOver m_playDoor m_playRing m_isOpen m_isOver m_wasTried m_hasPlayed a_feltNow a_last a_kept m_hasSeconds m_hasTurned m_hasRound a_hasFeels a_isOn m_firstAct m_meanTop m_meanBy a_order m_rowMany m_newSteps v_338 (by omega) (by omega) (by omega)) lk_RX12_336 ⟨rfl, rfl⟩ ⟨Nat.le_of_ble_eq_true rfl, Nat.le_of_ble_eq_true rfl⟩ 12 rfl rfl rfl [0] [1, 2, 3] rfl rfl (by decide) rfl hl.1 rfl (lv_room (Nat.le_of_ble_eq_true rfl)) dX12_goneWorth_28 ⟨Nat.le_of_ble_eq_true rfl, Nat.le_of_ble_eq_true rfl⟩ (fun r_369 u_370 H locs hw hP hD hS => ?_)
        obtain ⟨hr_r_369, hf_371⟩ := hw
        refine lv_iadd hx hb dX12_goneWorth_31 ?_
        refine lv_topi (fun x_372 he_x_372 => ?_)
        have hq_x_372 := z_addq he_x_372 (rfl : x_368.toInt = _) (rfl : r_369.toInt = _) (by omega) (by omega)
        refine lv_aload_n hx hb dX12_goneWorth_32 rfl (lv_at hl 0 rfl) ?_
        refine va_get (D := G) (ci := 12) (v := .ref a_weights) (C := RX12) (T := TX12) (N := 65) hx hb hts inT12 hown hK hP 3 rfl rfl 35 (by decide) (hts _ tw_1919) (fun _ h9 => h9) rfl dX12_goneWorth_33 ?_
        refine lv_bipush (v := 20) hx hb dX12_goneWorth_36 (by decide) ?_
        refine lv_iload_n hx hb dX12_goneWorth_38 rfl (lv_at hl 1 rfl) ?_
        refine lv_imul hx hb dX12_goneWorth_39 ?_
        refine lv_topi (fun x_373 he_x_373 => ?_)
        have hq_x_373 := z_mulq he_x_373 hk_20 (rfl : pp.toInt = _) (by omega) (by omega)
        refine lv_iload hx hb dX12_goneWorth_40 (lv_at hl 4 rfl) ?_
        refine lv_iadd hx hb dX12_goneWorth_42 ?_
        refine lv_topi (fun x_374 he_x_374 => ?_)
        have hq_x_374 := z_addq he_x_374 (rfl : x_373.toInt = _) (rfl : v_338.toInt = _) (by omega) (by omega)
        refine va_lald hx hb hK hP 2 1 rfl rfl (z_inN (by omega) (by omega)) dX12_goneWorth_43 ?_
        refine lv_topl (fun x_375 he_x_375 => ?_)
        refine z_last hx hb hK hP hD hS 2 1 rfl rfl (z_inN (by omega) (by omega)) dX12_goneWorth_44 (fun g_376 hg_g_376 H locs hP hD hS => ?_)
        obtain ⟨x_377, he_x_377⟩ : ∃ z : Int32, z = v_338 + 1 := ⟨_, rfl⟩
        have hq_x_377 := z_addq he_x_377 (rfl : v_338.toInt = _) hk_1 (by omega) (by omega)
        refine lv_iinc (v := x_377) (lv' := [(4, .int x_377), (0, .ref h0), (1, .int pp), (2, .int 4), (3, .int d)]) hx hb dX12_goneWorth_45 hl (k := 4) rfl ((z_ofi (by decide +kernel)).trans he_x_377.symm) (by decide) rfl (fun ls hl => ?_)
        refine lv_goto (tgt := 3) hx hb dX12_goneWorth_48 (by decide) ?_
        have hP := hP.sub (ws' := [(h0, .inr (12, [.int m_status, .int m_thrown, .long m_above, .long m_under, .ref a_traySort, .ref a_trayMany, .ref a_numbers, .ref a_tape, .int m_taped, .int m_textEnd, .int m_faultKind, .int m_faultAt, .int m_bad, .int m_badAt, .int m_token, .int m_at, .int m_behind, .int m_number, .int m_letters, .long m_word, .ref a_c, .ref a_words, .int m_markMany, .ref a_there, .ref a_tried, .ref a_best, .ref a_found, .int m_thereMany, .int m_foundMany, .int m_orderHow, .int m_orderRing, .int m_orderMany, .int m_hasBest, .long m_bestTop, .long m_bestBy, .ref a_weights, .ref a_shared, .int m_random, .int m_truePlace, .int m_trueWay, .int m_seconds, .int m_done, .int m_feelings, .int m_tries, .int m_leftOver, .int m_playDoor, .int m_playRing, .int m_isOpen, .int m_isOver, .int m_wasTried, .int m_hasPlayed, .ref a_feltNow, .ref a_last, .ref a_kept, .int m_hasSeconds, .int m_hasTurned, .int m_hasRound, .ref a_hasFeels, .ref a_isOn, .int m_firstAct, .long m_meanTop, .long m_meanBy, .ref a_order, .int m_rowMany, .int m_newSteps])), (a_c, .inl (cA.1 0, 1825, .inl g_c)), (a_there, .inl (cA.1 0, 10, .inl g_there)), (a_weights, .inl (cA.1 1, 100, .inr (.inl g_376)))]) [3, 0, 1, 2] rfl
        have hD := hD.sub (ws' := [(h0, .inr (12, [.int m_status, .int m_thrown, .long m_above, .long m_under, .ref a_traySort, .ref a_trayMany, .ref a_numbers, .ref a_tape, .int m_taped, .int m_textEnd, .int m_faultKind, .int m_faultAt, .int m_bad, .int m_badAt, .int m_token, .int m_at, .int m_behind, .int m_number, .int m_letters, .long m_word, .ref a_c, .ref a_words, .int m_markMany, .ref a_there, .ref a_tried, .ref a_best, .ref a_found, .int m_thereMany, .int m_foundMany, .int m_orderHow, .int m_orderRing, .int m_orderMany, .int m_hasBest, .long m_bestTop, .long m_bestBy, .ref a_weights, .ref a_shared, .int m_random, .int m_truePlace, .int m_trueWay, .int m_seconds, .int m_done, .int m_feelings, .int m_tries, .int m_leftOver, .int m_playDoor, .int m_playRing, .int m_isOpen, .int m_isOver, .int m_wasTried, .int m_hasPlayed, .ref a_feltNow, .ref a_last, .ref a_kept, .int m_hasSeconds, .int m_hasTurned, .int m_hasRound, .ref a_hasFeels, .ref a_isOn, .int m_firstAct, .long m_meanTop, .long m_meanBy, .ref a_order, .int m_rowMany, .int m_newSteps])), (a_c, .inl (cA.1 0, 1825, .inl g_c)), (a_there, .inl (cA.1 0, 10, .inl g_there)), (a_weights, .inl (cA.1 1, 100, .inr (.inl g_376)))]) [3, 0, 1, 2] (by decide) rfl
        exact ih_356 x_377 g_376 H locs ls (by omega) (by omega) hP hD hS (lv_sub hl [1, 2, 3, 4, 0] rfl)
  exact hlp_355 _ 0 g_weights _ _ _ (Nat.lt_succ_self _) (by decide +kernel) hP hD hS (lv_sub hl [1, 2, 3, 4, 0] rfl)
set_option maxHeartbeats 4000000 in
set_option maxRecDepth 100000 in
theorem r_feltWorth_4 (l : Launch) (G : va_G) (cA : zCA) (h0 : Nat) (m_status : Int32) (m_thrown : Int32) (m_above : Int64) (m_under : Int64) (a_traySort : Nat) (a_trayMany : Nat) (a_numbers : Nat) (a_tape : Nat) (m_taped : Int32) (m_textEnd : Int32) (m_faultKind : Int32) (m_faultAt : Int32) (m_bad : Int32) (m_badAt : Int32) (m_token : Int32) (m_at : Int32) (m_behind : Int32) (m_number : Int32) (m_letters : Int32) (m_word : Int64) (a_c : Nat) (a_words : Nat) (m_markMany : Int32) (a_there : Nat) (a_tried : Nat) (a_best : Nat) (a_found : Nat) (m_thereMany : Int32) (m_foundMany : Int32) (m_orderHow : Int32) (m_orderRing : Int32) (m_orderMany : Int32) (m_hasBest : Int32) (m_bestTop : Int64) (m_bestBy : Int64) (a_weights : Nat) (a_shared : Nat) (m_random : Int32) (m_truePlace : Int32) (m_trueWay : Int32) (m_seconds : Int32) (m_done : Int32) (m_feelings : Int32) (m_tries : Int32) (m_leftOver : Int32) (m_playDoor : Int32) (m_playRing : Int32) (m_isOpen : Int32) (m_isOver : Int32) (m_wasTried : Int32) (m_hasPlayed : Int32) (a_feltNow : Nat) (a_last : Nat) (a_kept : Nat) (m_hasSeconds : Int32) (m_hasTurned : Int32) (m_hasRound : Int32) (a_hasFeels : Nat) (a_isOn : Nat) (m_firstAct : Int32) (m_meanTop : Int64) (m_meanBy : Int64) (a_order : Nat) (m_rowMany : Int32) (m_newSteps : Int32) (g_c : Nat → Int32) (g_there : Nat → Int32) (g_weights : Nat → Int64) (pp : Int32) (d : Int32) (f : Int32) (hr_pp : 0 ≤ pp.toInt ∧ pp.toInt ≤ 0) (hr_d : 0 ≤ d.toInt ∧ d.toInt ≤ 4) (hr_f : 0 ≤ f.toInt ∧ f.toInt ≤ 2) (hr_m_thereMany : 0 ≤ m_thereMany.toInt ∧ m_thereMany.toInt ≤ 10) (hC_g_c : zC g_c) (hC_g_there : zRg 10 0 9 g_there) : zCl l yX12_feltWorth cX12_feltWorth 9 (some .long) ({ frames := 8, cells := 0, slots := 0, locals := 219 }) G cA [.ref h0, .int pp, .int 4, .int d, .int f] [(h0, .inr (12, [.int m_status, .int m_thrown, .long m_above, .long m_under, .ref a_traySort, .ref a_trayMany, .ref a_numbers, .ref a_tape, .int m_taped, .int m_textEnd, .int m_faultKind, .int m_faultAt, .int m_bad, .int m_badAt, .int m_token, .int m_at, .int m_behind, .int m_number, .int m_letters, .long m_word, .ref a_c, .ref a_words, .int m_markMany, .ref a_there, .ref a_tried, .ref a_best, .ref a_found, .int m_thereMany, .int m_foundMany, .int m_orderHow, .int m_orderRing, .int m_orderMany, .int m_hasBest, .long m_bestTop, .long m_bestBy, .ref a_weights, .ref a_shared, .int m_random, .int m_truePlace, .int m_trueWay, .int m_seconds, .int m_done, .int m_feelings, .int m_tries, .int m_leftOver, .int m_playDoor, .int m_playRing, .int m_isOpen, .int m_isOver, .int m_wasTried, .int m_hasPlayed, .ref a_feltNow, .ref a_last, .ref a_kept, .int m_hasSeconds, .int m_hasTurned, .int m_hasRound, .ref a_hasFeels, .ref a_isOn, .int m_firstAct, .long m_meanTop, .long m_meanBy, .ref a_order, .int m_rowMany, .int m_newSteps])), (a_c, .inl (cA.1 0, 1825, .inl g_c)), (a_there, .inl (cA.1 0, 10, .inl g_there)), (a_weights, .inl (cA.1 1, 100, .inr (.inl g_weights)))] (S := Int32 × (Nat → Int64)) (fun (r : Int64) (u : Int32 × (Nat → Int64)) => True) (fun (u : Int32 × (Nat → Int64)) => [(h0, .inr (12, [.int m_status, .int m_thrown, .long m_above, .long m_under, .ref a_traySort, .ref a_trayMany, .ref a_numbers, .ref a_tape, .int m_taped, .int m_textEnd, .int m_faultKind, .int m_faultAt, .int m_bad, .int m_badAt, .int m_token, .int m_at, .int m_behind, .int m_number, .int m_letters, .long m_word, .ref a_c, .ref a_words, .int m_markMany, .ref a_there, .ref a_tried, .ref a_best, .ref a_found, .int m_thereMany, .int m_foundMany, .int m_orderHow, .int m_orderRing, .int m_orderMany, .int m_hasBest, .long m_bestTop, .long m_bestBy, .ref a_weights, .ref a_shared, .int m_random, .int m_truePlace, .int m_trueWay, .int m_seconds, .int m_done, .int m_feelings, .int m_tries, .int m_leftOver, .int m_playDoor, .int m_playRing, .int m_isOpen, .int m_isOver, .int m_wasTried, .int m_hasPlayed, .ref a_feltNow, .ref a_last, .ref a_kept, .int m_hasSeconds, .int m_hasTurned, .int m_hasRound, .ref a_hasFeels, .ref a_isOn, .int u.1, .long m_meanTop, .long m_meanBy, .ref a_order, .int m_rowMany, .int m_newSteps])), (a_c, .inl (cA.1 0, 1825, .inl g_c)), (a_there, .inl (cA.1 0, 10, .inl g_there)), (a_weights, .inl (cA.1 1, 100, .inr (.inl u.2)))]) 0 0 := by
  have hk_0 : (0 : Int32).toInt = 0 := by decide +kernel
  have hk_1 : (1 : Int32).toInt = 1 := by decide +kernel
  have hk_2 : (2 : Int32).toInt = 2 := by decide +kernel
  have hk_3 : (3 : Int32).toInt = 3 := by decide +kernel
  have hk_11 : (11 : Int32).toInt = 11 := by decide +kernel
  have hk_20 : (20 : Int32).toInt = 20 := by decide +kernel
  have hkl_0 : (0 : Int64).toInt = 0 := by decide +kernel
  refine z_start2l (own := RX12) (by decide) (Nat.le_of_ble_eq_true rfl) rfl ?_
  intro p e s m args below meth c A ls Q hx hb hml hts hown hK hE hT hP hD hS hA hl hret
  have hl : lv_has ls 9 [(0, .ref h0), (1, .int pp), (2, .int 4), (3, .int d), (4, .int f)] := hl
  refine lv_lconst (v := 0) hx hb dX12_feltWorth_0 (by decide) ?_
  refine lv_lstore (lv' := [(5, .long 0), (0, .ref h0), (1, .int pp), (2, .int 4), (3, .int d), (4, .int f)]) hx hb dX12_feltWorth_1 hl (by decide) rfl (fun ls hl => ?_)
  refine lv_iconst (v := 0) hx hb dX12_feltWorth_3 (by decide) ?_
  refine lv_istore (lv' := [(7, .int 0), (5, .long 0), (0, .ref h0), (1, .int pp), (2, .int 4), (3, .int d), (4, .int f)]) hx hb dX12_feltWorth_4 hl (by decide) rfl (fun ls hl => ?_)
  have hlp_2966 : ∀ (n : Nat) (v_2471 : Int64) (v_2472 : Int32) (v_2473 : Int32) (g_2474 : Nat → Int64) (H : Heap) (locs : List Loc) (ls : Array Slot), (2147483647 - v_2472.toInt).toNat < n → (0 ≤ v_2472.toInt ∧ v_2472.toInt ≤ 4) → va_P G vwCl [(h0, .inr (12, [.int m_status, .int m_thrown, .long m_above, .long m_under, .ref a_traySort, .ref a_trayMany, .ref a_numbers, .ref a_tape, .int m_taped, .int m_textEnd, .int m_faultKind, .int m_faultAt, .int m_bad, .int m_badAt, .int m_token, .int m_at, .int m_behind, .int m_number, .int m_letters, .long m_word, .ref a_c, .ref a_words, .int m_markMany, .ref a_there, .ref a_tried, .ref a_best, .ref a_found, .int m_thereMany, .int m_foundMany, .int m_orderHow, .int m_orderRing, .int m_orderMany, .int m_hasBest, .long m_bestTop, .long m_bestBy, .ref a_weights, .ref a_shared, .int m_random, .int m_truePlace, .int m_trueWay, .int m_seconds, .int m_done, .int m_feelings, .int m_tries, .int m_leftOver, .int m_playDoor, .int m_playRing, .int m_isOpen, .int m_isOver, .int m_wasTried, .int m_hasPlayed, .ref a_feltNow, .ref a_last, .ref a_kept, .int m_hasSeconds, .int m_hasTurned, .int m_hasRound, .ref a_hasFeels, .ref a_isOn, .int v_2473, .long m_meanTop, .long m_meanBy, .ref a_order, .int m_rowMany, .int m_newSteps])), (a_c, .inl (cA.1 0, 1825, .inl g_c)), (a_there, .inl (cA.1 0, 10, .inl g_there)), (a_weights, .inl (cA.1 1, 100, .inr (.inl g_2474)))] H → va_D A [(h0, .inr (12, [.int m_status, .int m_thrown, .long m_above, .long m_under, .ref a_traySort, .ref a_trayMany, .ref a_numbers, .ref a_tape, .int m_taped, .int m_textEnd, .int m_faultKind, .int m_faultAt, .int m_bad, .int m_badAt, .int m_token, .int m_at, .int m_behind, .int m_number, .int m_letters, .long m_word, .ref a_c, .ref a_words, .int m_markMany, .ref a_there, .ref a_tried, .ref a_best, .ref a_found, .int m_thereMany, .int m_foundMany, .int m_orderHow, .int m_orderRing, .int m_orderMany, .int m_hasBest, .long m_bestTop, .long m_bestBy, .ref a_weights, .ref a_shared, .int m_random, .int m_truePlace, .int m_trueWay, .int m_seconds, .int m_done, .int m_feelings, .int m_tries, .int m_leftOver, .int m_playDoor, .int m_playRing, .int m_isOpen, .int m_isOver, .int m_wasTried, .int m_hasPlayed, .ref a_feltNow, .ref a_last, .ref a_kept, .int m_hasSeconds, .int m_hasTurned, .int m_hasRound, .ref a_hasFeels, .ref a_isOn, .int v_2473, .long m_meanTop, .long m_meanBy, .ref a_order, .int m_rowMany, .int m_newSteps])), (a_c, .inl (cA.1 0, 1825, .inl g_c)), (a_there, .inl (cA.1 0, 10, .inl g_there)), (a_weights, .inl (cA.1 1, 100, .inr (.inl g_2474)))] → va_S A s.heap H locs → lv_has ls 9 [(0, .ref h0), (1, .int pp), (2, .int 4), (3, .int d), (4, .int f), (5, .long v_2471), (7, .int v_2472)] → W p l e ({ frames := 8, cells := 0, slots := 0, locals := 219 }) s m args below meth c H locs 0 0 Q (F0 m 6 ls []) := by
    intro n
    induction n with
    | zero =>
      intro v_2471 v_2472 v_2473 g_2474 H locs ls hmu_hlp_2966 hr_v_2472 hP hD hS hl
      exact absurd hmu_hlp_2966 (Nat.not_lt_zero _)
    | succ n ih_2967 =>
      intro v_2471 v_2472 v_2473 g_2474 H locs ls hmu_hlp_2966 hr_v_2472 hP hD hS hl
      refine lv_iload hx hb dX12_feltWorth_6 (lv_at hl 6 rfl) ?_
      refine lv_aload_n hx hb dX12_feltWorth_8 rfl (lv_at hl 0 rfl) ?_
      refine va_get (D := G) (ci := 12) (v := .ref a_c) (C := RX12) (T := TX12) (N := 65) hx hb hts inT12 hown hK hP 0 rfl rfl 20 (by decide) (hts _ tw_1905) (fun _ h9 => h9) rfl dX12_feltWorth_9 ?_
      refine lv_bipush (v := 11) hx hb dX12_feltWorth_12 (by decide) ?_
      refine lv_iload hx hb dX12_feltWorth_14 (lv_at hl 4 rfl) ?_
      refine lv_iadd hx hb dX12_feltWorth_16 ?_
      refine lv_topi (fun x_2968 he_x_2968 => ?_)
      have hq_x_2968 := z_addq he_x_2968 hk_11 (rfl : f.toInt = _) (by omega) (by omega)
      refine va_iald hx hb hK hP 1 0 rfl rfl (z_inN (by omega) (by omega)) dX12_feltWorth_17 ?_
      refine lv_topi (fun x_2969 he_x_2969 => ?_)
      have hr_x_2969 := z_ct hC_g_c he_x_2969 (a := 11) (b := 13) (lo := 0) (hi := 4) (by decide +kernel) (by decide) (by omega) (by omega)
      refine lv_icmp_ge (tgt := 113) hx hb dX12_feltWorth_18 (by decide) (fun c_2970 => ?_) (fun c_2970 => ?_)
      · have b_2971 := z_fgeT c_2970
        refine lv_lload hx hb dX12_feltWorth_113 (lv_at hl 5 rfl) ?_
        exact hret _ _ _ _ _ _ (v_2473, g_2474) [0, 1, 2, 3] hP hD hS rfl (by decide) dX12_feltWorth_115 trivial
      · have b_2972 := z_fltF c_2970
        refine lv_iconst (v := 0) hx hb dX12_feltWorth_21 (by decide) ?_
        refine lv_istore (lv' := [(8, .int 0), (0, .ref h0), (1, .int pp), (2, .int 4), (3, .int d), (4, .int f), (5, .long v_2471), (7, .int v_2472)]) hx hb dX12_feltWorth_22 hl (by decide) rfl (fun ls hl => ?_)
        have hlp_3430 : ∀ (n : Nat) (v_3408 : Int32) (g_3409 : Nat → Int64) (H : Heap) (locs : List Loc) (ls : Array Slot), (2147483647 - v_3408.toInt).toNat < n → (0 ≤ v_3408.toInt ∧ v_3408.toInt ≤ 20) → va_P G vwCl [(h0, .inr (12, [.int m_status, .int m_thrown, .long m_above, .long m_under, .ref a_traySort, .ref a_trayMany, .ref a_numbers, .ref a_tape, .int m_taped, .int m_textEnd, .int m_faultKind, .int m_faultAt, .int m_bad, .int m_badAt, .int m_token, .int m_at, .int m_behind, .int m_number, .int m_letters, .long m_word, .ref a_c, .ref a_words, .int m_markMany, .ref a_there, .ref a_tried, .ref a_best, .ref a_found, .int m_thereMany, .int m_foundMany, .int m_orderHow, .int m_orderRing, .int m_orderMany, .int m_hasBest, .long m_bestTop, .long m_bestBy, .ref a_weights, .ref a_shared, .int m_random, .int m_truePlace, .int m_trueWay, .int m_seconds, .int m_done, .int m_feelings, .int m_tries, .int m_leftOver, .int m_playDoor, .int m_playRing, .int m_isOpen, .int m_isOver, .int m_wasTried, .int m_hasPlayed, .ref a_feltNow, .ref a_last, .ref a_kept, .int m_hasSeconds, .int m_hasTurned, .int m_hasRound, .ref a_hasFeels, .ref a_isOn, .int v_2473, .long m_meanTop, .long m_meanBy, .ref a_order, .int m_rowMany, .int m_newSteps])), (a_c, .inl (cA.1 0, 1825, .inl g_c)), (a_there, .inl (cA.1 0, 10, .inl g_there)), (a_weights, .inl (cA.1 1, 100, .inr (.inl g_3409)))] H → va_D A [(h0, .inr (12, [.int m_status, .int m_thrown, .long m_above, .long m_under, .ref a_traySort, .ref a_trayMany, .ref a_numbers, .ref a_tape, .int m_taped, .int m_textEnd, .int m_faultKind, .int m_faultAt, .int m_bad, .int m_badAt, .int m_token, .int m_at, .int m_behind, .int m_number, .int m_letters, .long m_word, .ref a_c, .ref a_words, .int m_markMany, .ref a_there, .ref a_tried, .ref a_best, .ref a_found, .int m_thereMany, .int m_foundMany, .int m_orderHow, .int m_orderRing, .int m_orderMany, .int m_hasBest, .long m_bestTop, .long m_bestBy, .ref a_weights, .ref a_shared, .int m_random, .int m_truePlace, .int m_trueWay, .int m_seconds, .int m_done, .int m_feelings, .int m_tries, .int m_leftOver, .int m_playDoor, .int m_playRing, .int m_isOpen, .int m_isOver, .int m_wasTried, .int m_hasPlayed, .ref a_feltNow, .ref a_last, .ref a_kept, .int m_hasSeconds, .int m_hasTurned, .int m_hasRound, .ref a_hasFeels, .ref a_isOn, .int v_2473, .long m_meanTop, .long m_meanBy, .ref a_order, .int m_rowMany, .int m_newSteps])), (a_c, .inl (cA.1 0, 1825, .inl g_c)), (a_there, .inl (cA.1 0, 10, .inl g_there)), (a_weights, .inl (cA.1 1, 100, .inr (.inl g_3409)))] → va_S A s.heap H locs → lv_has ls 9 [(0, .ref h0), (1, .int pp), (2, .int 4), (3, .int d), (4, .int f), (5, .long v_2471), (7, .int v_2472), (8, .int v_3408)] → W p l e ({ frames := 8, cells := 0, slots := 0, locals := 219 }) s m args below meth c H locs 0 0 Q (F0 m 24 ls []) := by
          intro n
          induction n with
          | zero =>
            intro v_3408 g_3409 H locs ls hmu_hlp_3430 hr_v_3408 hP hD hS hl
            exact absurd hmu_hlp_3430 (Nat.not_lt_zero _)
          | succ n ih_3431 =>
            intro v_3408 g_3409 H locs ls hmu_hlp_3430 hr_v_3408 hP hD hS hl
            refine lv_iload hx hb dX12_feltWorth_24 (lv_at hl 7 rfl) ?_
            refine lv_iconst (v := 2) hx hb dX12_feltWorth_26 (by decide) ?_
            refine lv_aload_n hx hb dX12_feltWorth_27 rfl (lv_at hl 0 rfl) ?_
            refine va_get (D := G) (ci := 12) (v := .int m_thereMany) (C := RX12) (T := TX12) (N := 65) hx hb hts inT12 hown hK hP 0 rfl rfl 27 (by decide) (hts _ tw_1912) (fun _ h9 => h9) rfl dX12_feltWorth_28 ?_
            refine lv_imul hx hb dX12_feltWorth_31 ?_
            refine lv_topi (fun x_3432 he_x_3432 => ?_)
            have hq_x_3432 := z_mulq he_x_3432 hk_2 (rfl : m_thereMany.toInt = _) (by omega) (by omega)
            refine lv_icmp_ge (tgt := 91) hx hb dX12_feltWorth_32 (by decide) (fun c_3433 => ?_) (fun c_3433 => ?_)
            · have b_3434 := z_fgeT c_3433
              refine lv_lload hx hb dX12_feltWorth_91 (lv_at hl 5 rfl) ?_
              refine lv_aload_n hx hb dX12_feltWorth_93 rfl (lv_at hl 0 rfl) ?_
              refine lv_iload_n hx hb dX12_feltWorth_94 rfl (lv_at hl 1 rfl) ?_
              refine lv_iconst (v := 1) hx hb dX12_feltWorth_95 (by decide) ?_
              refine lv_iadd hx hb dX12_feltWorth_96 ?_
              refine lv_topi (fun x_3435 he_x_3435 => ?_)
              have hq_x_3435 := z_addq he_x_3435 (rfl : pp.toInt = _) hk_1 (by omega) (by omega)
              refine lv_iload_n hx hb dX12_feltWorth_97 rfl (lv_at hl 2 rfl) ?_
              refine lv_iconst (v := 1) hx hb dX12_feltWorth_98 (by decide) ?_
              refine lv_isub hx hb dX12_feltWorth_99 ?_
              refine z_topi (y := 3) (by decide +kernel) ?_
              refine lv_iload_n hx hb dX12_feltWorth_100 rfl (lv_at hl 3 rfl) ?_
              refine z_callVl (As := [.int x_3435, .int 3, .int d]) (rest := [.long v_2471]) (wr := []) ⟨hx, hb, hml, hown, hts⟩ hK hE hT hP hD hS hA (r_worthOf_3 l G cA h0 m_status m_thrown m_above m_under a_traySort a_trayMany a_numbers a_tape m_taped m_textEnd m_faultKind m_faultAt m_bad m_badAt m_token m_at m_behind m_number m_letters m_word a_c a_words m_markMany a_there a_tried a_best a_found m_thereMany m_foundMany m_orderHow m_orderRing m_orderMany m_hasBest m_bestTop m_bestBy a_weights a_shared m_random m_truePlace m_trueWay m_seconds m_done m_feelings m_tries m_leftOver m_playDoor m_playRing m_isOpen m_isOver m_wasTried m_hasPlayed a_feltNow a_last a_kept m_hasSeconds m_hasTurned m_hasRound a_hasFeels a_isOn v_2473 m_meanTop m_meanBy a_order m_rowMany m_newSteps g_c g_there g_3409 x_3435 d (by omega) hr_d hr_m_thereMany hC_g_c hC_g_there) lk_RX12_379 ⟨rfl, rfl⟩ ⟨Nat.le_of_ble_eq_true rfl, Nat.le_of_ble_eq_true rfl⟩ 12 rfl rfl rfl [0, 1, 2, 3] [] rfl rfl (by decide) rfl hl.1 rfl (lv_room (Nat.le_of_ble_eq_true rfl)) dX12_feltWorth_101 ⟨Nat.le_of_ble_eq_true rfl, Nat.le_of_ble_eq_true rfl⟩ (fun r_3438 u_3439 H locs hw hP hD hS => ?_)
              obtain ⟨n_3436, n_3437⟩ := u_3439
              try dsimp only at hw
              refine lv_ladd hx hb dX12_feltWorth_104 ?_
              have hL_v_2471 := z_fulll v_2471
              have hL_r_3438 := z_fulll r_3438
              refine lv_topl (fun x_3440 he_x_3440 => ?_)
              refine lv_lstore (lv' := [(5, .long x_3440), (0, .ref h0), (1, .int pp), (2, .int 4), (3, .int d), (4, .int f), (7, .int v_2472), (8, .int v_3408)]) hx hb dX12_feltWorth_105 hl (by decide) rfl (fun ls hl => ?_)
              obtain ⟨x_3441, he_x_3441⟩ : ∃ z : Int32, z = v_2472 + 1 := ⟨_, rfl⟩
              have hq_x_3441 := z_addq he_x_3441 (rfl : v_2472.toInt = _) hk_1 (by omega) (by omega)
              refine lv_iinc (v := x_3441) (lv' := [(7, .int x_3441), (5, .long x_3440), (0, .ref h0), (1, .int pp), (2, .int 4), (3, .int d), (4, .int f), (8, .int v_3408)]) hx hb dX12_feltWorth_107 hl (k := 6) rfl ((z_ofi (by decide +kernel)).trans he_x_3441.symm) (by decide) rfl (fun ls hl => ?_)
              refine lv_goto (tgt := 6) hx hb dX12_feltWorth_110 (by decide) ?_
              exact ih_2967 x_3440 x_3441 n_3436 n_3437 H locs ls (by omega) (by omega) hP hD hS (lv_sub hl [2, 3, 4, 5, 6, 1, 0] rfl)
            · have b_3442 := z_fltF c_3433
              refine lv_aload_n hx hb dX12_feltWorth_35 rfl (lv_at hl 0 rfl) ?_
              refine va_get (D := G) (ci := 12) (v := .ref a_weights) (C := RX12) (T := TX12) (N := 65) hx hb hts inT12 hown hK hP 0 rfl rfl 35 (by decide) (hts _ tw_1919) (fun _ h9 => h9) rfl dX12_feltWorth_36 ?_
              refine lv_bipush (v := 20) hx hb dX12_feltWorth_39 (by decide) ?_
              refine lv_iload_n hx hb dX12_feltWorth_41 rfl (lv_at hl 1 rfl) ?_
              refine lv_imul hx hb dX12_feltWorth_42 ?_
              refine lv_topi (fun x_3443 he_x_3443 => ?_)
              have hq_x_3443 := z_mulq he_x_3443 hk_20 (rfl : pp.toInt = _) (by omega) (by omega)
              refine lv_bipush (v := 20) hx hb dX12_feltWorth_43 (by decide) ?_
              refine lv_iadd hx hb dX12_feltWorth_45 ?_
              refine lv_topi (fun x_3444 he_x_3444 => ?_)
              have hq_x_3444 := z_addq he_x_3444 (rfl : x_3443.toInt = _) hk_20 (by omega) (by omega)
              refine lv_iload hx hb dX12_feltWorth_46 (lv_at hl 7 rfl) ?_
              refine lv_iadd hx hb dX12_feltWorth_48 ?_
              refine lv_topi (fun x_3445 he_x_3445 => ?_)
              have hq_x_3445 := z_addq he_x_3445 (rfl : x_3444.toInt = _) (rfl : v_3408.toInt = _) (by omega) (by omega)
              refine lv_aload_n hx hb dX12_feltWorth_49 rfl (lv_at hl 0 rfl) ?_
              refine va_get (D := G) (ci := 12) (v := .ref a_weights) (C := RX12) (T := TX12) (N := 65) hx hb hts inT12 hown hK hP 0 rfl rfl 35 (by decide) (hts _ tw_1919) (fun _ h9 => h9) rfl dX12_feltWorth_50 ?_
              refine lv_bipush (v := 20) hx hb dX12_feltWorth_53 (by decide) ?_
              refine lv_iload_n hx hb dX12_feltWorth_55 rfl (lv_at hl 1 rfl) ?_
              refine lv_imul hx hb dX12_feltWorth_56 ?_
              refine lv_topi (fun x_3446 he_x_3446 => ?_)
              have hq_x_3446 := z_mulq he_x_3446 hk_20 (rfl : pp.toInt = _) (by omega) (by omega)
              refine lv_iload hx hb dX12_feltWorth_57 (lv_at hl 7 rfl) ?_
              refine lv_iadd hx hb dX12_feltWorth_59 ?_
              refine lv_topi (fun x_3447 he_x_3447 => ?_)
              have hq_x_3447 := z_addq he_x_3447 (rfl : x_3446.toInt = _) (rfl : v_3408.toInt = _) (by omega) (by omega)
              refine va_lald hx hb hK hP 3 1 rfl rfl (z_inN (by omega) (by omega)) dX12_feltWorth_60 ?_
              refine lv_topl (fun x_3448 he_x_3448 => ?_)
              refine lv_aload_n hx hb dX12_feltWorth_61 rfl (lv_at hl 0 rfl) ?_
              refine lv_aload_n hx hb dX12_feltWorth_62 rfl (lv_at hl 0 rfl) ?_
              refine va_get (D := G) (ci := 12) (v := .ref a_there) (C := RX12) (T := TX12) (N := 65) hx hb hts inT12 hown hK hP 0 rfl rfl 23 (by decide) (hts _ tw_1908) (fun _ h9 => h9) rfl dX12_feltWorth_63 ?_
              refine lv_iload hx hb dX12_feltWorth_66 (lv_at hl 7 rfl) ?_
              refine lv_iconst (v := 2) hx hb dX12_feltWorth_68 (by decide) ?_
              refine lv_idiv hx hb dX12_feltWorth_69 (by decide +kernel) ?_
              refine lv_topi (fun x_3449 he_x_3449 => ?_)
              have hq_x_3449 := z_divq he_x_3449 (rfl : v_3408.toInt = _) hk_2 (by omega) (by decide)
              refine va_iald hx hb hK hP 2 0 rfl rfl (z_inN (by omega) (by omega)) dX12_feltWorth_70 ?_
              refine lv_topi (fun x_3450 he_x_3450 => ?_)
              have hr_x_3450 := z_rg hC_g_there he_x_3450 (by omega) (by omega)
              refine lv_iload hx hb dX12_feltWorth_71 (lv_at hl 4 rfl) ?_
              refine lv_iload hx hb dX12_feltWorth_73 (lv_at hl 7 rfl) ?_
              refine lv_iconst (v := 2) hx hb dX12_feltWorth_75 (by decide) ?_
              refine lv_irem hx hb dX12_feltWorth_76 (by decide +kernel) ?_
              refine lv_topi (fun x_3451 he_x_3451 => ?_)
              have hq_x_3451 := z_remq he_x_3451 (rfl : v_3408.toInt = _) hk_2 (by omega) (by decide)
              refine lv_iload hx hb dX12_feltWorth_77 (lv_at hl 6 rfl) ?_
              refine z_callVi (As := [.int x_3450, .int f, .int x_3451, .int v_2472]) (rest := [.long x_3448, .int x_3445, .ref a_weights]) (wr := [(a_there, .inl (cA.1 0, 10, .inl g_there)), (a_weights, .inl (cA.1 1, 100, .inr (.inl g_3409)))]) ⟨hx, hb, hml, hown, hts⟩ hK hE hT hP hD hS hA (r_felt l G cA h0 m_status m_thrown m_above m_under a_traySort a_trayMany a_numbers a_tape m_taped m_textEnd m_faultKind m_faultAt m_bad m_badAt m_token m_at m_behind m_number m_letters m_word a_c a_words m_markMany a_there a_tried a_best a_found m_thereMany m_foundMany m_orderHow m_orderRing m_orderMany m_hasBest m_bestTop m_bestBy a_weights a_shared m_random m_truePlace m_trueWay m_seconds m_done m_feelings m_tries m_leftOver m_playDoor m_playRing m_isOpen m_isOver m_wasTried m_hasPlayed a_feltNow a_last a_kept m_hasSeconds m_hasTurned m_hasRound a_hasFeels a_isOn v_2473 m_meanTop m_meanBy a_order m_rowMany m_newSteps g_c x_3450 f x_3451 v_2472 hr_x_3450 hr_f (by omega) (by omega) hC_g_c) lk_RX12_329 ⟨rfl, rfl⟩ ⟨Nat.le_of_ble_eq_true rfl, Nat.le_of_ble_eq_true rfl⟩ 12 rfl rfl rfl [0, 1] [2, 3] rfl rfl (by decide) rfl hl.1 rfl (lv_room (Nat.le_of_ble_eq_true rfl)) dX12_feltWorth_79 ⟨Nat.le_of_ble_eq_true rfl, Nat.le_of_ble_eq_true rfl⟩ (fun r_3452 u_3453 H locs hw hP hD hS => ?_)
              have hf_3454 := hw
              refine lv_i2l (v := (r_3452).toInt64) hx hb dX12_feltWorth_82 rfl ?_
              refine lv_topl (fun x_3455 he_x_3455 => ?_)
              have hq_x_3455 := z_i2l he_x_3455
              have hL_r_3452 := z_full r_3452
              refine lv_lmul hx hb dX12_feltWorth_83 ?_
              have hL_x_3448 := z_fulll x_3448
              refine lv_topl (fun x_3456 he_x_3456 => ?_)
              refine z_last hx hb hK hP hD hS 1 1 rfl rfl (z_inN (by omega) (by omega)) dX12_feltWorth_84 (fun g_3457 hg_g_3457 H locs hP hD hS => ?_)
              obtain ⟨x_3458, he_x_3458⟩ : ∃ z : Int32, z = v_3408 + 1 := ⟨_, rfl⟩
              have hq_x_3458 := z_addq he_x_3458 (rfl : v_3408.toInt = _) hk_1 (by omega) (by omega)
              refine lv_iinc (v := x_3458) (lv' := [(8, .int x_3458), (0, .ref h0), (1, .int pp), (2, .int 4), (3, .int d), (4, .int f), (5, .long v_2471), (7, .int v_2472)]) hx hb dX12_feltWorth_85 hl (k := 7) rfl ((z_ofi (by decide +kernel)).trans he_x_3458.symm) (by decide) rfl (fun ls hl => ?_)
              refine lv_goto (tgt := 24) hx hb dX12_feltWorth_88 (by decide) ?_
              have hP := hP.sub (ws' := [(h0, .inr (12, [.int m_status, .int m_thrown, .long m_above, .long m_under, .ref a_traySort, .ref a_trayMany, .ref a_numbers, .ref a_tape, .int m_taped, .int m_textEnd, .int m_faultKind, .int m_faultAt, .int m_bad, .int m_badAt, .int m_token, .int m_at, .int m_behind, .int m_number, .int m_letters, .long m_word, .ref a_c, .ref a_words, .int m_markMany, .ref a_there, .ref a_tried, .ref a_best, .ref a_found, .int m_thereMany, .int m_foundMany, .int m_orderHow, .int m_orderRing, .int m_orderMany, .int m_hasBest, .long m_bestTop, .long m_bestBy, .ref a_weights, .ref a_shared, .int m_random, .int m_truePlace, .int m_trueWay, .int m_seconds, .int m_done, .int m_feelings, .int m_tries, .int m_leftOver, .int m_playDoor, .int m_playRing, .int m_isOpen, .int m_isOver, .int m_wasTried, .int m_hasPlayed, .ref a_feltNow, .ref a_last, .ref a_kept, .int m_hasSeconds, .int m_hasTurned, .int m_hasRound, .ref a_hasFeels, .ref a_isOn, .int v_2473, .long m_meanTop, .long m_meanBy, .ref a_order, .int m_rowMany, .int m_newSteps])), (a_c, .inl (cA.1 0, 1825, .inl g_c)), (a_there, .inl (cA.1 0, 10, .inl g_there)), (a_weights, .inl (cA.1 1, 100, .inr (.inl g_3457)))]) [2, 3, 0, 1] rfl
              have hD := hD.sub (ws' := [(h0, .inr (12, [.int m_status, .int m_thrown, .long m_above, .long m_under, .ref a_traySort, .ref a_trayMany, .ref a_numbers, .ref a_tape, .int m_taped, .int m_textEnd, .int m_faultKind, .int m_faultAt, .int m_bad, .int m_badAt, .int m_token, .int m_at, .int m_behind, .int m_number, .int m_letters, .long m_word, .ref a_c, .ref a_words, .int m_markMany, .ref a_there, .ref a_tried, .ref a_best, .ref a_found, .int m_thereMany, .int m_foundMany, .int m_orderHow, .int m_orderRing, .int m_orderMany, .int m_hasBest, .long m_bestTop, .long m_bestBy, .ref a_weights, .ref a_shared, .int m_random, .int m_truePlace, .int m_trueWay, .int m_seconds, .int m_done, .int m_feelings, .int m_tries, .int m_leftOver, .int m_playDoor, .int m_playRing, .int m_isOpen, .int m_isOver, .int m_wasTried, .int m_hasPlayed, .ref a_feltNow, .ref a_last, .ref a_kept, .int m_hasSeconds, .int m_hasTurned, .int m_hasRound, .ref a_hasFeels, .ref a_isOn, .int v_2473, .long m_meanTop, .long m_meanBy, .ref a_order, .int m_rowMany, .int m_newSteps])), (a_c, .inl (cA.1 0, 1825, .inl g_c)), (a_there, .inl (cA.1 0, 10, .inl g_there)), (a_weights, .inl (cA.1 1, 100, .inr (.inl g_3457)))]) [2, 3, 0, 1] (by decide) rfl
              exact ih_3431 x_3458 g_3457 H locs ls (by omega) (by omega) hP hD hS (lv_sub hl [1, 2, 3, 4, 5, 6, 7, 0] rfl)
        exact hlp_3430 _ 0 g_2474 _ _ _ (Nat.lt_succ_self _) (by decide +kernel) hP hD hS (lv_sub hl [1, 2, 3, 4, 5, 6, 7, 0] rfl)
  exact hlp_2966 _ 0 0 m_firstAct g_weights _ _ _ (Nat.lt_succ_self _) (by decide +kernel) hP hD hS (lv_sub hl [2, 3, 4, 5, 6, 1, 0] rfl)
set_option maxHeartbeats 4000000 in
set_option maxRecDepth 100000 in
theorem r_worthOf_4 (l : Launch) (G : va_G) (cA : zCA) (h0 : Nat) (m_status : Int32) (m_thrown : Int32) (m_above : Int64) (m_under : Int64) (a_traySort : Nat) (a_trayMany : Nat) (a_numbers : Nat) (a_tape : Nat) (m_taped : Int32) (m_textEnd : Int32) (m_faultKind : Int32) (m_faultAt : Int32) (m_bad : Int32) (m_badAt : Int32) (m_token : Int32) (m_at : Int32) (m_behind : Int32) (m_number : Int32) (m_letters : Int32) (m_word : Int64) (a_c : Nat) (a_words : Nat) (m_markMany : Int32) (a_there : Nat) (a_tried : Nat) (a_best : Nat) (a_found : Nat) (m_thereMany : Int32) (m_foundMany : Int32) (m_orderHow : Int32) (m_orderRing : Int32) (m_orderMany : Int32) (m_hasBest : Int32) (m_bestTop : Int64) (m_bestBy : Int64) (a_weights : Nat) (a_shared : Nat) (m_random : Int32) (m_truePlace : Int32) (m_trueWay : Int32) (m_seconds : Int32) (m_done : Int32) (m_feelings : Int32) (m_tries : Int32) (m_leftOver : Int32) (m_playDoor : Int32) (m_playRing : Int32) (m_isOpen : Int32) (m_isOver : Int32) (m_wasTried : Int32) (m_hasPlayed : Int32) (a_feltNow : Nat) (a_last : Nat) (a_kept : Nat) (m_hasSeconds : Int32) (m_hasTurned : Int32) (m_hasRound : Int32) (a_hasFeels : Nat) (a_isOn : Nat) (m_firstAct : Int32) (m_meanTop : Int64) (m_meanBy : Int64) (a_order : Nat) (m_rowMany : Int32) (m_newSteps : Int32) (g_c : Nat → Int32) (g_there : Nat → Int32) (g_weights : Nat → Int64) (pp : Int32) (d : Int32) (hr_pp : 0 ≤ pp.toInt ∧ pp.toInt ≤ 0) (hr_d : 0 ≤ d.toInt ∧ d.toInt ≤ 4) (hr_m_thereMany : 0 ≤ m_thereMany.toInt ∧ m_thereMany.toInt ≤ 10) (hC_g_c : zC g_c) (hC_g_there : zRg 10 0 9 g_there) : zCl l yX12_worthOf cX12_worthOf 10 (some .long) ({ frames := 9, cells := 0, slots := 0, locals := 247 }) G cA [.ref h0, .int pp, .int 4, .int d] [(h0, .inr (12, [.int m_status, .int m_thrown, .long m_above, .long m_under, .ref a_traySort, .ref a_trayMany, .ref a_numbers, .ref a_tape, .int m_taped, .int m_textEnd, .int m_faultKind, .int m_faultAt, .int m_bad, .int m_badAt, .int m_token, .int m_at, .int m_behind, .int m_number, .int m_letters, .long m_word, .ref a_c, .ref a_words, .int m_markMany, .ref a_there, .ref a_tried, .ref a_best, .ref a_found, .int m_thereMany, .int m_foundMany, .int m_orderHow, .int m_orderRing, .int m_orderMany, .int m_hasBest, .long m_bestTop, .long m_bestBy, .ref a_weights, .ref a_shared, .int m_random, .int m_truePlace, .int m_trueWay, .int m_seconds, .int m_done, .int m_feelings, .int m_tries, .int m_leftOver, .int m_playDoor, .int m_playRing, .int m_isOpen, .int m_isOver, .int m_wasTried, .int m_hasPlayed, .ref a_feltNow, .ref a_last, .ref a_kept, .int m_hasSeconds, .int m_hasTurned, .int m_hasRound, .ref a_hasFeels, .ref a_isOn, .int m_firstAct, .long m_meanTop, .long m_meanBy, .ref a_order, .int m_rowMany, .int m_newSteps])), (a_c, .inl (cA.1 0, 1825, .inl g_c)), (a_there, .inl (cA.1 0, 10, .inl g_there)), (a_weights, .inl (cA.1 1, 100, .inr (.inl g_weights)))] (S := Int32 × (Nat → Int64)) (fun (r : Int64) (u : Int32 × (Nat → Int64)) => (0 ≤ u.1.toInt ∧ u.1.toInt ≤ 4)) (fun (u : Int32 × (Nat → Int64)) => [(h0, .inr (12, [.int m_status, .int m_thrown, .long m_above, .long m_under, .ref a_traySort, .ref a_trayMany, .ref a_numbers, .ref a_tape, .int m_taped, .int m_textEnd, .int m_faultKind, .int m_faultAt, .int m_bad, .int m_badAt, .int m_token, .int m_at, .int m_behind, .int m_number, .int m_letters, .long m_word, .ref a_c, .ref a_words, .int m_markMany, .ref a_there, .ref a_tried, .ref a_best, .ref a_found, .int m_thereMany, .int m_foundMany, .int m_orderHow, .int m_orderRing, .int m_orderMany, .int m_hasBest, .long m_bestTop, .long m_bestBy, .ref a_weights, .ref a_shared, .int m_random, .int m_truePlace, .int m_trueWay, .int m_seconds, .int m_done, .int m_feelings, .int m_tries, .int m_leftOver, .int m_playDoor, .int m_playRing, .int m_isOpen, .int m_isOver, .int m_wasTried, .int m_hasPlayed, .ref a_feltNow, .ref a_last, .ref a_kept, .int m_hasSeconds, .int m_hasTurned, .int m_hasRound, .ref a_hasFeels, .ref a_isOn, .int u.1, .long m_meanTop, .long m_meanBy, .ref a_order, .int m_rowMany, .int m_newSteps])), (a_c, .inl (cA.1 0, 1825, .inl g_c)), (a_there, .inl (cA.1 0, 10, .inl g_there)), (a_weights, .inl (cA.1 1, 100, .inr (.inl u.2)))]) 0 0 := by
  have hk_0 : (0 : Int32).toInt = 0 := by decide +kernel
  have hk_1 : (1 : Int32).toInt = 1 := by decide +kernel
  have hk_2 : (2 : Int32).toInt = 2 := by decide +kernel
  have hk_4 : (4 : Int32).toInt = 4 := by decide +kernel
  refine z_start2l (own := RX12) (by decide) (Nat.le_of_ble_eq_true rfl) rfl ?_
  intro p e s m args below meth c A ls Q hx hb hml hts hown hK hE hT hP hD hS hA hl hret
  have hl : lv_has ls 10 [(0, .ref h0), (1, .int pp), (2, .int 4), (3, .int d)] := hl
  refine lv_iload_n hx hb dX12_worthOf_0 rfl (lv_at hl 2 rfl) ?_
  refine lv_if_ne (tgt := 6) hx hb dX12_worthOf_1 (by decide) (fun _ => ?_) (fun h9 => absurd h9 (by decide +kernel))
  refine lv_aload_n hx hb dX12_worthOf_6 rfl (lv_at hl 0 rfl) ?_
  refine lv_iload_n hx hb dX12_worthOf_7 rfl (lv_at hl 1 rfl) ?_
  refine lv_iload_n hx hb dX12_worthOf_8 rfl (lv_at hl 2 rfl) ?_
  refine lv_iload_n hx hb dX12_worthOf_9 rfl (lv_at hl 3 rfl) ?_
  refine z_callVl (As := [.int pp, .int 4, .int d]) (rest := []) (wr := []) ⟨hx, hb, hml, hown, hts⟩ hK hE hT hP hD hS hA (r_triedWorth_4 l G cA h0 m_status m_thrown m_above m_under a_traySort a_trayMany a_numbers a_tape m_taped m_textEnd m_faultKind m_faultAt m_bad m_badAt m_token m_at m_behind m_number m_letters m_word a_c a_words m_markMany a_there a_tried a_best a_found m_thereMany m_foundMany m_orderHow m_orderRing m_orderMany m_hasBest m_bestTop m_bestBy a_weights a_shared m_random m_truePlace m_trueWay m_seconds m_done m_feelings m_tries m_leftOver m_playDoor m_playRing m_isOpen m_isOver m_wasTried m_hasPlayed a_feltNow a_last a_kept m_hasSeconds m_hasTurned m_hasRound a_hasFeels a_isOn m_firstAct m_meanTop m_meanBy a_order m_rowMany m_newSteps g_c g_there g_weights pp d hr_pp hr_d hr_m_thereMany hC_g_c hC_g_there) lk_RX12_362 ⟨rfl, rfl⟩ ⟨Nat.le_of_ble_eq_true rfl, Nat.le_of_ble_eq_true rfl⟩ 12 rfl rfl rfl [0, 1, 2, 3] [] rfl rfl (by decide) rfl hl.1 rfl (lv_room (Nat.le_of_ble_eq_true rfl)) dX12_worthOf_10 ⟨Nat.le_of_ble_eq_true rfl, Nat.le_of_ble_eq_true rfl⟩ (fun r_3 u_4 H locs hw hP hD hS => ?_)
  obtain ⟨n_1, n_2⟩ := u_4
  try dsimp only at hw
  refine lv_lstore (lv' := [(4, .long r_3), (0, .ref h0), (1, .int pp), (2, .int 4), (3, .int d)]) hx hb dX12_worthOf_13 hl (by decide) rfl (fun ls hl => ?_)
  refine lv_iconst (v := 0) hx hb dX12_worthOf_15 (by decide) ?_
  refine lv_istore (lv' := [(6, .int 0), (4, .long r_3), (0, .ref h0), (1, .int pp), (2, .int 4), (3, .int d)]) hx hb dX12_worthOf_16 hl (by decide) rfl (fun ls hl => ?_)
  refine lv_aload_n hx hb dX12_worthOf_18 rfl (lv_at hl 2 rfl) ?_
  refine lv_iload_n hx hb dX12_worthOf_19 rfl (lv_at hl 3 rfl) ?_
  refine lv_iload_n hx hb dX12_worthOf_20 rfl (lv_at hl 4 rfl) ?_
  refine lv_iload_n hx hb dX12_worthOf_21 rfl (lv_at hl 5 rfl) ?_
  refine z_callVl (As := [.int pp, .int 4, .int d]) (rest := []) (wr := []) ⟨hx, hb, hml, hown, hts⟩ hK hE hT hP hD hS hA (r_goneWorth_4 l G cA h0 m_status m_thrown m_above m_under a_traySort a_trayMany a_numbers a_tape m_taped m_textEnd m_faultKind m_faultAt m_bad m_badAt m_token m_at m_behind m_number m_letters m_word a_c a_words m_markMany a_there a_tried a_best a_found m_thereMany m_foundMany m_orderHow m_orderRing m_orderMany m_hasBest m_bestTop m_bestBy a_weights a_shared m_random m_truePlace m_trueWay m_seconds m_done m_feelings m_tries m_leftOver m_playDoor m_playRing m_isOpen m_isOver m_wasTried m_hasPlayed a_feltNow a_last a_kept m_hasSeconds m_hasTurned m_hasRound a_hasFeels a_isOn n_1 m_meanTop m_meanBy a_order m_rowMany m_newSteps g_c g_there n_2 pp d hr_pp hr_d hr_m_thereMany hC_g_c hC_g_there) lk_RX12_366 ⟨rfl, rfl⟩ ⟨Nat.le_of_ble_eq_true rfl, Nat.le_of_ble_eq_true rfl⟩ 12 rfl rfl rfl [0, 1, 2, 3] [] rfl rfl (by decide) rfl hl.1 rfl (lv_room (Nat.le_of_ble_eq_true rfl)) dX12_worthOf_22 ⟨Nat.le_of_ble_eq_true rfl, Nat.le_of_ble_eq_true rfl⟩ (fun r_7 u_8 H locs hw hP hD hS => ?_)
  obtain ⟨n_5, n_6⟩ := u_8
  try dsimp only at hw
  refine lv_lstore (lv' := [(7, .long r_7), (6, .int 0), (4, .long r_3), (0, .ref h0), (1, .int pp), (2, .int 4), (3, .int d)]) hx hb dX12_worthOf_25 hl (by decide) rfl (fun ls hl => ?_)
  refine lv_lload hx hb dX12_worthOf_27 (lv_at hl 0 rfl) ?_
  refine lv_lload hx hb dX12_worthOf_29 (lv_at hl 2 rfl) ?_
  refine W.lcmp hx hb dX12_worthOf_31 ?_
  refine lv_if_le (tgt := 42) hx hb dX12_worthOf_32 (by decide) (fun c_9 => ?_) (fun c_9 => ?_)
  · have b_10 := z_fleTl c_9
    refine lv_iconst (v := 0) hx hb dX12_worthOf_42 (by decide) ?_
    refine lv_istore (lv' := [(9, .int 0), (7, .long r_7), (6, .int 0), (4, .long r_3), (0, .ref h0), (1, .int pp), (2, .int 4), (3, .int d)]) hx hb dX12_worthOf_43 hl (by decide) rfl (fun ls hl => ?_)
    have hlp_102 : ∀ (n : Nat) (v_82 : Int64) (v_83 : Int32) (v_84 : Int64) (v_85 : Int32) (v_86 : Int32) (g_87 : Nat → Int64) (H : Heap) (locs : List Loc) (ls : Array Slot), (2147483647 - v_85.toInt).toNat < n → (0 ≤ v_83.toInt ∧ v_83.toInt ≤ 4) → (0 ≤ v_85.toInt ∧ v_85.toInt ≤ 3) → va_P G vwCl [(h0, .inr (12, [.int m_status, .int m_thrown, .long m_above, .long m_under, .ref a_traySort, .ref a_trayMany, .ref a_numbers, .ref a_tape, .int m_taped, .int m_textEnd, .int m_faultKind, .int m_faultAt, .int m_bad, .int m_badAt, .int m_token, .int m_at, .int m_behind, .int m_number, .int m_letters, .long m_word, .ref a_c, .ref a_words, .int m_markMany, .ref a_there, .ref a_tried, .ref a_best, .ref a_found, .int m_thereMany, .int m_foundMany, .int m_orderHow, .int m_orderRing, .int m_orderMany, .int m_hasBest, .long m_bestTop, .long m_bestBy, .ref a_weights, .ref a_shared, .int m_random, .int m_truePlace, .int m_trueWay, .int m_seconds, .int m_done, .int m_feelings, .int m_tries, .int m_leftOver, .int m_playDoor, .int m_playRing, .int m_isOpen, .int m_isOver, .int m_wasTried, .int m_hasPlayed, .ref a_feltNow, .ref a_last, .ref a_kept, .int m_hasSeconds, .int m_hasTurned, .int m_hasRound, .ref a_hasFeels, .ref a_isOn, .int v_86, .long m_meanTop, .long m_meanBy, .ref a_order, .int m_rowMany, .int m_newSteps])), (a_c, .inl (cA.1 0, 1825, .inl g_c)), (a_there, .inl (cA.1 0, 10, .inl g_there)), (a_weights, .inl (cA.1 1, 100, .inr (.inl g_87)))] H → va_D A [(h0, .inr (12, [.int m_status, .int m_thrown, .long m_above, .long m_under, .ref a_traySort, .ref a_trayMany, .ref a_numbers, .ref a_tape, .int m_taped, .int m_textEnd, .int m_faultKind, .int m_faultAt, .int m_bad, .int m_badAt, .int m_token, .int m_at, .int m_behind, .int m_number, .int m_letters, .long m_word, .ref a_c, .ref a_words, .int m_markMany, .ref a_there, .ref a_tried, .ref a_best, .ref a_found, .int m_thereMany, .int m_foundMany, .int m_orderHow, .int m_orderRing, .int m_orderMany, .int m_hasBest, .long m_bestTop, .long m_bestBy, .ref a_weights, .ref a_shared, .int m_random, .int m_truePlace, .int m_trueWay, .int m_seconds, .int m_done, .int m_feelings, .int m_tries, .int m_leftOver, .int m_playDoor, .int m_playRing, .int m_isOpen, .int m_isOver, .int m_wasTried, .int m_hasPlayed, .ref a_feltNow, .ref a_last, .ref a_kept, .int m_hasSeconds, .int m_hasTurned, .int m_hasRound, .ref a_hasFeels, .ref a_isOn, .int v_86, .long m_meanTop, .long m_meanBy, .ref a_order, .int m_rowMany, .int m_newSteps])), (a_c, .inl (cA.1 0, 1825, .inl g_c)), (a_there, .inl (cA.1 0, 10, .inl g_there)), (a_weights, .inl (cA.1 1, 100, .inr (.inl g_87)))] → va_S A s.heap H locs → lv_has ls 10 [(0, .ref h0), (1, .int pp), (2, .int 4), (3, .int d), (4, .long v_82), (6, .int v_83), (7, .long v_84), (9, .int v_85)] → W p l e ({ frames := 9, cells := 0, slots := 0, locals := 247 }) s m args below meth c H locs 0 0 Q (F0 m 45 ls []) := by
      intro n
      induction n with
      | zero =>
        intro v_82 v_83 v_84 v_85 v_86 g_87 H locs ls hmu_hlp_102 hr_v_83 hr_v_85 hP hD hS hl
        exact absurd hmu_hlp_102 (Nat.not_lt_zero _)
      | succ n ih_103 =>
        intro v_82 v_83 v_84 v_85 v_86 g_87 H locs ls hmu_hlp_102 hr_v_83 hr_v_85 hP hD hS hl
        refine lv_iload hx hb dX12_worthOf_45 (lv_at hl 7 rfl) ?_
        refine lv_aload_n hx hb dX12_worthOf_47 rfl (lv_at hl 0 rfl) ?_
        refine va_get (D := G) (ci := 12) (v := .ref a_c) (C := RX12) (T := TX12) (N := 65) hx hb hts inT12 hown hK hP 0 rfl rfl 20 (by decide) (hts _ tw_1905) (fun _ h9 => h9) rfl dX12_worthOf_48 ?_
        refine lv_iconst (v := 0) hx hb dX12_worthOf_51 (by decide) ?_
        refine va_iald hx hb hK hP 1 0 rfl rfl (z_in (i := 0) (n := 1825) (by decide +kernel) (by decide +kernel)) dX12_worthOf_52 ?_
        refine lv_topi (fun x_104 he_x_104 => ?_)
        have hr_x_104 := z_ctk hC_g_c he_x_104 (k := 0) (lo := 0) (hi := 3) (by decide +kernel) (by decide +kernel) (by decide +kernel)
        refine lv_icmp_ge (tgt := 94) hx hb dX12_worthOf_53 (by decide) (fun c_105 => ?_) (fun c_105 => ?_)
        · have b_106 := z_fgeT c_105
          refine lv_iload_n hx hb dX12_worthOf_94 rfl (lv_at hl 1 rfl) ?_
          refine lv_if_ne (tgt := 104) hx hb dX12_worthOf_95 (by decide) (fun h9 => (z_no (by have h8 := z_fneT h9; omega))) (fun c_107 => ?_)
          have b_108 := z_feqF c_107
          refine lv_aload_n hx hb dX12_worthOf_98 rfl (lv_at hl 0 rfl) ?_
          refine lv_iload hx hb dX12_worthOf_99 (lv_at hl 5 rfl) ?_
          refine va_put (D := G) (ci := 12) (v := .int v_83) (ty := .int) (C := RX12) (T := TX12) (N := 65) hx hb hts inT12 tyX12 tyX12_ok nmX12 hown hK hP hD hS 0 rfl rfl 59 (by decide) (hts _ tw_1942) (fun _ h9 => h9) rfl (tyX12_ok 59 (by decide)) rfl rfl (Nat.le_of_ble_eq_true rfl) dX12_worthOf_101 (fun H locs hP hD hS => ?_)
          refine lv_lload hx hb dX12_worthOf_104 (lv_at hl 4 rfl) ?_
          have hpost : (0 ≤ v_83.toInt ∧ v_83.toInt ≤ 4) := hr_v_83
          exact hret _ _ _ _ _ _ (v_83, g_87) [0, 1, 2, 3] hP hD hS rfl (by decide) dX12_worthOf_106 hpost
        · have b_109 := z_fltF c_105
          refine lv_aload_n hx hb dX12_worthOf_56 rfl (lv_at hl 0 rfl) ?_
          refine lv_iload_n hx hb dX12_worthOf_57 rfl (lv_at hl 1 rfl) ?_
          refine lv_iload_n hx hb dX12_worthOf_58 rfl (lv_at hl 2 rfl) ?_
          refine lv_iload_n hx hb dX12_worthOf_59 rfl (lv_at hl 3 rfl) ?_
          refine lv_iload hx hb dX12_worthOf_60 (lv_at hl 7 rfl) ?_
          refine z_callVl (As := [.int pp, .int 4, .int d, .int v_85]) (rest := []) (wr := []) ⟨hx, hb, hml, hown, hts⟩ hK hE hT hP hD hS hA (r_feltWorth_4 l G cA h0 m_status m_thrown m_above m_under a_traySort a_trayMany a_numbers a_tape m_taped m_textEnd m_faultKind m_faultAt m_bad m_badAt m_token m_at m_behind m_number m_letters m_word a_c a_words m_markMany a_there a_tried a_best a_found m_thereMany m_foundMany m_orderHow m_orderRing m_orderMany m_hasBest m_bestTop m_bestBy a_weights a_shared m_random m_truePlace m_trueWay m_seconds m_done m_feelings m_tries m_leftOver m_playDoor m_playRing m_isOpen m_isOver m_wasTried m_hasPlayed a_feltNow a_last a_kept m_hasSeconds m_hasTurned m_hasRound a_hasFeels a_isOn v_86 m_meanTop m_meanBy a_order m_rowMany m_newSteps g_c g_there g_87 pp d v_85 hr_pp hr_d (by omega) hr_m_thereMany hC_g_c hC_g_there) lk_RX12_369 ⟨rfl, rfl⟩ ⟨Nat.le_of_ble_eq_true rfl, Nat.le_of_ble_eq_true rfl⟩ 12 rfl rfl rfl [0, 1, 2, 3] [] rfl rfl (by decide) rfl hl.1 rfl (lv_room (Nat.le_of_ble_eq_true rfl)) dX12_worthOf_62 ⟨Nat.le_of_ble_eq_true rfl, Nat.le_of_ble_eq_true rfl⟩ (fun r_112 u_113 H locs hw hP hD hS => ?_)
          obtain ⟨n_110, n_111⟩ := u_113
          try dsimp only at hw
          refine lv_lstore (lv' := [(7, .long r_112), (0, .ref h0), (1, .int pp), (2, .int 4), (3, .int d), (4, .long v_82), (6, .int v_83), (9, .int v_85)]) hx hb dX12_worthOf_65 hl (by decide) rfl (fun ls hl => ?_)
          refine lv_lload hx hb dX12_worthOf_67 (lv_at hl 0 rfl) ?_
          refine lv_lload hx hb dX12_worthOf_69 (lv_at hl 5 rfl) ?_
          refine W.lcmp hx hb dX12_worthOf_71 ?_
          refine lv_if_gt (tgt := 78) hx hb dX12_worthOf_72 (by decide) (fun c_114 => ?_) (fun c_114 => ?_)
          · have b_115 := z_fgtTl c_114
            refine lv_lload hx hb dX12_worthOf_78 (lv_at hl 0 rfl) ?_
            refine lv_lstore (lv' := [(4, .long r_112), (7, .long r_112), (0, .ref h0), (1, .int pp), (2, .int 4), (3, .int d), (6, .int v_83), (9, .int v_85)]) hx hb dX12_worthOf_80 hl (by decide) rfl (fun ls hl => ?_)
            refine lv_iconst (v := 2) hx hb dX12_worthOf_82 (by decide) ?_
            refine lv_iload hx hb dX12_worthOf_83 (lv_at hl 7 rfl) ?_
            refine lv_iadd hx hb dX12_worthOf_85 ?_
            refine lv_topi (fun x_116 he_x_116 => ?_)
            have hq_x_116 := z_addq he_x_116 hk_2 (rfl : v_85.toInt = _) (by omega) (by omega)
            refine lv_istore (lv' := [(6, .int x_116), (4, .long r_112), (7, .long r_112), (0, .ref h0), (1, .int pp), (2, .int 4), (3, .int d), (9, .int v_85)]) hx hb dX12_worthOf_86 hl (by decide) rfl (fun ls hl => ?_)
            obtain ⟨x_117, he_x_117⟩ : ∃ z : Int32, z = v_85 + 1 := ⟨_, rfl⟩
            have hq_x_117 := z_addq he_x_117 (rfl : v_85.toInt = _) hk_1 (by omega) (by omega)
            refine lv_iinc (v := x_117) (lv' := [(9, .int x_117), (6, .int x_116), (4, .long r_112), (7, .long r_112), (0, .ref h0), (1, .int pp), (2, .int 4), (3, .int d)]) hx hb dX12_worthOf_88 hl (k := 7) rfl ((z_ofi (by decide +kernel)).trans he_x_117.symm) (by decide) rfl (fun ls hl => ?_)
            refine lv_goto (tgt := 45) hx hb dX12_worthOf_91 (by decide) ?_
            exact ih_103 r_112 x_116 r_112 x_117 n_110 n_111 H locs ls (by omega) (by omega) (by omega) hP hD hS (lv_sub hl [4, 5, 6, 7, 2, 1, 3, 0] rfl)
          · have b_118 := z_fleFl c_114
            refine lv_goto (tgt := 88) hx hb dX12_worthOf_75 (by decide) ?_
            obtain ⟨x_119, he_x_119⟩ : ∃ z : Int32, z = v_85 + 1 := ⟨_, rfl⟩
            have hq_x_119 := z_addq he_x_119 (rfl : v_85.toInt = _) hk_1 (by omega) (by omega)
            refine lv_iinc (v := x_119) (lv' := [(9, .int x_119), (7, .long r_112), (0, .ref h0), (1, .int pp), (2, .int 4), (3, .int d), (4, .long v_82), (6, .int v_83)]) hx hb dX12_worthOf_88 hl (k := 7) rfl ((z_ofi (by decide +kernel)).trans he_x_119.symm) (by decide) rfl (fun ls hl => ?_)
            refine lv_goto (tgt := 45) hx hb dX12_worthOf_91 (by decide) ?_
            exact ih_103 v_82 v_83 r_112 x_119 n_110 n_111 H locs ls (by omega) hr_v_83 (by omega) hP hD hS (lv_sub hl [2, 3, 4, 5, 6, 7, 1, 0] rfl)
    exact hlp_102 _ r_3 0 r_7 0 n_5 n_6 _ _ _ (Nat.lt_succ_self _) (by decide +kernel) (by decide +kernel) hP hD hS (lv_sub hl [4, 5, 6, 7, 3, 2, 1, 0] rfl)
  · have b_120 := z_fgtFl c_9
    refine lv_lload hx hb dX12_worthOf_35 (lv_at hl 0 rfl) ?_
    refine lv_lstore (lv' := [(4, .long r_7), (7, .long r_7), (6, .int 0), (0, .ref h0), (1, .int pp), (2, .int 4), (3, .int d)]) hx hb dX12_worthOf_37 hl (by decide) rfl (fun ls hl => ?_)
    refine lv_iconst (v := 1) hx hb dX12_worthOf_39 (by decide) ?_
    refine lv_istore (lv' := [(6, .int 1), (4, .long r_7), (7, .long r_7), (0, .ref h0), (1, .int pp), (2, .int 4), (3, .int d)]) hx hb dX12_worthOf_40 hl (by decide) rfl (fun ls hl => ?_)
    refine lv_iconst (v := 0) hx hb dX12_worthOf_42 (by decide) ?_
    refine lv_istore (lv' := [(9, .int 0), (6, .int 1), (4, .long r_7), (7, .long r_7), (0, .ref h0), (1, .int pp), (2, .int 4), (3, .int d)]) hx hb dX12_worthOf_43 hl (by decide) rfl (fun ls hl => ?_)
    have hlp_212 : ∀ (n : Nat) (v_192 : Int64) (v_193 : Int32) (v_194 : Int64) (v_195 : Int32) (v_196 : Int32) (g_197 : Nat → Int64) (H : Heap) (locs : List Loc) (ls : Array Slot), (2147483647 - v_195.toInt).toNat < n → (1 ≤ v_193.toInt ∧ v_193.toInt ≤ 4) → (0 ≤ v_195.toInt ∧ v_195.toInt ≤ 3) → va_P G vwCl [(h0, .inr (12, [.int m_status, .int m_thrown, .long m_above, .long m_under, .ref a_traySort, .ref a_trayMany, .ref a_numbers, .ref a_tape, .int m_taped, .int m_textEnd, .int m_faultKind, .int m_faultAt, .int m_bad, .int m_badAt, .int m_token, .int m_at, .int m_behind, .int m_number, .int m_letters, .long m_word, .ref a_c, .ref a_words, .int m_markMany, .ref a_there, .ref a_tried, .ref a_best, .ref a_found, .int m_thereMany, .int m_foundMany, .int m_orderHow, .int m_orderRing, .int m_orderMany, .int m_hasBest, .long m_bestTop, .long m_bestBy, .ref a_weights, .ref a_shared, .int m_random, .int m_truePlace, .int m_trueWay, .int m_seconds, .int m_done, .int m_feelings, .int m_tries, .int m_leftOver, .int m_playDoor, .int m_playRing, .int m_isOpen, .int m_isOver, .int m_wasTried, .int m_hasPlayed, .ref a_feltNow, .ref a_last, .ref a_kept, .int m_hasSeconds, .int m_hasTurned, .int m_hasRound, .ref a_hasFeels, .ref a_isOn, .int v_196, .long m_meanTop, .long m_meanBy, .ref a_order, .int m_rowMany, .int m_newSteps])), (a_c, .inl (cA.1 0, 1825, .inl g_c)), (a_there, .inl (cA.1 0, 10, .inl g_there)), (a_weights, .inl (cA.1 1, 100, .inr (.inl g_197)))] H → va_D A [(h0, .inr (12, [.int m_status, .int m_thrown, .long m_above, .long m_under, .ref a_traySort, .ref a_trayMany, .ref a_numbers, .ref a_tape, .int m_taped, .int m_textEnd, .int m_faultKind, .int m_faultAt, .int m_bad, .int m_badAt, .int m_token, .int m_at, .int m_behind, .int m_number, .int m_letters, .long m_word, .ref a_c, .ref a_words, .int m_markMany, .ref a_there, .ref a_tried, .ref a_best, .ref a_found, .int m_thereMany, .int m_foundMany, .int m_orderHow, .int m_orderRing, .int m_orderMany, .int m_hasBest, .long m_bestTop, .long m_bestBy, .ref a_weights, .ref a_shared, .int m_random, .int m_truePlace, .int m_trueWay, .int m_seconds, .int m_done, .int m_feelings, .int m_tries, .int m_leftOver, .int m_playDoor, .int m_playRing, .int m_isOpen, .int m_isOver, .int m_wasTried, .int m_hasPlayed, .ref a_feltNow, .ref a_last, .ref a_kept, .int m_hasSeconds, .int m_hasTurned, .int m_hasRound, .ref a_hasFeels, .ref a_isOn, .int v_196, .long m_meanTop, .long m_meanBy, .ref a_order, .int m_rowMany, .int m_newSteps])), (a_c, .inl (cA.1 0, 1825, .inl g_c)), (a_there, .inl (cA.1 0, 10, .inl g_there)), (a_weights, .inl (cA.1 1, 100, .inr (.inl g_197)))] → va_S A s.heap H locs → lv_has ls 10 [(0, .ref h0), (1, .int pp), (2, .int 4), (3, .int d), (4, .long v_192), (6, .int v_193), (7, .long v_194), (9, .int v_195)] → W p l e ({ frames := 9, cells := 0, slots := 0, locals := 247 }) s m args below meth c H locs 0 0 Q (F0 m 45 ls []) := by
      intro n
      induction n with
      | zero =>
        intro v_192 v_193 v_194 v_195 v_196 g_197 H locs ls hmu_hlp_212 hr_v_193 hr_v_195 hP hD hS hl
        exact absurd hmu_hlp_212 (Nat.not_lt_zero _)
      | succ n ih_213 =>
        intro v_192 v_193 v_194 v_195 v_196 g_197 H locs ls hmu_hlp_212 hr_v_193 hr_v_195 hP hD hS hl
        refine lv_iload hx hb dX12_worthOf_45 (lv_at hl 7 rfl) ?_
        refine lv_aload_n hx hb dX12_worthOf_47 rfl (lv_at hl 0 rfl) ?_
        refine va_get (D := G) (ci := 12) (v := .ref a_c) (C := RX12) (T := TX12) (N := 65) hx hb hts inT12 hown hK hP 0 rfl rfl 20 (by decide) (hts _ tw_1905) (fun _ h9 => h9) rfl dX12_worthOf_48 ?_
        refine lv_iconst (v := 0) hx hb dX12_worthOf_51 (by decide) ?_
        refine va_iald hx hb hK hP 1 0 rfl rfl (z_in (i := 0) (n := 1825) (by decide +kernel) (by decide +kernel)) dX12_worthOf_52 ?_
        refine lv_topi (fun x_214 he_x_214 => ?_)
        have hr_x_214 := z_ctk hC_g_c he_x_214 (k := 0) (lo := 0) (hi := 3) (by decide +kernel) (by decide +kernel) (by decide +kernel)
        refine lv_icmp_ge (tgt := 94) hx hb dX12_worthOf_53 (by decide) (fun c_215 => ?_) (fun c_215 => ?_)
        · have b_216 := z_fgeT c_215
          refine lv_iload_n hx hb dX12_worthOf_94 rfl (lv_at hl 1 rfl) ?_
          refine lv_if_ne (tgt := 104) hx hb dX12_worthOf_95 (by decide) (fun h9 => (z_no (by have h8 := z_fneT h9; omega))) (fun c_217 => ?_)
          have b_218 := z_feqF c_217
          refine lv_aload_n hx hb dX12_worthOf_98 rfl (lv_at hl 0 rfl) ?_
          refine lv_iload hx hb dX12_worthOf_99 (lv_at hl 5 rfl) ?_
          refine va_put (D := G) (ci := 12) (v := .int v_193) (ty := .int) (C := RX12) (T := TX12) (N := 65) hx hb hts inT12 tyX12 tyX12_ok nmX12 hown hK hP hD hS 0 rfl rfl 59 (by decide) (hts _ tw_1942) (fun _ h9 => h9) rfl (tyX12_ok 59 (by decide)) rfl rfl (Nat.le_of_ble_eq_true rfl) dX12_worthOf_101 (fun H locs hP hD hS => ?_)
          refine lv_lload hx hb dX12_worthOf_104 (lv_at hl 4 rfl) ?_
          have hpost : (0 ≤ v_193.toInt ∧ v_193.toInt ≤ 4) := (z_rgw hr_v_193 (by decide) (by decide))
          exact hret _ _ _ _ _ _ (v_193, g_197) [0, 1, 2, 3] hP hD hS rfl (by decide) dX12_worthOf_106 hpost
        · have b_219 := z_fltF c_215
          refine lv_aload_n hx hb dX12_worthOf_56 rfl (lv_at hl 0 rfl) ?_
          refine lv_iload_n hx hb dX12_worthOf_57 rfl (lv_at hl 1 rfl) ?_
          refine lv_iload_n hx hb dX12_worthOf_58 rfl (lv_at hl 2 rfl) ?_
          refine lv_iload_n hx hb dX12_worthOf_59 rfl (lv_at hl 3 rfl) ?_
          refine lv_iload hx hb dX12_worthOf_60 (lv_at hl 7 rfl) ?_
          refine z_callVl (As := [.int pp, .int 4, .int d, .int v_195]) (rest := []) (wr := []) ⟨hx, hb, hml, hown, hts⟩ hK hE hT hP hD hS hA (r_feltWorth_4 l G cA h0 m_status m_thrown m_above m_under a_traySort a_trayMany a_numbers a_tape m_taped m_textEnd m_faultKind m_faultAt m_bad m_badAt m_token m_at m_behind m_number m_letters m_word a_c a_words m_markMany a_there a_tried a_best a_found m_thereMany m_foundMany m_orderHow m_orderRing m_orderMany m_hasBest m_bestTop m_bestBy a_weights a_shared m_random m_truePlace m_trueWay m_seconds m_done m_feelings m_tries m_leftOver m_playDoor m_playRing m_isOpen m_isOver m_wasTried m_hasPlayed a_feltNow a_last a_kept m_hasSeconds m_hasTurned m_hasRound a_hasFeels a_isOn v_196 m_meanTop m_meanBy a_order m_rowMany m_newSteps g_c g_there g_197 pp d v_195 hr_pp hr_d (by omega) hr_m_thereMany hC_g_c hC_g_there) lk_RX12_369 ⟨rfl, rfl⟩ ⟨Nat.le_of_ble_eq_true rfl, Nat.le_of_ble_eq_true rfl⟩ 12 rfl rfl rfl [0, 1, 2, 3] [] rfl rfl (by decide) rfl hl.1 rfl (lv_room (Nat.le_of_ble_eq_true rfl)) dX12_worthOf_62 ⟨Nat.le_of_ble_eq_true rfl, Nat.le_of_ble_eq_true rfl⟩ (fun r_222 u_223 H locs hw hP hD hS => ?_)
          obtain ⟨n_220, n_221⟩ := u_223
          try dsimp only at hw
          refine lv_lstore (lv' := [(7, .long r_222), (0, .ref h0), (1, .int pp), (2, .int 4), (3, .int d), (4, .long v_192), (6, .int v_193), (9, .int v_195)]) hx hb dX12_worthOf_65 hl (by decide) rfl (fun ls hl => ?_)
          refine lv_lload hx hb dX12_worthOf_67 (lv_at hl 0 rfl) ?_
          refine lv_lload hx hb dX12_worthOf_69 (lv_at hl 5 rfl) ?_
          refine W.lcmp hx hb dX12_worthOf_71 ?_
          refine lv_if_gt (tgt := 78) hx hb dX12_worthOf_72 (by decide) (fun c_224 => ?_) (fun c_224 => ?_)
          · have b_225 := z_fgtTl c_224
            refine lv_lload hx hb dX12_worthOf_78 (lv_at hl 0 rfl) ?_
            refine lv_lstore (lv' := [(4, .long r_222), (7, .long r_222), (0, .ref h0), (1, .int pp), (2, .int 4), (3, .int d), (6, .int v_193), (9, .int v_195)]) hx hb dX12_worthOf_80 hl (by decide) rfl (fun ls hl => ?_)
            refine lv_iconst (v := 2) hx hb dX12_worthOf_82 (by decide) ?_
            refine lv_iload hx hb dX12_worthOf_83 (lv_at hl 7 rfl) ?_
            refine lv_iadd hx hb dX12_worthOf_85 ?_
            refine lv_topi (fun x_226 he_x_226 => ?_)
            have hq_x_226 := z_addq he_x_226 hk_2 (rfl : v_195.toInt = _) (by omega) (by omega)
            refine lv_istore (lv' := [(6, .int x_226), (4, .long r_222), (7, .long r_222), (0, .ref h0), (1, .int pp), (2, .int 4), (3, .int d), (9, .int v_195)]) hx hb dX12_worthOf_86 hl (by decide) rfl (fun ls hl => ?_)
            obtain ⟨x_227, he_x_227⟩ : ∃ z : Int32, z = v_195 + 1 := ⟨_, rfl⟩
            have hq_x_227 := z_addq he_x_227 (rfl : v_195.toInt = _) hk_1 (by omega) (by omega)
            refine lv_iinc (v := x_227) (lv' := [(9, .int x_227), (6, .int x_226), (4, .long r_222), (7, .long r_222), (0, .ref h0), (1, .int pp), (2, .int 4), (3, .int d)]) hx hb dX12_worthOf_88 hl (k := 7) rfl ((z_ofi (by decide +kernel)).trans he_x_227.symm) (by decide) rfl (fun ls hl => ?_)
            refine lv_goto (tgt := 45) hx hb dX12_worthOf_91 (by decide) ?_
            exact ih_213 r_222 x_226 r_222 x_227 n_220 n_221 H locs ls (by omega) (by omega) (by omega) hP hD hS (lv_sub hl [4, 5, 6, 7, 2, 1, 3, 0] rfl)
          · have b_228 := z_fleFl c_224
            refine lv_goto (tgt := 88) hx hb dX12_worthOf_75 (by decide) ?_
            obtain ⟨x_229, he_x_229⟩ : ∃ z : Int32, z = v_195 + 1 := ⟨_, rfl⟩
            have hq_x_229 := z_addq he_x_229 (rfl : v_195.toInt = _) hk_1 (by omega) (by omega)
            refine lv_iinc (v := x_229) (lv' := [(9, .int x_229), (7, .long r_222), (0, .ref h0), (1, .int pp), (2, .int 4), (3, .int d), (4, .long v_192), (6, .int v_193)]) hx hb dX12_worthOf_88 hl (k := 7) rfl ((z_ofi (by decide +kernel)).trans he_x_229.symm) (by decide) rfl (fun ls hl => ?_)
            refine lv_goto (tgt := 45) hx hb dX12_worthOf_91 (by decide) ?_
            exact ih_213 v_192 v_193 r_222 x_229 n_220 n_221 H locs ls (by omega) hr_v_193 (by omega) hP hD hS (lv_sub hl [2, 3, 4, 5, 6, 7, 1, 0] rfl)
    exact hlp_212 _ r_7 1 r_7 0 n_5 n_6 _ _ _ (Nat.lt_succ_self _) (by decide +kernel) (by decide +kernel) hP hD hS (lv_sub hl [4, 5, 6, 7, 2, 1, 3, 0] rfl)
set_option maxHeartbeats 4000000 in
set_option maxRecDepth 100000 in
theorem r_search (l : Launch) (G : va_G) (cA : zCA) (h0 : Nat) (m_status : Int32) (m_thrown : Int32) (m_above : Int64) (m_under : Int64) (a_traySort : Nat) (a_trayMany : Nat) (a_numbers : Nat) (a_tape : Nat) (m_taped : Int32) (m_textEnd : Int32) (m_faultKind : Int32) (m_faultAt : Int32) (m_bad : Int32) (m_badAt : Int32) (m_token : Int32) (m_at : Int32) (m_behind : Int32) (m_number : Int32) (m_letters : Int32) (m_word : Int64) (a_c : Nat) (a_words : Nat) (m_markMany : Int32) (a_there : Nat) (a_tried : Nat) (a_best : Nat) (a_found : Nat) (m_thereMany : Int32) (m_foundMany : Int32) (m_orderHow : Int32) (m_orderRing : Int32) (m_orderMany : Int32) (m_hasBest : Int32) (m_bestTop : Int64) (m_bestBy : Int64) (a_weights : Nat) (a_shared : Nat) (m_random : Int32) (m_truePlace : Int32) (m_trueWay : Int32) (m_seconds : Int32) (m_done : Int32) (m_feelings : Int32) (m_tries : Int32) (m_leftOver : Int32) (m_playDoor : Int32) (m_playRing : Int32) (m_isOpen : Int32) (m_isOver : Int32) (m_wasTried : Int32) (m_hasPlayed : Int32) (a_feltNow : Nat) (a_last : Nat) (a_kept : Nat) (m_hasSeconds : Int32) (m_hasTurned : Int32) (m_hasRound : Int32) (a_hasFeels : Nat) (a_isOn : Nat) (m_firstAct : Int32) (m_meanTop : Int64) (m_meanBy : Int64) (a_order : Nat) (m_rowMany : Int32) (m_newSteps : Int32) (g_c : Nat → Int32) (g_there : Nat → Int32) (d : Int32) (pp : Int32) (w : Int32) (hr_d : 0 ≤ d.toInt ∧ d.toInt ≤ 4) (hr_pp : 0 ≤ pp.toInt ∧ pp.toInt ≤ 9) (hr_w : 0 ≤ w.toInt ∧ w.toInt ≤ 1) (hr_m_thereMany : 0 ≤ m_thereMany.toInt ∧ m_thereMany.toInt ≤ 10) (hC_g_c : zC g_c) (hC_g_there : zRg 10 0 9 g_there) (hp_0 : m_thereMany.toInt ≤ 0 ∨ pp.toInt < m_thereMany.toInt) : zCi l yX12_search cX12_search 7 (some .int) ({ frames := 1, cells := 0, slots := 0, locals := 22 }) G cA [.ref h0, .int d, .int pp, .int w] [(h0, .inr (12, [.int m_status, .int m_thrown, .long m_above, .long m_under, .ref a_traySort, .ref a_trayMany, .ref a_numbers, .ref a_tape, .int m_taped, .int m_textEnd, .int m_faultKind, .int m_faultAt, .int m_bad, .int m_badAt, .int m_token, .int m_at, .int m_behind, .int m_number, .int m_letters, .long m_word, .ref a_c, .ref a_words, .int m_markMany, .ref a_there, .ref a_tried, .ref a_best, .ref a_found, .int m_thereMany, .int m_foundMany, .int m_orderHow, .int m_orderRing, .int m_orderMany, .int m_hasBest, .long m_bestTop, .long m_bestBy, .ref a_weights, .ref a_shared, .int m_random, .int m_truePlace, .int m_trueWay, .int m_seconds, .int m_done, .int m_feelings, .int m_tries, .int m_leftOver, .int m_playDoor, .int m_playRing, .int m_isOpen, .int m_isOver, .int m_wasTried, .int m_hasPlayed, .ref a_feltNow, .ref a_last, .ref a_kept, .int m_hasSeconds, .int m_hasTurned, .int m_hasRound, .ref a_hasFeels, .ref a_isOn, .int m_firstAct, .long m_meanTop, .long m_meanBy, .ref a_order, .int m_rowMany, .int m_newSteps])), (a_c, .inl (cA.1 0, 1825, .inl g_c)), (a_there, .inl (cA.1 0, 10, .inl g_there))] (S := Unit) (fun (r : Int32) (u : Unit) => ((-1) ≤ r.toInt ∧ r.toInt ≤ 2178) ∧ (r.toInt < 0 → ¬ zop g_c g_there m_thereMany.toInt d.toInt) ∧ (0 ≤ r.toInt → zop g_c g_there m_thereMany.toInt d.toInt)) (fun (u : Unit) => [(h0, .inr (12, [.int m_status, .int m_thrown, .long m_above, .long m_under, .ref a_traySort, .ref a_trayMany, .ref a_numbers, .ref a_tape, .int m_taped, .int m_textEnd, .int m_faultKind, .int m_faultAt, .int m_bad, .int m_badAt, .int m_token, .int m_at, .int m_behind, .int m_number, .int m_letters, .long m_word, .ref a_c, .ref a_words, .int m_markMany, .ref a_there, .ref a_tried, .ref a_best, .ref a_found, .int m_thereMany, .int m_foundMany, .int m_orderHow, .int m_orderRing, .int m_orderMany, .int m_hasBest, .long m_bestTop, .long m_bestBy, .ref a_weights, .ref a_shared, .int m_random, .int m_truePlace, .int m_trueWay, .int m_seconds, .int m_done, .int m_feelings, .int m_tries, .int m_leftOver, .int m_playDoor, .int m_playRing, .int m_isOpen, .int m_isOver, .int m_wasTried, .int m_hasPlayed, .ref a_feltNow, .ref a_last, .ref a_kept, .int m_hasSeconds, .int m_hasTurned, .int m_hasRound, .ref a_hasFeels, .ref a_isOn, .int m_firstAct, .long m_meanTop, .long m_meanBy, .ref a_order, .int m_rowMany, .int m_newSteps])), (a_c, .inl (cA.1 0, 1825, .inl g_c)), (a_there, .inl (cA.1 0, 10, .inl g_there))]) 0 0 := by
  have hk_m1 : ((-1) : Int32).toInt = (-1) := by decide +kernel
  have hk_0 : (0 : Int32).toInt = 0 := by decide +kernel
  have hk_1 : (1 : Int32).toInt = 1 := by decide +kernel
  refine z_start2i (own := RX12) (by decide) (Nat.le_of_ble_eq_true rfl) rfl ?_
  intro p e s m args below meth c A ls Q hx hb hml hts hown hK hE hT hP hD hS hA hl hret
  have hl : lv_has ls 7 [(0, .ref h0), (1, .int d), (2, .int pp), (3, .int w)] := hl
  refine lv_iload_n hx hb dX12_search_0 rfl (lv_at hl 2 rfl) ?_
  refine lv_istore (lv' := [(4, .int pp), (0, .ref h0), (1, .int d), (2, .int pp), (3, .int w)]) hx hb dX12_search_1 hl (by decide) rfl (fun ls hl => ?_)
  refine lv_iconst (v := 0) hx hb dX12_search_3 (by decide) ?_
  refine lv_istore (lv' := [(5, .int 0), (4, .int pp), (0, .ref h0), (1, .int d), (2, .int pp), (3, .int w)]) hx hb dX12_search_4 hl (by decide) rfl (fun ls hl => ?_)
  refine lv_iconst (v := 0) hx hb dX12_search_6 (by decide) ?_
  refine lv_istore (lv' := [(6, .int 0), (5, .int 0), (4, .int pp), (0, .ref h0), (1, .int d), (2, .int pp), (3, .int w)]) hx hb dX12_search_7 hl (by decide) rfl (fun ls hl => ?_)
  have hlp_519 : ∀ (n : Nat) (v_470 : Int32) (v_471 : Int32) (v_472 : Int32) (H : Heap) (locs : List Loc) (ls : Array Slot), (2147483647 - v_472.toInt).toNat < n → (0 ≤ v_470.toInt ∧ v_470.toInt ≤ 9) → (0 ≤ v_471.toInt ∧ v_471.toInt ≤ 1980) → (0 ≤ v_472.toInt ∧ v_472.toInt ≤ 10) → (zNp g_c g_there m_thereMany.toInt d.toInt pp.toInt w.toInt v_472.toInt) → (zPl m_thereMany.toInt pp.toInt w.toInt v_472.toInt v_470.toInt) → (m_thereMany.toInt ≤ 0 ∨ v_470.toInt < m_thereMany.toInt) → (v_471.toInt ≤ 198 * v_472.toInt) → va_P G vwCl [(h0, .inr (12, [.int m_status, .int m_thrown, .long m_above, .long m_under, .ref a_traySort, .ref a_trayMany, .ref a_numbers, .ref a_tape, .int m_taped, .int m_textEnd, .int m_faultKind, .int m_faultAt, .int m_bad, .int m_badAt, .int m_token, .int m_at, .int m_behind, .int m_number, .int m_letters, .long m_word, .ref a_c, .ref a_words, .int m_markMany, .ref a_there, .ref a_tried, .ref a_best, .ref a_found, .int m_thereMany, .int m_foundMany, .int m_orderHow, .int m_orderRing, .int m_orderMany, .int m_hasBest, .long m_bestTop, .long m_bestBy, .ref a_weights, .ref a_shared, .int m_random, .int m_truePlace, .int m_trueWay, .int m_seconds, .int m_done, .int m_feelings, .int m_tries, .int m_leftOver, .int m_playDoor, .int m_playRing, .int m_isOpen, .int m_isOver, .int m_wasTried, .int m_hasPlayed, .ref a_feltNow, .ref a_last, .ref a_kept, .int m_hasSeconds, .int m_hasTurned, .int m_hasRound, .ref a_hasFeels, .ref a_isOn, .int m_firstAct, .long m_meanTop, .long m_meanBy, .ref a_order, .int m_rowMany, .int m_newSteps])), (a_c, .inl (cA.1 0, 1825, .inl g_c)), (a_there, .inl (cA.1 0, 10, .inl g_there))] H → va_D A [(h0, .inr (12, [.int m_status, .int m_thrown, .long m_above, .long m_under, .ref a_traySort, .ref a_trayMany, .ref a_numbers, .ref a_tape, .int m_taped, .int m_textEnd, .int m_faultKind, .int m_faultAt, .int m_bad, .int m_badAt, .int m_token, .int m_at, .int m_behind, .int m_number, .int m_letters, .long m_word, .ref a_c, .ref a_words, .int m_markMany, .ref a_there, .ref a_tried, .ref a_best, .ref a_found, .int m_thereMany, .int m_foundMany, .int m_orderHow, .int m_orderRing, .int m_orderMany, .int m_hasBest, .long m_bestTop, .long m_bestBy, .ref a_weights, .ref a_shared, .int m_random, .int m_truePlace, .int m_trueWay, .int m_seconds, .int m_done, .int m_feelings, .int m_tries, .int m_leftOver, .int m_playDoor, .int m_playRing, .int m_isOpen, .int m_isOver, .int m_wasTried, .int m_hasPlayed, .ref a_feltNow, .ref a_last, .ref a_kept, .int m_hasSeconds, .int m_hasTurned, .int m_hasRound, .ref a_hasFeels, .ref a_isOn, .int m_firstAct, .long m_meanTop, .long m_meanBy, .ref a_order, .int m_rowMany, .int m_newSteps])), (a_c, .inl (cA.1 0, 1825, .inl g_c)), (a_there, .inl (cA.1 0, 10, .inl g_there))] → va_S A s.heap H locs → lv_has ls 7 [(0, .ref h0), (1, .int d), (2, .int pp), (3, .int w), (4, .int v_470), (5, .int v_471), (6, .int v_472)] → W p l e ({ frames := 1, cells := 0, slots := 0, locals := 22 }) s m args below meth c H locs 0 0 Q (F0 m 9 ls []) := by
    intro n
    induction n with
    | zero =>
      intro v_470 v_471 v_472 H locs ls hmu_hlp_519 hr_v_470 hr_v_471 hr_v_472 hi_515 hi_516 hi_517 hi_518 hP hD hS hl
      exact absurd hmu_hlp_519 (Nat.not_lt_zero _)
    | succ n ih_520 =>
      intro v_470 v_471 v_472 H locs ls hmu_hlp_519 hr_v_470 hr_v_471 hr_v_472 hi_515 hi_516 hi_517 hi_518 hP hD hS hl
      refine lv_iload hx hb dX12_search_9 (lv_at hl 6 rfl) ?_
      refine lv_aload_n hx hb dX12_search_11 rfl (lv_at hl 0 rfl) ?_
      refine va_get (D := G) (ci := 12) (v := .int m_thereMany) (C := RX12) (T := TX12) (N := 65) hx hb hts inT12 hown hK hP 0 rfl rfl 27 (by decide) (hts _ tw_1912) (fun _ h9 => h9) rfl dX12_search_12 ?_
      refine lv_icmp_ge (tgt := 103) hx hb dX12_search_15 (by decide) (fun c_521 => ?_) (fun c_521 => ?_)
      · have b_522 := z_fgeT c_521
        refine lv_iconst (v := (-1)) hx hb dX12_search_103 (by decide) ?_
        have hpost : ((-1) ≤ ((-1) : Int32).toInt ∧ ((-1) : Int32).toInt ≤ 2178) ∧ (((-1) : Int32).toInt < 0 → ¬ zop g_c g_there m_thereMany.toInt d.toInt) ∧ (0 ≤ ((-1) : Int32).toInt → zop g_c g_there m_thereMany.toInt d.toInt) := ⟨(by decide +kernel), (fun _ => zNp_all hi_515 (by omega) (by omega) (by omega) hp_0), (fun h => z_no (by omega))⟩
        exact hret _ _ _ _ _ _ () [0, 1, 2] hP hD hS rfl (by decide) dX12_search_104 hpost
      · have b_523 := z_fltF c_521
        refine lv_iload hx hb dX12_search_18 (lv_at hl 5 rfl) ?_
        refine lv_aload_n hx hb dX12_search_20 rfl (lv_at hl 0 rfl) ?_
        refine va_get (D := G) (ci := 12) (v := .ref a_c) (C := RX12) (T := TX12) (N := 65) hx hb hts inT12 hown hK hP 0 rfl rfl 20 (by decide) (hts _ tw_1905) (fun _ h9 => h9) rfl dX12_search_21 ?_
        refine lv_bipush (v := 6) hx hb dX12_search_24 (by decide) ?_
        refine va_iald hx hb hK hP 1 0 rfl rfl (z_in (i := 6) (n := 1825) (by decide +kernel) (by decide +kernel)) dX12_search_26 ?_
        refine lv_topi (fun x_524 he_x_524 => ?_)
        have hr_x_524 := z_ctk hC_g_c he_x_524 (k := 6) (lo := 0) (hi := 99) (by decide +kernel) (by decide +kernel) (by decide +kernel)
        refine lv_iload hx hb dX12_search_27 (lv_at hl 6 rfl) ?_
        refine lv_if_ne (tgt := 36) hx hb dX12_search_29 (by decide) (fun c_525 => ?_) (fun c_525 => ?_)
        · have b_526 := z_fneT c_525
          refine lv_aload_n hx hb dX12_search_36 rfl (lv_at hl 0 rfl) ?_
          refine va_get (D := G) (ci := 12) (v := .ref a_c) (C := RX12) (T := TX12) (N := 65) hx hb hts inT12 hown hK hP 0 rfl rfl 20 (by decide) (hts _ tw_1905) (fun _ h9 => h9) rfl dX12_search_37 ?_
          refine lv_bipush (v := 7) hx hb dX12_search_40 (by decide) ?_
          refine va_iald hx hb hK hP 1 0 rfl rfl (z_in (i := 7) (n := 1825) (by decide +kernel) (by decide +kernel)) dX12_search_42 ?_
          refine lv_topi (fun x_527 he_x_527 => ?_)
          have hr_x_527 := z_ctk hC_g_c he_x_527 (k := 7) (lo := 0) (hi := 99) (by decide +kernel) (by decide +kernel) (by decide +kernel)
          refine lv_iadd hx hb dX12_search_43 ?_
          refine lv_topi (fun x_528 he_x_528 => ?_)
          have hq_x_528 := z_addq he_x_528 (rfl : x_524.toInt = _) (rfl : x_527.toInt = _) (by omega) (by omega)
          refine lv_iadd hx hb dX12_search_44 ?_
          refine lv_topi (fun x_529 he_x_529 => ?_)
          have hq_x_529 := z_addq he_x_529 (rfl : v_471.toInt = _) (rfl : x_528.toInt = _) (by omega) (by omega)
          refine lv_istore (lv' := [(5, .int x_529), (0, .ref h0), (1, .int d), (2, .int pp), (3, .int w), (4, .int v_470), (6, .int v_472)]) hx hb dX12_search_45 hl (by decide) rfl (fun ls hl => ?_)
          refine lv_aload_n hx hb dX12_search_47 rfl (lv_at hl 1 rfl) ?_
          refine lv_aload_n hx hb dX12_search_48 rfl (lv_at hl 1 rfl) ?_
          refine va_get (D := G) (ci := 12) (v := .ref a_there) (C := RX12) (T := TX12) (N := 65) hx hb hts inT12 hown hK hP 0 rfl rfl 23 (by decide) (hts _ tw_1908) (fun _ h9 => h9) rfl dX12_search_49 ?_
          refine lv_iload hx hb dX12_search_52 (lv_at hl 5 rfl) ?_
          refine va_iald hx hb hK hP 2 0 rfl rfl (z_inN (by omega) (by omega)) dX12_search_54 ?_
          refine lv_topi (fun x_530 he_x_530 => ?_)
          have hr_x_530 := z_rg hC_g_there he_x_530 (by omega) (by omega)
          refine lv_iload_n hx hb dX12_search_55 rfl (lv_at hl 2 rfl) ?_
          refine z_callVi (As := [.int x_530, .int d]) (rest := []) (wr := [(a_there, .inl (cA.1 0, 10, .inl g_there))]) ⟨hx, hb, hml, hown, hts⟩ hK hE hT hP hD hS hA (r_canOpen l G cA h0 m_status m_thrown m_above m_under a_traySort a_trayMany a_numbers a_tape m_taped m_textEnd m_faultKind m_faultAt m_bad m_badAt m_token m_at m_behind m_number m_letters m_word a_c a_words m_markMany a_there a_tried a_best a_found m_thereMany m_foundMany m_orderHow m_orderRing m_orderMany m_hasBest m_bestTop m_bestBy a_weights a_shared m_random m_truePlace m_trueWay m_seconds m_done m_feelings m_tries m_leftOver m_playDoor m_playRing m_isOpen m_isOver m_wasTried m_hasPlayed a_feltNow a_last a_kept m_hasSeconds m_hasTurned m_hasRound a_hasFeels a_isOn m_firstAct m_meanTop m_meanBy a_order m_rowMany m_newSteps g_c x_530 d hr_x_530 hr_d hC_g_c) lk_RX12_345 ⟨rfl, rfl⟩ ⟨Nat.le_of_ble_eq_true rfl, Nat.le_of_ble_eq_true rfl⟩ 12 rfl rfl rfl [0, 1] [2] rfl rfl (by decide) rfl hl.1 rfl (lv_room (Nat.le_of_ble_eq_true rfl)) dX12_search_56 ⟨Nat.le_of_ble_eq_true rfl, Nat.le_of_ble_eq_true rfl⟩ (fun r_531 u_532 H locs hw hP hD hS => ?_)
          rcases hw with ⟨rfl, hf_533⟩ | ⟨rfl, hf_534⟩
          · skip
            refine lv_if_eq (tgt := 65) hx hb dX12_search_59 (by decide) (fun _ => ?_) (fun h9 => absurd (by decide +kernel) h9)
            refine lv_iload_n hx hb dX12_search_65 rfl (lv_at hl 4 rfl) ?_
            refine lv_if_ne (tgt := 81) hx hb dX12_search_66 (by decide) (fun c_535 => ?_) (fun c_535 => ?_)
            · have b_536 := z_fneT c_535
              refine lv_iload hx hb dX12_search_81 (lv_at hl 5 rfl) ?_
              refine lv_aload_n hx hb dX12_search_83 rfl (lv_at hl 1 rfl) ?_
              refine va_get (D := G) (ci := 12) (v := .int m_thereMany) (C := RX12) (T := TX12) (N := 65) hx hb hts inT12 hown hK hP 1 rfl rfl 27 (by decide) (hts _ tw_1912) (fun _ h9 => h9) rfl dX12_search_84 ?_
              refine lv_iadd hx hb dX12_search_87 ?_
              refine lv_topi (fun x_537 he_x_537 => ?_)
              have hq_x_537 := z_addq he_x_537 (rfl : v_470.toInt = _) (rfl : m_thereMany.toInt = _) (by omega) (by omega)
              refine lv_iconst (v := 1) hx hb dX12_search_88 (by decide) ?_
              refine lv_isub hx hb dX12_search_89 ?_
              refine lv_topi (fun x_538 he_x_538 => ?_)
              have hq_x_538 := z_subq he_x_538 (rfl : x_537.toInt = _) hk_1 (by omega) (by omega)
              refine lv_aload_n hx hb dX12_search_90 rfl (lv_at hl 1 rfl) ?_
              refine va_get (D := G) (ci := 12) (v := .int m_thereMany) (C := RX12) (T := TX12) (N := 65) hx hb hts inT12 hown hK hP 1 rfl rfl 27 (by decide) (hts _ tw_1912) (fun _ h9 => h9) rfl dX12_search_91 ?_
              refine lv_irem hx hb dX12_search_94 (z_nz (by omega)) ?_
              refine lv_topi (fun x_539 he_x_539 => ?_)
              have hr_x_539 := z_remr he_x_539 (by omega) (by omega)
              have hd_x_539 := z_rem2 he_x_539 (by omega) (by omega) (by omega)
              refine lv_istore (lv' := [(4, .int x_539), (5, .int x_529), (0, .ref h0), (1, .int d), (2, .int pp), (3, .int w), (6, .int v_472)]) hx hb dX12_search_95 hl (by decide) rfl (fun ls hl => ?_)
              obtain ⟨x_540, he_x_540⟩ : ∃ z : Int32, z = v_472 + 1 := ⟨_, rfl⟩
              have hq_x_540 := z_addq he_x_540 (rfl : v_472.toInt = _) hk_1 (by omega) (by omega)
              refine lv_iinc (v := x_540) (lv' := [(6, .int x_540), (4, .int x_539), (5, .int x_529), (0, .ref h0), (1, .int d), (2, .int pp), (3, .int w)]) hx hb dX12_search_97 hl (k := 6) rfl ((z_ofi (by decide +kernel)).trans he_x_540.symm) (by decide) rfl (fun ls hl => ?_)
              refine lv_goto (tgt := 9) hx hb dX12_search_100 (by decide) ?_
              have hP := hP.sub (ws' := [(h0, .inr (12, [.int m_status, .int m_thrown, .long m_above, .long m_under, .ref a_traySort, .ref a_trayMany, .ref a_numbers, .ref a_tape, .int m_taped, .int m_textEnd, .int m_faultKind, .int m_faultAt, .int m_bad, .int m_badAt, .int m_token, .int m_at, .int m_behind, .int m_number, .int m_letters, .long m_word, .ref a_c, .ref a_words, .int m_markMany, .ref a_there, .ref a_tried, .ref a_best, .ref a_found, .int m_thereMany, .int m_foundMany, .int m_orderHow, .int m_orderRing, .int m_orderMany, .int m_hasBest, .long m_bestTop, .long m_bestBy, .ref a_weights, .ref a_shared, .int m_random, .int m_truePlace, .int m_trueWay, .int m_seconds, .int m_done, .int m_feelings, .int m_tries, .int m_leftOver, .int m_playDoor, .int m_playRing, .int m_isOpen, .int m_isOver, .int m_wasTried, .int m_hasPlayed, .ref a_feltNow, .ref a_last, .ref a_kept, .int m_hasSeconds, .int m_hasTurned, .int m_hasRound, .ref a_hasFeels, .ref a_isOn, .int m_firstAct, .long m_meanTop, .long m_meanBy, .ref a_order, .int m_rowMany, .int m_newSteps])), (a_c, .inl (cA.1 0, 1825, .inl g_c)), (a_there, .inl (cA.1 0, 10, .inl g_there))]) [1, 2, 0] rfl
              have hD := hD.sub (ws' := [(h0, .inr (12, [.int m_status, .int m_thrown, .long m_above, .long m_under, .ref a_traySort, .ref a_trayMany, .ref a_numbers, .ref a_tape, .int m_taped, .int m_textEnd, .int m_faultKind, .int m_faultAt, .int m_bad, .int m_badAt, .int m_token, .int m_at, .int m_behind, .int m_number, .int m_letters, .long m_word, .ref a_c, .ref a_words, .int m_markMany, .ref a_there, .ref a_tried, .ref a_best, .ref a_found, .int m_thereMany, .int m_foundMany, .int m_orderHow, .int m_orderRing, .int m_orderMany, .int m_hasBest, .long m_bestTop, .long m_bestBy, .ref a_weights, .ref a_shared, .int m_random, .int m_truePlace, .int m_trueWay, .int m_seconds, .int m_done, .int m_feelings, .int m_tries, .int m_leftOver, .int m_playDoor, .int m_playRing, .int m_isOpen, .int m_isOver, .int m_wasTried, .int m_hasPlayed, .ref a_feltNow, .ref a_last, .ref a_kept, .int m_hasSeconds, .int m_hasTurned, .int m_hasRound, .ref a_hasFeels, .ref a_isOn, .int m_firstAct, .long m_meanTop, .long m_meanBy, .ref a_order, .int m_rowMany, .int m_newSteps])), (a_c, .inl (cA.1 0, 1825, .inl g_c)), (a_there, .inl (cA.1 0, 10, .inl g_there))]) [1, 2, 0] (by decide) rfl
              exact ih_520 x_539 x_529 x_540 H locs ls (by omega) (by omega) (by omega) (by omega) (by rw [hq_x_540]; exact zNp_step hi_515 hi_516 (by omega) (by omega) he_x_530 (by omega) hf_533 (by omega) (by omega) (by omega) (by omega)) (by have h9 := hi_516; unfold zPl at h9 ⊢; omega) (by omega) (by omega) hP hD hS (lv_sub hl [3, 4, 5, 6, 1, 2, 0] rfl)
            · have b_541 := z_feqF c_535
              refine lv_iload hx hb dX12_search_69 (lv_at hl 5 rfl) ?_
              refine lv_iconst (v := 1) hx hb dX12_search_71 (by decide) ?_
              refine lv_iadd hx hb dX12_search_72 ?_
              refine lv_topi (fun x_542 he_x_542 => ?_)
              have hq_x_542 := z_addq he_x_542 (rfl : v_470.toInt = _) hk_1 (by omega) (by omega)
              refine lv_aload_n hx hb dX12_search_73 rfl (lv_at hl 1 rfl) ?_
              refine va_get (D := G) (ci := 12) (v := .int m_thereMany) (C := RX12) (T := TX12) (N := 65) hx hb hts inT12 hown hK hP 1 rfl rfl 27 (by decide) (hts _ tw_1912) (fun _ h9 => h9) rfl dX12_search_74 ?_
              refine lv_irem hx hb dX12_search_77 (z_nz (by omega)) ?_
              refine lv_topi (fun x_543 he_x_543 => ?_)
              have hr_x_543 := z_remr he_x_543 (by omega) (by omega)
              have hd_x_543 := z_rem2 he_x_543 (by omega) (by omega) (by omega)
              refine lv_goto (tgt := 95) hx hb dX12_search_78 (by decide) ?_
              refine lv_istore (lv' := [(4, .int x_543), (5, .int x_529), (0, .ref h0), (1, .int d), (2, .int pp), (3, .int w), (6, .int v_472)]) hx hb dX12_search_95 hl (by decide) rfl (fun ls hl => ?_)
              obtain ⟨x_544, he_x_544⟩ : ∃ z : Int32, z = v_472 + 1 := ⟨_, rfl⟩
              have hq_x_544 := z_addq he_x_544 (rfl : v_472.toInt = _) hk_1 (by omega) (by omega)
              refine lv_iinc (v := x_544) (lv' := [(6, .int x_544), (4, .int x_543), (5, .int x_529), (0, .ref h0), (1, .int d), (2, .int pp), (3, .int w)]) hx hb dX12_search_97 hl (k := 6) rfl ((z_ofi (by decide +kernel)).trans he_x_544.symm) (by decide) rfl (fun ls hl => ?_)
              refine lv_goto (tgt := 9) hx hb dX12_search_100 (by decide) ?_
              have hP := hP.sub (ws' := [(h0, .inr (12, [.int m_status, .int m_thrown, .long m_above, .long m_under, .ref a_traySort, .ref a_trayMany, .ref a_numbers, .ref a_tape, .int m_taped, .int m_textEnd, .int m_faultKind, .int m_faultAt, .int m_bad, .int m_badAt, .int m_token, .int m_at, .int m_behind, .int m_number, .int m_letters, .long m_word, .ref a_c, .ref a_words, .int m_markMany, .ref a_there, .ref a_tried, .ref a_best, .ref a_found, .int m_thereMany, .int m_foundMany, .int m_orderHow, .int m_orderRing, .int m_orderMany, .int m_hasBest, .long m_bestTop, .long m_bestBy, .ref a_weights, .ref a_shared, .int m_random, .int m_truePlace, .int m_trueWay, .int m_seconds, .int m_done, .int m_feelings, .int m_tries, .int m_leftOver, .int m_playDoor, .int m_playRing, .int m_isOpen, .int m_isOver, .int m_wasTried, .int m_hasPlayed, .ref a_feltNow, .ref a_last, .ref a_kept, .int m_hasSeconds, .int m_hasTurned, .int m_hasRound, .ref a_hasFeels, .ref a_isOn, .int m_firstAct, .long m_meanTop, .long m_meanBy, .ref a_order, .int m_rowMany, .int m_newSteps])), (a_c, .inl (cA.1 0, 1825, .inl g_c)), (a_there, .inl (cA.1 0, 10, .inl g_there))]) [1, 2, 0] rfl
              have hD := hD.sub (ws' := [(h0, .inr (12, [.int m_status, .int m_thrown, .long m_above, .long m_under, .ref a_traySort, .ref a_trayMany, .ref a_numbers, .ref a_tape, .int m_taped, .int m_textEnd, .int m_faultKind, .int m_faultAt, .int m_bad, .int m_badAt, .int m_token, .int m_at, .int m_behind, .int m_number, .int m_letters, .long m_word, .ref a_c, .ref a_words, .int m_markMany, .ref a_there, .ref a_tried, .ref a_best, .ref a_found, .int m_thereMany, .int m_foundMany, .int m_orderHow, .int m_orderRing, .int m_orderMany, .int m_hasBest, .long m_bestTop, .long m_bestBy, .ref a_weights, .ref a_shared, .int m_random, .int m_truePlace, .int m_trueWay, .int m_seconds, .int m_done, .int m_feelings, .int m_tries, .int m_leftOver, .int m_playDoor, .int m_playRing, .int m_isOpen, .int m_isOver, .int m_wasTried, .int m_hasPlayed, .ref a_feltNow, .ref a_last, .ref a_kept, .int m_hasSeconds, .int m_hasTurned, .int m_hasRound, .ref a_hasFeels, .ref a_isOn, .int m_firstAct, .long m_meanTop, .long m_meanBy, .ref a_order, .int m_rowMany, .int m_newSteps])), (a_c, .inl (cA.1 0, 1825, .inl g_c)), (a_there, .inl (cA.1 0, 10, .inl g_there))]) [1, 2, 0] (by decide) rfl
              exact ih_520 x_543 x_529 x_544 H locs ls (by omega) (by omega) (by omega) (by omega) (by rw [hq_x_544]; exact zNp_step hi_515 hi_516 (by omega) (by omega) he_x_530 (by omega) hf_533 (by omega) (by omega) (by omega) (by omega)) (by have h9 := hi_516; unfold zPl at h9 ⊢; omega) (by omega) (by omega) hP hD hS (lv_sub hl [3, 4, 5, 6, 1, 2, 0] rfl)
          · skip
            refine lv_if_eq (tgt := 65) hx hb dX12_search_59 (by decide) (fun h9 => absurd h9 (by decide +kernel)) (fun _ => ?_)
            refine lv_iload hx hb dX12_search_62 (lv_at hl 0 rfl) ?_
            have hpost : ((-1) ≤ x_529.toInt ∧ x_529.toInt ≤ 2178) ∧ (x_529.toInt < 0 → ¬ zop g_c g_there m_thereMany.toInt d.toInt) ∧ (0 ≤ x_529.toInt → zop g_c g_there m_thereMany.toInt d.toInt) := ⟨(by omega), (fun h => z_no (by omega)), (fun _ => ⟨v_470.toInt.toNat, by omega, by rw [← z_at he_x_530 (a := v_470.toInt.toNat) (by omega)]; exact hf_534⟩)⟩
            exact hret _ _ _ _ _ _ () [1, 2, 0] hP hD hS rfl (by decide) dX12_search_64 hpost
        · have b_545 := z_feqF c_525
          refine lv_iconst (v := 0) hx hb dX12_search_32 (by decide) ?_
          refine lv_goto (tgt := 43) hx hb dX12_search_33 (by decide) ?_
          refine lv_iadd hx hb dX12_search_43 ?_
          refine lv_topi (fun x_546 he_x_546 => ?_)
          have hq_x_546 := z_addq he_x_546 (rfl : x_524.toInt = _) hk_0 (by omega) (by omega)
          refine lv_iadd hx hb dX12_search_44 ?_
          refine lv_topi (fun x_547 he_x_547 => ?_)
          have hq_x_547 := z_addq he_x_547 (rfl : v_471.toInt = _) (rfl : x_546.toInt = _) (by omega) (by omega)
          refine lv_istore (lv' := [(5, .int x_547), (0, .ref h0), (1, .int d), (2, .int pp), (3, .int w), (4, .int v_470), (6, .int v_472)]) hx hb dX12_search_45 hl (by decide) rfl (fun ls hl => ?_)
          refine lv_aload_n hx hb dX12_search_47 rfl (lv_at hl 1 rfl) ?_
          refine lv_aload_n hx hb dX12_search_48 rfl (lv_at hl 1 rfl) ?_
          refine va_get (D := G) (ci := 12) (v := .ref a_there) (C := RX12) (T := TX12) (N := 65) hx hb hts inT12 hown hK hP 0 rfl rfl 23 (by decide) (hts _ tw_1908) (fun _ h9 => h9) rfl dX12_search_49 ?_
          refine lv_iload hx hb dX12_search_52 (lv_at hl 5 rfl) ?_
          refine va_iald hx hb hK hP 2 0 rfl rfl (z_inN (by omega) (by omega)) dX12_search_54 ?_
          refine lv_topi (fun x_548 he_x_548 => ?_)
          have hr_x_548 := z_rg hC_g_there he_x_548 (by omega) (by omega)
          refine lv_iload_n hx hb dX12_search_55 rfl (lv_at hl 2 rfl) ?_
          refine z_callVi (As := [.int x_548, .int d]) (rest := []) (wr := [(a_there, .inl (cA.1 0, 10, .inl g_there))]) ⟨hx, hb, hml, hown, hts⟩ hK hE hT hP hD hS hA (r_canOpen l G cA h0 m_status m_thrown m_above m_under a_traySort a_trayMany a_numbers a_tape m_taped m_textEnd m_faultKind m_faultAt m_bad m_badAt m_token m_at m_behind m_number m_letters m_word a_c a_words m_markMany a_there a_tried a_best a_found m_thereMany m_foundMany m_orderHow m_orderRing m_orderMany m_hasBest m_bestTop m_bestBy a_weights a_shared m_random m_truePlace m_trueWay m_seconds m_done m_feelings m_tries m_leftOver m_playDoor m_playRing m_isOpen m_isOver m_wasTried m_hasPlayed a_feltNow a_last a_kept m_hasSeconds m_hasTurned m_hasRound a_hasFeels a_isOn m_firstAct m_meanTop m_meanBy a_order m_rowMany m_newSteps g_c x_548 d hr_x_548 hr_d hC_g_c) lk_RX12_345 ⟨rfl, rfl⟩ ⟨Nat.le_of_ble_eq_true rfl, Nat.le_of_ble_eq_true rfl⟩ 12 rfl rfl rfl [0, 1] [2] rfl rfl (by decide) rfl hl.1 rfl (lv_room (Nat.le_of_ble_eq_true rfl)) dX12_search_56 ⟨Nat.le_of_ble_eq_true rfl, Nat.le_of_ble_eq_true rfl⟩ (fun r_549 u_550 H locs hw hP hD hS => ?_)
          rcases hw with ⟨rfl, hf_551⟩ | ⟨rfl, hf_552⟩
          · skip
            refine lv_if_eq (tgt := 65) hx hb dX12_search_59 (by decide) (fun _ => ?_) (fun h9 => absurd (by decide +kernel) h9)
            refine lv_iload_n hx hb dX12_search_65 rfl (lv_at hl 4 rfl) ?_
            refine lv_if_ne (tgt := 81) hx hb dX12_search_66 (by decide) (fun c_553 => ?_) (fun c_553 => ?_)
            · have b_554 := z_fneT c_553
              refine lv_iload hx hb dX12_search_81 (lv_at hl 5 rfl) ?_
              refine lv_aload_n hx hb dX12_search_83 rfl (lv_at hl 1 rfl) ?_
              refine va_get (D := G) (ci := 12) (v := .int m_thereMany) (C := RX12) (T := TX12) (N := 65) hx hb hts inT12 hown hK hP 1 rfl rfl 27 (by decide) (hts _ tw_1912) (fun _ h9 => h9) rfl dX12_search_84 ?_
              refine lv_iadd hx hb dX12_search_87 ?_
              refine lv_topi (fun x_555 he_x_555 => ?_)
              have hq_x_555 := z_addq he_x_555 (rfl : v_470.toInt = _) (rfl : m_thereMany.toInt = _) (by omega) (by omega)
              refine lv_iconst (v := 1) hx hb dX12_search_88 (by decide) ?_
              refine lv_isub hx hb dX12_search_89 ?_
              refine lv_topi (fun x_556 he_x_556 => ?_)
              have hq_x_556 := z_subq he_x_556 (rfl : x_555.toInt = _) hk_1 (by omega) (by omega)
              refine lv_aload_n hx hb dX12_search_90 rfl (lv_at hl 1 rfl) ?_
              refine va_get (D := G) (ci := 12) (v := .int m_thereMany) (C := RX12) (T := TX12) (N := 65) hx hb hts inT12 hown hK hP 1 rfl rfl 27 (by decide) (hts _ tw_1912) (fun _ h9 => h9) rfl dX12_search_91 ?_
              refine lv_irem hx hb dX12_search_94 (z_nz (by omega)) ?_
              refine lv_topi (fun x_557 he_x_557 => ?_)
              have hr_x_557 := z_remr he_x_557 (by omega) (by omega)
              have hd_x_557 := z_rem2 he_x_557 (by omega) (by omega) (by omega)
              refine lv_istore (lv' := [(4, .int x_557), (5, .int x_547), (0, .ref h0), (1, .int d), (2, .int pp), (3, .int w), (6, .int v_472)]) hx hb dX12_search_95 hl (by decide) rfl (fun ls hl => ?_)
              obtain ⟨x_558, he_x_558⟩ : ∃ z : Int32, z = v_472 + 1 := ⟨_, rfl⟩
              have hq_x_558 := z_addq he_x_558 (rfl : v_472.toInt = _) hk_1 (by omega) (by omega)
              refine lv_iinc (v := x_558) (lv' := [(6, .int x_558), (4, .int x_557), (5, .int x_547), (0, .ref h0), (1, .int d), (2, .int pp), (3, .int w)]) hx hb dX12_search_97 hl (k := 6) rfl ((z_ofi (by decide +kernel)).trans he_x_558.symm) (by decide) rfl (fun ls hl => ?_)
              refine lv_goto (tgt := 9) hx hb dX12_search_100 (by decide) ?_
              have hP := hP.sub (ws' := [(h0, .inr (12, [.int m_status, .int m_thrown, .long m_above, .long m_under, .ref a_traySort, .ref a_trayMany, .ref a_numbers, .ref a_tape, .int m_taped, .int m_textEnd, .int m_faultKind, .int m_faultAt, .int m_bad, .int m_badAt, .int m_token, .int m_at, .int m_behind, .int m_number, .int m_letters, .long m_word, .ref a_c, .ref a_words, .int m_markMany, .ref a_there, .ref a_tried, .ref a_best, .ref a_found, .int m_thereMany, .int m_foundMany, .int m_orderHow, .int m_orderRing, .int m_orderMany, .int m_hasBest, .long m_bestTop, .long m_bestBy, .ref a_weights, .ref a_shared, .int m_random, .int m_truePlace, .int m_trueWay, .int m_seconds, .int m_done, .int m_feelings, .int m_tries, .int m_leftOver, .int m_playDoor, .int m_playRing, .int m_isOpen, .int m_isOver, .int m_wasTried, .int m_hasPlayed, .ref a_feltNow, .ref a_last, .ref a_kept, .int m_hasSeconds, .int m_hasTurned, .int m_hasRound, .ref a_hasFeels, .ref a_isOn, .int m_firstAct, .long m_meanTop, .long m_meanBy, .ref a_order, .int m_rowMany, .int m_newSteps])), (a_c, .inl (cA.1 0, 1825, .inl g_c)), (a_there, .inl (cA.1 0, 10, .inl g_there))]) [1, 2, 0] rfl
              have hD := hD.sub (ws' := [(h0, .inr (12, [.int m_status, .int m_thrown, .long m_above, .long m_under, .ref a_traySort, .ref a_trayMany, .ref a_numbers, .ref a_tape, .int m_taped, .int m_textEnd, .int m_faultKind, .int m_faultAt, .int m_bad, .int m_badAt, .int m_token, .int m_at, .int m_behind, .int m_number, .int m_letters, .long m_word, .ref a_c, .ref a_words, .int m_markMany, .ref a_there, .ref a_tried, .ref a_best, .ref a_found, .int m_thereMany, .int m_foundMany, .int m_orderHow, .int m_orderRing, .int m_orderMany, .int m_hasBest, .long m_bestTop, .long m_bestBy, .ref a_weights, .ref a_shared, .int m_random, .int m_truePlace, .int m_trueWay, .int m_seconds, .int m_done, .int m_feelings, .int m_tries, .int m_leftOver, .int m_playDoor, .int m_playRing, .int m_isOpen, .int m_isOver, .int m_wasTried, .int m_hasPlayed, .ref a_feltNow, .ref a_last, .ref a_kept, .int m_hasSeconds, .int m_hasTurned, .int m_hasRound, .ref a_hasFeels, .ref a_isOn, .int m_firstAct, .long m_meanTop, .long m_meanBy, .ref a_order, .int m_rowMany, .int m_newSteps])), (a_c, .inl (cA.1 0, 1825, .inl g_c)), (a_there, .inl (cA.1 0, 10, .inl g_there))]) [1, 2, 0] (by decide) rfl
              exact ih_520 x_557 x_547 x_558 H locs ls (by omega) (by omega) (by omega) (by omega) (by rw [hq_x_558]; exact zNp_step hi_515 hi_516 (by omega) (by omega) he_x_548 (by omega) hf_551 (by omega) (by omega) (by omega) (by omega)) (by have h9 := hi_516; unfold zPl at h9 ⊢; omega) (by omega) (by omega) hP hD hS (lv_sub hl [3, 4, 5, 6, 1, 2, 0] rfl)
            · have b_559 := z_feqF c_553
              refine lv_iload hx hb dX12_search_69 (lv_at hl 5 rfl) ?_
              refine lv_iconst (v := 1) hx hb dX12_search_71 (by decide) ?_
              refine lv_iadd hx hb dX12_search_72 ?_
              refine lv_topi (fun x_560 he_x_560 => ?_)
              have hq_x_560 := z_addq he_x_560 (rfl : v_470.toInt = _) hk_1 (by omega) (by omega)
              refine lv_aload_n hx hb dX12_search_73 rfl (lv_at hl 1 rfl) ?_
              refine va_get (D := G) (ci := 12) (v := .int m_thereMany) (C := RX12) (T := TX12) (N := 65) hx hb hts inT12 hown hK hP 1 rfl rfl 27 (by decide) (hts _ tw_1912) (fun _ h9 => h9) rfl dX12_search_74 ?_
              refine lv_irem hx hb dX12_search_77 (z_nz (by omega)) ?_
              refine lv_topi (fun x_561 he_x_561 => ?_)
              have hr_x_561 := z_remr he_x_561 (by omega) (by omega)
              have hd_x_561 := z_rem2 he_x_561 (by omega) (by omega) (by omega)
              refine lv_goto (tgt := 95) hx hb dX12_search_78 (by decide) ?_
              refine lv_istore (lv' := [(4, .int x_561), (5, .int x_547), (0, .ref h0), (1, .int d), (2, .int pp), (3, .int w), (6, .int v_472)]) hx hb dX12_search_95 hl (by decide) rfl (fun ls hl => ?_)
              obtain ⟨x_562, he_x_562⟩ : ∃ z : Int32, z = v_472 + 1 := ⟨_, rfl⟩
              have hq_x_562 := z_addq he_x_562 (rfl : v_472.toInt = _) hk_1 (by omega) (by omega)
              refine lv_iinc (v := x_562) (lv' := [(6, .int x_562), (4, .int x_561), (5, .int x_547), (0, .ref h0), (1, .int d), (2, .int pp), (3, .int w)]) hx hb dX12_search_97 hl (k := 6) rfl ((z_ofi (by decide +kernel)).trans he_x_562.symm) (by decide) rfl (fun ls hl => ?_)
              refine lv_goto (tgt := 9) hx hb dX12_search_100 (by decide) ?_
              have hP := hP.sub (ws' := [(h0, .inr (12, [.int m_status, .int m_thrown, .long m_above, .long m_under, .ref a_traySort, .ref a_trayMany, .ref a_numbers, .ref a_tape, .int m_taped, .int m_textEnd, .int m_faultKind, .int m_faultAt, .int m_bad, .int m_badAt, .int m_token, .int m_at, .int m_behind, .int m_number, .int m_letters, .long m_word, .ref a_c, .ref a_words, .int m_markMany, .ref a_there, .ref a_tried, .ref a_best, .ref a_found, .int m_thereMany, .int m_foundMany, .int m_orderHow, .int m_orderRing, .int m_orderMany, .int m_hasBest, .long m_bestTop, .long m_bestBy, .ref a_weights, .ref a_shared, .int m_random, .int m_truePlace, .int m_trueWay, .int m_seconds, .int m_done, .int m_feelings, .int m_tries, .int m_leftOver, .int m_playDoor, .int m_playRing, .int m_isOpen, .int m_isOver, .int m_wasTried, .int m_hasPlayed, .ref a_feltNow, .ref a_last, .ref a_kept, .int m_hasSeconds, .int m_hasTurned, .int m_hasRound, .ref a_hasFeels, .ref a_isOn, .int m_firstAct, .long m_meanTop, .long m_meanBy, .ref a_order, .int m_rowMany, .int m_newSteps])), (a_c, .inl (cA.1 0, 1825, .inl g_c)), (a_there, .inl (cA.1 0, 10, .inl g_there))]) [1, 2, 0] rfl
              have hD := hD.sub (ws' := [(h0, .inr (12, [.int m_status, .int m_thrown, .long m_above, .long m_under, .ref a_traySort, .ref a_trayMany, .ref a_numbers, .ref a_tape, .int m_taped, .int m_textEnd, .int m_faultKind, .int m_faultAt, .int m_bad, .int m_badAt, .int m_token, .int m_at, .int m_behind, .int m_number, .int m_letters, .long m_word, .ref a_c, .ref a_words, .int m_markMany, .ref a_there, .ref a_tried, .ref a_best, .ref a_found, .int m_thereMany, .int m_foundMany, .int m_orderHow, .int m_orderRing, .int m_orderMany, .int m_hasBest, .long m_bestTop, .long m_bestBy, .ref a_weights, .ref a_shared, .int m_random, .int m_truePlace, .int m_trueWay, .int m_seconds, .int m_done, .int m_feelings, .int m_tries, .int m_leftOver, .int m_playDoor, .int m_playRing, .int m_isOpen, .int m_isOver, .int m_wasTried, .int m_hasPlayed, .ref a_feltNow, .ref a_last, .ref a_kept, .int m_hasSeconds, .int m_hasTurned, .int m_hasRound, .ref a_hasFeels, .ref a_isOn, .int m_firstAct, .long m_meanTop, .long m_meanBy, .ref a_order, .int m_rowMany, .int m_newSteps])), (a_c, .inl (cA.1 0, 1825, .inl g_c)), (a_there, .inl (cA.1 0, 10, .inl g_there))]) [1, 2, 0] (by decide) rfl
              exact ih_520 x_561 x_547 x_562 H locs ls (by omega) (by omega) (by omega) (by omega) (by rw [hq_x_562]; exact zNp_step hi_515 hi_516 (by omega) (by omega) he_x_548 (by omega) hf_551 (by omega) (by omega) (by omega) (by omega)) (by have h9 := hi_516; unfold zPl at h9 ⊢; omega) (by omega) (by omega) hP hD hS (lv_sub hl [3, 4, 5, 6, 1, 2, 0] rfl)
          · skip
            refine lv_if_eq (tgt := 65) hx hb dX12_search_59 (by decide) (fun h9 => absurd h9 (by decide +kernel)) (fun _ => ?_)
            refine lv_iload hx hb dX12_search_62 (lv_at hl 0 rfl) ?_
            have hpost : ((-1) ≤ x_547.toInt ∧ x_547.toInt ≤ 2178) ∧ (x_547.toInt < 0 → ¬ zop g_c g_there m_thereMany.toInt d.toInt) ∧ (0 ≤ x_547.toInt → zop g_c g_there m_thereMany.toInt d.toInt) := ⟨(by omega), (fun h => z_no (by omega)), (fun _ => ⟨v_470.toInt.toNat, by omega, by rw [← z_at he_x_548 (a := v_470.toInt.toNat) (by omega)]; exact hf_552⟩)⟩
            exact hret _ _ _ _ _ _ () [1, 2, 0] hP hD hS rfl (by decide) dX12_search_64 hpost
  exact hlp_519 _ pp 0 0 _ _ _ (Nat.lt_succ_self _) hr_pp (by decide +kernel) (by decide +kernel) (zNp_0 (by omega) hp_0) (by unfold zPl; omega) (by omega) (by omega) hP hD hS (lv_sub hl [3, 4, 5, 6, 2, 1, 0] rfl)
set_option maxHeartbeats 4000000 in
set_option maxRecDepth 100000 in
theorem r_searched (l : Launch) (G : va_G) (cA : zCA) (h0 : Nat) (m_status : Int32) (m_thrown : Int32) (m_above : Int64) (m_under : Int64) (a_traySort : Nat) (a_trayMany : Nat) (a_numbers : Nat) (a_tape : Nat) (m_taped : Int32) (m_textEnd : Int32) (m_faultKind : Int32) (m_faultAt : Int32) (m_bad : Int32) (m_badAt : Int32) (m_token : Int32) (m_at : Int32) (m_behind : Int32) (m_number : Int32) (m_letters : Int32) (m_word : Int64) (a_c : Nat) (a_words : Nat) (m_markMany : Int32) (a_there : Nat) (a_tried : Nat) (a_best : Nat) (a_found : Nat) (m_thereMany : Int32) (m_foundMany : Int32) (m_orderHow : Int32) (m_orderRing : Int32) (m_orderMany : Int32) (m_hasBest : Int32) (m_bestTop : Int64) (m_bestBy : Int64) (a_weights : Nat) (a_shared : Nat) (m_random : Int32) (m_truePlace : Int32) (m_trueWay : Int32) (m_seconds : Int32) (m_done : Int32) (m_feelings : Int32) (m_tries : Int32) (m_leftOver : Int32) (m_playDoor : Int32) (m_playRing : Int32) (m_isOpen : Int32) (m_isOver : Int32) (m_wasTried : Int32) (m_hasPlayed : Int32) (a_feltNow : Nat) (a_last : Nat) (a_kept : Nat) (m_hasSeconds : Int32) (m_hasTurned : Int32) (m_hasRound : Int32) (a_hasFeels : Nat) (a_isOn : Nat) (m_firstAct : Int32) (m_meanTop : Int64) (m_meanBy : Int64) (a_order : Nat) (m_rowMany : Int32) (m_newSteps : Int32) (g_c : Nat → Int32) (g_there : Nat → Int32) (r : Int32) (d : Int32) (pp : Int32) (w : Int32) (hr_m_thereMany : 0 ≤ m_thereMany.toInt ∧ m_thereMany.toInt ≤ 10) (hC_g_c : zC g_c) (hC_g_there : zRg 10 0 9 g_there) : zCi l yX12_searched cX12_searched 6 (some .int) ({ frames := 2, cells := 0, slots := 0, locals := 48 }) G cA [.ref h0, .int r, .int d, .int pp, .int w] [(h0, .inr (12, [.int m_status, .int m_thrown, .long m_above, .long m_under, .ref a_traySort, .ref a_trayMany, .ref a_numbers, .ref a_tape, .int m_taped, .int m_textEnd, .int m_faultKind, .int m_faultAt, .int m_bad, .int m_badAt, .int m_token, .int m_at, .int m_behind, .int m_number, .int m_letters, .long m_word, .ref a_c, .ref a_words, .int m_markMany, .ref a_there, .ref a_tried, .ref a_best, .ref a_found, .int m_thereMany, .int m_foundMany, .int m_orderHow, .int m_orderRing, .int m_orderMany, .int m_hasBest, .long m_bestTop, .long m_bestBy, .ref a_weights, .ref a_shared, .int m_random, .int m_truePlace, .int m_trueWay, .int m_seconds, .int m_done, .int m_feelings, .int m_tries, .int m_leftOver, .int m_playDoor, .int m_playRing, .int m_isOpen, .int m_isOver, .int m_wasTried, .int m_hasPlayed, .ref a_feltNow, .ref a_last, .ref a_kept, .int m_hasSeconds, .int m_hasTurned, .int m_hasRound, .ref a_hasFeels, .ref a_isOn, .int m_firstAct, .long m_meanTop, .long m_meanBy, .ref a_order, .int m_rowMany, .int m_newSteps])), (a_c, .inl (cA.1 0, 1825, .inl g_c)), (a_there, .inl (cA.1 0, 10, .inl g_there))] (S := Int32 × Int32 × Int32 × (Nat → Int32)) (fun (r : Int32) (u : Int32 × Int32 × Int32 × (Nat → Int32)) => ((-1) ≤ r.toInt ∧ r.toInt ≤ 2178) ∧ (0 ≤ u.2.1.toInt ∧ u.2.1.toInt ≤ 0) ∧ (0 ≤ u.2.2.1.toInt ∧ u.2.2.1.toInt ≤ 10) ∧ (zRg 10 0 9 u.2.2.2)) (fun (u : Int32 × Int32 × Int32 × (Nat → Int32)) => [(h0, .inr (12, [.int u.1, .int u.2.1, .long m_above, .long m_under, .ref a_traySort, .ref a_trayMany, .ref a_numbers, .ref a_tape, .int m_taped, .int m_textEnd, .int m_faultKind, .int m_faultAt, .int m_bad, .int m_badAt, .int m_token, .int m_at, .int m_behind, .int m_number, .int m_letters, .long m_word, .ref a_c, .ref a_words, .int m_markMany, .ref a_there, .ref a_tried, .ref a_best, .ref a_found, .int u.2.2.1, .int m_foundMany, .int m_orderHow, .int m_orderRing, .int m_orderMany, .int m_hasBest, .long m_bestTop, .long m_bestBy, .ref a_weights, .ref a_shared, .int m_random, .int m_truePlace, .int m_trueWay, .int m_seconds, .int m_done, .int m_feelings, .int m_tries, .int m_leftOver, .int m_playDoor, .int m_playRing, .int m_isOpen, .int m_isOver, .int m_wasTried, .int m_hasPlayed, .ref a_feltNow, .ref a_last, .ref a_kept, .int m_hasSeconds, .int m_hasTurned, .int m_hasRound, .ref a_hasFeels, .ref a_isOn, .int m_firstAct, .long m_meanTop, .long m_meanBy, .ref a_order, .int m_rowMany, .int m_newSteps])), (a_c, .inl (cA.1 0, 1825, .inl g_c)), (a_there, .inl (cA.1 0, 10, .inl u.2.2.2))]) 0 0 := by
  have hk_0 : (0 : Int32).toInt = 0 := by decide +kernel
  have hk_1 : (1 : Int32).toInt = 1 := by decide +kernel
  have hk_2 : (2 : Int32).toInt = 2 := by decide +kernel
  have hk_5 : (5 : Int32).toInt = 5 := by decide +kernel
  have hk_8 : (8 : Int32).toInt = 8 := by decide +kernel
  have hkl_0 : (0 : Int64).toInt = 0 := by decide +kernel
  have hkl_1 : (1 : Int64).toInt = 1 := by decide +kernel
  refine z_start2i (own := RX12) (by decide) (Nat.le_of_ble_eq_true rfl) rfl ?_
  intro p e s m args below meth c A ls Q hx hb hml hts hown hK hE hT hP hD hS hA hl hret
  have hl : lv_has ls 6 [(0, .ref h0), (1, .int r), (2, .int d), (3, .int pp), (4, .int w)] := hl
  refine lv_aload_n hx hb dX12_searched_0 rfl (lv_at hl 0 rfl) ?_
  refine lv_iconst (v := 0) hx hb dX12_searched_1 (by decide) ?_
  refine va_put (D := G) (ci := 12) (v := .int 0) (ty := .int) (C := RX12) (T := TX12) (N := 65) hx hb hts inT12 tyX12 tyX12_ok nmX12 hown hK hP hD hS 0 rfl rfl 1 (by decide) (hts _ tw_1886) (fun _ h9 => h9) rfl (tyX12_ok 1 (by decide)) rfl rfl (Nat.le_of_ble_eq_true rfl) dX12_searched_2 (fun H locs hP hD hS => ?_)
  refine lv_aload_n hx hb dX12_searched_5 rfl (lv_at hl 0 rfl) ?_
  refine lv_iconst (v := 0) hx hb dX12_searched_6 (by decide) ?_
  refine va_put (D := G) (ci := 12) (v := .int 0) (ty := .int) (C := RX12) (T := TX12) (N := 65) hx hb hts inT12 tyX12 tyX12_ok nmX12 hown hK hP hD hS 0 rfl rfl 0 (by decide) (hts _ tw_1885) (fun _ h9 => h9) rfl (tyX12_ok 0 (by decide)) rfl rfl (Nat.le_of_ble_eq_true rfl) dX12_searched_7 (fun H locs hP hD hS => ?_)
  refine lv_aload_n hx hb dX12_searched_10 rfl (lv_at hl 0 rfl) ?_
  refine lv_iload_n hx hb dX12_searched_11 rfl (lv_at hl 1 rfl) ?_
  refine z_callVi (As := [.int r]) (rest := []) (wr := [(a_there, .inl (cA.1 0, 10, .inl g_there))]) ⟨hx, hb, hml, hown, hts⟩ hK hE hT hP hD hS hA (r_isRing l G cA h0 0 0 m_above m_under a_traySort a_trayMany a_numbers a_tape m_taped m_textEnd m_faultKind m_faultAt m_bad m_badAt m_token m_at m_behind m_number m_letters m_word a_c a_words m_markMany a_there a_tried a_best a_found m_thereMany m_foundMany m_orderHow m_orderRing m_orderMany m_hasBest m_bestTop m_bestBy a_weights a_shared m_random m_truePlace m_trueWay m_seconds m_done m_feelings m_tries m_leftOver m_playDoor m_playRing m_isOpen m_isOver m_wasTried m_hasPlayed a_feltNow a_last a_kept m_hasSeconds m_hasTurned m_hasRound a_hasFeels a_isOn m_firstAct m_meanTop m_meanBy a_order m_rowMany m_newSteps g_c r hC_g_c) lk_RX12_289 ⟨rfl, rfl⟩ ⟨Nat.le_of_ble_eq_true rfl, Nat.le_of_ble_eq_true rfl⟩ 12 rfl rfl rfl [0, 1] [2] rfl rfl (by decide) rfl hl.1 rfl (lv_room (Nat.le_of_ble_eq_true rfl)) dX12_searched_12 ⟨Nat.le_of_ble_eq_true rfl, Nat.le_of_ble_eq_true rfl⟩ (fun r_1 u_2 H locs hw hP hD hS => ?_)
  rcases hw with ⟨rfl, -⟩ | ⟨rfl, hf_3, hf_4⟩
  · skip
    refine lv_if_eq (tgt := 26) hx hb dX12_searched_15 (by decide) (fun _ => ?_) (fun h9 => absurd (by decide +kernel) h9)
    refine lv_aload_n hx hb dX12_searched_26 rfl (lv_at hl 0 rfl) ?_
    refine lv_iconst (v := 2) hx hb dX12_searched_27 (by decide) ?_
    refine z_callVi (As := [.int 2]) (rest := []) (wr := [(a_there, .inl (cA.1 0, 10, .inl g_there)), (a_c, .inl (cA.1 0, 1825, .inl g_c))]) ⟨hx, hb, hml, hown, hts⟩ hK hE hT hP hD hS hA (r_refuse l G cA h0 0 0 m_above m_under a_traySort a_trayMany a_numbers a_tape m_taped m_textEnd m_faultKind m_faultAt m_bad m_badAt m_token m_at m_behind m_number m_letters m_word a_c a_words m_markMany a_there a_tried a_best a_found m_thereMany m_foundMany m_orderHow m_orderRing m_orderMany m_hasBest m_bestTop m_bestBy a_weights a_shared m_random m_truePlace m_trueWay m_seconds m_done m_feelings m_tries m_leftOver m_playDoor m_playRing m_isOpen m_isOver m_wasTried m_hasPlayed a_feltNow a_last a_kept m_hasSeconds m_hasTurned m_hasRound a_hasFeels a_isOn m_firstAct m_meanTop m_meanBy a_order m_rowMany m_newSteps 2) lk_RX12_269 ⟨rfl, rfl⟩ ⟨Nat.le_of_ble_eq_true rfl, Nat.le_of_ble_eq_true rfl⟩ 12 rfl rfl rfl [1] [0, 2] rfl rfl (by decide) rfl hl.1 rfl (lv_room (Nat.le_of_ble_eq_true rfl)) dX12_searched_28 ⟨Nat.le_of_ble_eq_true rfl, Nat.le_of_ble_eq_true rfl⟩ (fun r_6 u_7 H locs hw hP hD hS => ?_)
    obtain ⟨n_5, rfl⟩ : ∃ z, z = u_7 := ⟨_, rfl⟩
    have hr_r_6 := hw
    have hpost : ((-1) ≤ r_6.toInt ∧ r_6.toInt ≤ 2178) ∧ (0 ≤ (0 : Int32).toInt ∧ (0 : Int32).toInt ≤ 0) ∧ (0 ≤ m_thereMany.toInt ∧ m_thereMany.toInt ≤ 10) ∧ (zRg 10 0 9 g_there) := ⟨(z_rgw hr_r_6 (by decide) (by decide)), (by decide +kernel), hr_m_thereMany, hC_g_there⟩
    exact hret _ _ _ _ _ _ (n_5, 0, m_thereMany, g_there) [2, 1, 0] hP hD hS rfl (by decide) dX12_searched_31 hpost
  · skip
    refine lv_if_eq (tgt := 26) hx hb dX12_searched_15 (by decide) (fun h9 => absurd h9 (by decide +kernel)) (fun _ => ?_)
    refine lv_aload_n hx hb dX12_searched_18 rfl (lv_at hl 0 rfl) ?_
    refine lv_iload_n hx hb dX12_searched_19 rfl (lv_at hl 2 rfl) ?_
    refine z_callVi (As := [.int d]) (rest := []) (wr := [(a_there, .inl (cA.1 0, 10, .inl g_there))]) ⟨hx, hb, hml, hown, hts⟩ hK hE hT hP hD hS hA (r_isDoor l G cA h0 0 0 m_above m_under a_traySort a_trayMany a_numbers a_tape m_taped m_textEnd m_faultKind m_faultAt m_bad m_badAt m_token m_at m_behind m_number m_letters m_word a_c a_words m_markMany a_there a_tried a_best a_found m_thereMany m_foundMany m_orderHow m_orderRing m_orderMany m_hasBest m_bestTop m_bestBy a_weights a_shared m_random m_truePlace m_trueWay m_seconds m_done m_feelings m_tries m_leftOver m_playDoor m_playRing m_isOpen m_isOver m_wasTried m_hasPlayed a_feltNow a_last a_kept m_hasSeconds m_hasTurned m_hasRound a_hasFeels a_isOn m_firstAct m_meanTop m_meanBy a_order m_rowMany m_newSteps g_c d hC_g_c) lk_RX12_295 ⟨rfl, rfl⟩ ⟨Nat.le_of_ble_eq_true rfl, Nat.le_of_ble_eq_true rfl⟩ 12 rfl rfl rfl [1, 2] [0] rfl rfl (by decide) rfl hl.1 rfl (lv_room (Nat.le_of_ble_eq_true rfl)) dX12_searched_20 ⟨Nat.le_of_ble_eq_true rfl, Nat.le_of_ble_eq_true rfl⟩ (fun r_8 u_9 H locs hw hP hD hS => ?_)
    rcases hw with ⟨rfl, -⟩ | ⟨rfl, hf_10, hf_11⟩
    · skip
      refine lv_if_ne (tgt := 32) hx hb dX12_searched_23 (by decide) (fun h9 => absurd (by decide +kernel) h9) (fun _ => ?_)
      refine lv_aload_n hx hb dX12_searched_26 rfl (lv_at hl 0 rfl) ?_
      refine lv_iconst (v := 2) hx hb dX12_searched_27 (by decide) ?_
      refine z_callVi (As := [.int 2]) (rest := []) (wr := [(a_there, .inl (cA.1 0, 10, .inl g_there)), (a_c, .inl (cA.1 0, 1825, .inl g_c))]) ⟨hx, hb, hml, hown, hts⟩ hK hE hT hP hD hS hA (r_refuse l G cA h0 0 0 m_above m_under a_traySort a_trayMany a_numbers a_tape m_taped m_textEnd m_faultKind m_faultAt m_bad m_badAt m_token m_at m_behind m_number m_letters m_word a_c a_words m_markMany a_there a_tried a_best a_found m_thereMany m_foundMany m_orderHow m_orderRing m_orderMany m_hasBest m_bestTop m_bestBy a_weights a_shared m_random m_truePlace m_trueWay m_seconds m_done m_feelings m_tries m_leftOver m_playDoor m_playRing m_isOpen m_isOver m_wasTried m_hasPlayed a_feltNow a_last a_kept m_hasSeconds m_hasTurned m_hasRound a_hasFeels a_isOn m_firstAct m_meanTop m_meanBy a_order m_rowMany m_newSteps 2) lk_RX12_269 ⟨rfl, rfl⟩ ⟨Nat.le_of_ble_eq_true rfl, Nat.le_of_ble_eq_true rfl⟩ 12 rfl rfl rfl [1] [0, 2] rfl rfl (by decide) rfl hl.1 rfl (lv_room (Nat.le_of_ble_eq_true rfl)) dX12_searched_28 ⟨Nat.le_of_ble_eq_true rfl, Nat.le_of_ble_eq_true rfl⟩ (fun r_13 u_14 H locs hw hP hD hS => ?_)
      obtain ⟨n_12, rfl⟩ : ∃ z, z = u_14 := ⟨_, rfl⟩
      have hr_r_13 := hw
      have hpost : ((-1) ≤ r_13.toInt ∧ r_13.toInt ≤ 2178) ∧ (0 ≤ (0 : Int32).toInt ∧ (0 : Int32).toInt ≤ 0) ∧ (0 ≤ m_thereMany.toInt ∧ m_thereMany.toInt ≤ 10) ∧ (zRg 10 0 9 g_there) := ⟨(z_rgw hr_r_13 (by decide) (by decide)), (by decide +kernel), hr_m_thereMany, hC_g_there⟩
      exact hret _ _ _ _ _ _ (n_12, 0, m_thereMany, g_there) [2, 1, 0] hP hD hS rfl (by decide) dX12_searched_31 hpost
    · skip
      refine lv_if_ne (tgt := 32) hx hb dX12_searched_23 (by decide) (fun _ => ?_) (fun h9 => absurd h9 (by decide +kernel))
      refine lv_aload_n hx hb dX12_searched_32 rfl (lv_at hl 0 rfl) ?_
      refine lv_iload_n hx hb dX12_searched_33 rfl (lv_at hl 1 rfl) ?_
      refine z_callVv (As := [.int r]) (rest := []) (wr := []) ⟨hx, hb, hml, hown, hts⟩ hK hE hT hP hD hS hA (r_gather l G cA h0 0 0 m_above m_under a_traySort a_trayMany a_numbers a_tape m_taped m_textEnd m_faultKind m_faultAt m_bad m_badAt m_token m_at m_behind m_number m_letters m_word a_c a_words m_markMany a_there a_tried a_best a_found m_thereMany m_foundMany m_orderHow m_orderRing m_orderMany m_hasBest m_bestTop m_bestBy a_weights a_shared m_random m_truePlace m_trueWay m_seconds m_done m_feelings m_tries m_leftOver m_playDoor m_playRing m_isOpen m_isOver m_wasTried m_hasPlayed a_feltNow a_last a_kept m_hasSeconds m_hasTurned m_hasRound a_hasFeels a_isOn m_firstAct m_meanTop m_meanBy a_order m_rowMany m_newSteps g_c g_there r (by omega) hr_m_thereMany hC_g_c hC_g_there) lk_RX12_292 ⟨rfl, rfl⟩ ⟨Nat.le_of_ble_eq_true rfl, Nat.le_of_ble_eq_true rfl⟩ 12 rfl rfl rfl [1, 2, 0] [] rfl rfl (by decide) rfl hl.1 rfl (lv_room (Nat.le_of_ble_eq_true rfl)) dX12_searched_34 ⟨Nat.le_of_ble_eq_true rfl, Nat.le_of_ble_eq_true rfl⟩ (fun u_18 H locs hw hP hD hS => ?_)
      obtain ⟨n_15, n_16⟩ := u_18
      try dsimp only at hw
      obtain ⟨hr_n_15, hC_n_16, hf_19, hf_20⟩ := hw
      refine lv_iload_n hx hb dX12_searched_37 rfl (lv_at hl 3 rfl) ?_
      refine lv_i2l (v := (pp).toInt64) hx hb dX12_searched_38 rfl ?_
      refine lv_topl (fun x_21 he_x_21 => ?_)
      have hq_x_21 := z_i2l he_x_21
      have hL_pp := z_full pp
      refine lv_lconst (v := 0) hx hb dX12_searched_39 (by decide) ?_
      refine lv_aload_n hx hb dX12_searched_40 rfl (lv_at hl 0 rfl) ?_
      refine va_get (D := G) (ci := 12) (v := .int n_15) (C := RX12) (T := TX12) (N := 65) hx hb hts inT12 hown hK hP 0 rfl rfl 27 (by decide) (hts _ tw_1912) (fun _ h9 => h9) rfl dX12_searched_41 ?_
      refine lv_iconst (v := 1) hx hb dX12_searched_44 (by decide) ?_
      refine lv_isub hx hb dX12_searched_45 ?_
      refine lv_topi (fun x_22 he_x_22 => ?_)
      have hq_x_22 := z_subq he_x_22 (rfl : n_15.toInt = _) hk_1 (by omega) (by omega)
      refine lv_i2l (v := (x_22).toInt64) hx hb dX12_searched_46 rfl ?_
      refine lv_topl (fun x_23 he_x_23 => ?_)
      have hq_x_23 := z_i2l he_x_23
      refine z_callSi (As := [.long x_21, .long 0, .long x_23]) (rest := []) (wr := [(h0, .inr (12, [.int 0, .int 0, .long m_above, .long m_under, .ref a_traySort, .ref a_trayMany, .ref a_numbers, .ref a_tape, .int m_taped, .int m_textEnd, .int m_faultKind, .int m_faultAt, .int m_bad, .int m_badAt, .int m_token, .int m_at, .int m_behind, .int m_number, .int m_letters, .long m_word, .ref a_c, .ref a_words, .int m_markMany, .ref a_there, .ref a_tried, .ref a_best, .ref a_found, .int n_15, .int m_foundMany, .int m_orderHow, .int m_orderRing, .int m_orderMany, .int m_hasBest, .long m_bestTop, .long m_bestBy, .ref a_weights, .ref a_shared, .int m_random, .int m_truePlace, .int m_trueWay, .int m_seconds, .int m_done, .int m_feelings, .int m_tries, .int m_leftOver, .int m_playDoor, .int m_playRing, .int m_isOpen, .int m_isOver, .int m_wasTried, .int m_hasPlayed, .ref a_feltNow, .ref a_last, .ref a_kept, .int m_hasSeconds, .int m_hasTurned, .int m_hasRound, .ref a_hasFeels, .ref a_isOn, .int m_firstAct, .long m_meanTop, .long m_meanBy, .ref a_order, .int m_rowMany, .int m_newSteps])), (a_c, .inl (cA.1 0, 1825, .inl g_c)), (a_there, .inl (cA.1 0, 10, .inl n_16))]) ⟨hx, hb, hml, hown, hts⟩ hK hE hT hP hD hS hA (r_isIn l G cA x_21 0 x_23) lk_RX12_117 ⟨rfl, rfl⟩ ⟨Nat.le_of_ble_eq_true rfl, Nat.le_of_ble_eq_true rfl⟩ [] [0, 1, 2] rfl rfl (by decide) rfl hl.1 rfl (lv_room (Nat.le_of_ble_eq_true rfl)) dX12_searched_47 ⟨Nat.le_of_ble_eq_true rfl, Nat.le_of_ble_eq_true rfl⟩ (fun r_24 u_25 H locs hw hP hD hS => ?_)
      rcases hw with ⟨rfl, hf_26⟩ | ⟨rfl, hf_27⟩
      · skip
        refine lv_if_eq (tgt := 64) hx hb dX12_searched_50 (by decide) (fun _ => ?_) (fun h9 => absurd (by decide +kernel) h9)
        refine lv_aload_n hx hb dX12_searched_64 rfl (lv_at hl 0 rfl) ?_
        refine lv_iconst (v := 5) hx hb dX12_searched_65 (by decide) ?_
        refine z_callVi (As := [.int 5]) (rest := []) (wr := [(a_c, .inl (cA.1 0, 1825, .inl g_c)), (a_there, .inl (cA.1 0, 10, .inl n_16))]) ⟨hx, hb, hml, hown, hts⟩ hK hE hT hP hD hS hA (r_refuse l G cA h0 0 0 m_above m_under a_traySort a_trayMany a_numbers a_tape m_taped m_textEnd m_faultKind m_faultAt m_bad m_badAt m_token m_at m_behind m_number m_letters m_word a_c a_words m_markMany a_there a_tried a_best a_found n_15 m_foundMany m_orderHow m_orderRing m_orderMany m_hasBest m_bestTop m_bestBy a_weights a_shared m_random m_truePlace m_trueWay m_seconds m_done m_feelings m_tries m_leftOver m_playDoor m_playRing m_isOpen m_isOver m_wasTried m_hasPlayed a_feltNow a_last a_kept m_hasSeconds m_hasTurned m_hasRound a_hasFeels a_isOn m_firstAct m_meanTop m_meanBy a_order m_rowMany m_newSteps 5) lk_RX12_269 ⟨rfl, rfl⟩ ⟨Nat.le_of_ble_eq_true rfl, Nat.le_of_ble_eq_true rfl⟩ 12 rfl rfl rfl [0] [1, 2] rfl rfl (by decide) rfl hl.1 rfl (lv_room (Nat.le_of_ble_eq_true rfl)) dX12_searched_66 ⟨Nat.le_of_ble_eq_true rfl, Nat.le_of_ble_eq_true rfl⟩ (fun r_29 u_30 H locs hw hP hD hS => ?_)
        obtain ⟨n_28, rfl⟩ : ∃ z, z = u_30 := ⟨_, rfl⟩
        have hr_r_29 := hw
        have hpost : ((-1) ≤ r_29.toInt ∧ r_29.toInt ≤ 2178) ∧ (0 ≤ (0 : Int32).toInt ∧ (0 : Int32).toInt ≤ 0) ∧ (0 ≤ n_15.toInt ∧ n_15.toInt ≤ 10) ∧ (zRg 10 0 9 n_16) := ⟨(z_rgw hr_r_29 (by decide) (by decide)), (by decide +kernel), hr_n_15, hC_n_16⟩
        exact hret _ _ _ _ _ _ (n_28, 0, n_15, n_16) [2, 0, 1] hP hD hS rfl (by decide) dX12_searched_69 hpost
      · skip
        refine lv_if_eq (tgt := 64) hx hb dX12_searched_50 (by decide) (fun h9 => absurd h9 (by decide +kernel)) (fun _ => ?_)
        refine lv_iload hx hb dX12_searched_53 (lv_at hl 4 rfl) ?_
        refine lv_i2l (v := (w).toInt64) hx hb dX12_searched_55 rfl ?_
        refine lv_topl (fun x_31 he_x_31 => ?_)
        have hq_x_31 := z_i2l he_x_31
        have hL_w := z_full w
        refine lv_lconst (v := 0) hx hb dX12_searched_56 (by decide) ?_
        refine lv_lconst (v := 1) hx hb dX12_searched_57 (by decide) ?_
        refine z_callSi (As := [.long x_31, .long 0, .long 1]) (rest := []) (wr := [(h0, .inr (12, [.int 0, .int 0, .long m_above, .long m_under, .ref a_traySort, .ref a_trayMany, .ref a_numbers, .ref a_tape, .int m_taped, .int m_textEnd, .int m_faultKind, .int m_faultAt, .int m_bad, .int m_badAt, .int m_token, .int m_at, .int m_behind, .int m_number, .int m_letters, .long m_word, .ref a_c, .ref a_words, .int m_markMany, .ref a_there, .ref a_tried, .ref a_best, .ref a_found, .int n_15, .int m_foundMany, .int m_orderHow, .int m_orderRing, .int m_orderMany, .int m_hasBest, .long m_bestTop, .long m_bestBy, .ref a_weights, .ref a_shared, .int m_random, .int m_truePlace, .int m_trueWay, .int m_seconds, .int m_done, .int m_feelings, .int m_tries, .int m_leftOver, .int m_playDoor, .int m_playRing, .int m_isOpen, .int m_isOver, .int m_wasTried, .int m_hasPlayed, .ref a_feltNow, .ref a_last, .ref a_kept, .int m_hasSeconds, .int m_hasTurned, .int m_hasRound, .ref a_hasFeels, .ref a_isOn, .int m_firstAct, .long m_meanTop, .long m_meanBy, .ref a_order, .int m_rowMany, .int m_newSteps])), (a_c, .inl (cA.1 0, 1825, .inl g_c)), (a_there, .inl (cA.1 0, 10, .inl n_16))]) ⟨hx, hb, hml, hown, hts⟩ hK hE hT hP hD hS hA (r_isIn l G cA x_31 0 1) lk_RX12_117 ⟨rfl, rfl⟩ ⟨Nat.le_of_ble_eq_true rfl, Nat.le_of_ble_eq_true rfl⟩ [] [0, 1, 2] rfl rfl (by decide) rfl hl.1 rfl (lv_room (Nat.le_of_ble_eq_true rfl)) dX12_searched_58 ⟨Nat.le_of_ble_eq_true rfl, Nat.le_of_ble_eq_true rfl⟩ (fun r_32 u_33 H locs hw hP hD hS => ?_)
        rcases hw with ⟨rfl, hf_34⟩ | ⟨rfl, hf_35⟩
        · skip
          refine lv_if_ne (tgt := 70) hx hb dX12_searched_61 (by decide) (fun h9 => absurd (by decide +kernel) h9) (fun _ => ?_)
          refine lv_aload_n hx hb dX12_searched_64 rfl (lv_at hl 0 rfl) ?_
          refine lv_iconst (v := 5) hx hb dX12_searched_65 (by decide) ?_
          refine z_callVi (As := [.int 5]) (rest := []) (wr := [(a_c, .inl (cA.1 0, 1825, .inl g_c)), (a_there, .inl (cA.1 0, 10, .inl n_16))]) ⟨hx, hb, hml, hown, hts⟩ hK hE hT hP hD hS hA (r_refuse l G cA h0 0 0 m_above m_under a_traySort a_trayMany a_numbers a_tape m_taped m_textEnd m_faultKind m_faultAt m_bad m_badAt m_token m_at m_behind m_number m_letters m_word a_c a_words m_markMany a_there a_tried a_best a_found n_15 m_foundMany m_orderHow m_orderRing m_orderMany m_hasBest m_bestTop m_bestBy a_weights a_shared m_random m_truePlace m_trueWay m_seconds m_done m_feelings m_tries m_leftOver m_playDoor m_playRing m_isOpen m_isOver m_wasTried m_hasPlayed a_feltNow a_last a_kept m_hasSeconds m_hasTurned m_hasRound a_hasFeels a_isOn m_firstAct m_meanTop m_meanBy a_order m_rowMany m_newSteps 5) lk_RX12_269 ⟨rfl, rfl⟩ ⟨Nat.le_of_ble_eq_true rfl, Nat.le_of_ble_eq_true rfl⟩ 12 rfl rfl rfl [0] [1, 2] rfl rfl (by decide) rfl hl.1 rfl (lv_room (Nat.le_of_ble_eq_true rfl)) dX12_searched_66 ⟨Nat.le_of_ble_eq_true rfl, Nat.le_of_ble_eq_true rfl⟩ (fun r_37 u_38 H locs hw hP hD hS => ?_)
          obtain ⟨n_36, rfl⟩ : ∃ z, z = u_38 := ⟨_, rfl⟩
          have hr_r_37 := hw
          have hpost : ((-1) ≤ r_37.toInt ∧ r_37.toInt ≤ 2178) ∧ (0 ≤ (0 : Int32).toInt ∧ (0 : Int32).toInt ≤ 0) ∧ (0 ≤ n_15.toInt ∧ n_15.toInt ≤ 10) ∧ (zRg 10 0 9 n_16) := ⟨(z_rgw hr_r_37 (by decide) (by decide)), (by decide +kernel), hr_n_15, hC_n_16⟩
          exact hret _ _ _ _ _ _ (n_36, 0, n_15, n_16) [2, 0, 1] hP hD hS rfl (by decide) dX12_searched_69 hpost
        · skip
          refine lv_if_ne (tgt := 70) hx hb dX12_searched_61 (by decide) (fun _ => ?_) (fun h9 => absurd h9 (by decide +kernel))
          refine lv_aload_n hx hb dX12_searched_70 rfl (lv_at hl 0 rfl) ?_
          refine lv_iload_n hx hb dX12_searched_71 rfl (lv_at hl 2 rfl) ?_
          refine lv_iload_n hx hb dX12_searched_72 rfl (lv_at hl 3 rfl) ?_
          refine lv_iload hx hb dX12_searched_73 (lv_at hl 4 rfl) ?_
          refine z_callVi (As := [.int d, .int pp, .int w]) (rest := []) (wr := []) ⟨hx, hb, hml, hown, hts⟩ hK hE hT hP hD hS hA (r_search l G cA h0 0 0 m_above m_under a_traySort a_trayMany a_numbers a_tape m_taped m_textEnd m_faultKind m_faultAt m_bad m_badAt m_token m_at m_behind m_number m_letters m_word a_c a_words m_markMany a_there a_tried a_best a_found n_15 m_foundMany m_orderHow m_orderRing m_orderMany m_hasBest m_bestTop m_bestBy a_weights a_shared m_random m_truePlace m_trueWay m_seconds m_done m_feelings m_tries m_leftOver m_playDoor m_playRing m_isOpen m_isOver m_wasTried m_hasPlayed a_feltNow a_last a_kept m_hasSeconds m_hasTurned m_hasRound a_hasFeels a_isOn m_firstAct m_meanTop m_meanBy a_order m_rowMany m_newSteps g_c n_16 d pp w (by omega) (by omega) (by omega) hr_n_15 hC_g_c hC_n_16 (by omega)) lk_RX12_387 ⟨rfl, rfl⟩ ⟨Nat.le_of_ble_eq_true rfl, Nat.le_of_ble_eq_true rfl⟩ 12 rfl rfl rfl [0, 1, 2] [] rfl rfl (by decide) rfl hl.1 rfl (lv_room (Nat.le_of_ble_eq_true rfl)) dX12_searched_75 ⟨Nat.le_of_ble_eq_true rfl, Nat.le_of_ble_eq_true rfl⟩ (fun r_39 u_40 H locs hw hP hD hS => ?_)
          obtain ⟨hr_r_39, hf_41, hf_42⟩ := hw
          refine lv_istore (lv' := [(5, .int r_39), (0, .ref h0), (1, .int r), (2, .int d), (3, .int pp), (4, .int w)]) hx hb dX12_searched_78 hl (by decide) rfl (fun ls hl => ?_)
          refine lv_iload hx hb dX12_searched_80 (lv_at hl 0 rfl) ?_
          refine lv_if_ge (tgt := 94) hx hb dX12_searched_82 (by decide) (fun c_43 => ?_) (fun c_43 => ?_)
          · have b_44 := z_fgeT c_43
            refine lv_iload hx hb dX12_searched_94 (lv_at hl 0 rfl) ?_
            have hpost : ((-1) ≤ r_39.toInt ∧ r_39.toInt ≤ 2178) ∧ (0 ≤ (0 : Int32).toInt ∧ (0 : Int32).toInt ≤ 0) ∧ (0 ≤ n_15.toInt ∧ n_15.toInt ≤ 10) ∧ (zRg 10 0 9 n_16) := ⟨hr_r_39, (by decide +kernel), hr_n_15, hC_n_16⟩
            exact hret _ _ _ _ _ _ (0, 0, n_15, n_16) [0, 1, 2] hP hD hS rfl (by decide) dX12_searched_96 hpost
          · have b_45 := z_fltF c_43
            refine lv_aload_n hx hb dX12_searched_85 rfl (lv_at hl 1 rfl) ?_
            refine lv_bipush (v := 8) hx hb dX12_searched_86 (by decide) ?_
            refine z_callVi (As := [.int 8]) (rest := []) (wr := [(a_c, .inl (cA.1 0, 1825, .inl g_c)), (a_there, .inl (cA.1 0, 10, .inl n_16))]) ⟨hx, hb, hml, hown, hts⟩ hK hE hT hP hD hS hA (r_refuse l G cA h0 0 0 m_above m_under a_traySort a_trayMany a_numbers a_tape m_taped m_textEnd m_faultKind m_faultAt m_bad m_badAt m_token m_at m_behind m_number m_letters m_word a_c a_words m_markMany a_there a_tried a_best a_found n_15 m_foundMany m_orderHow m_orderRing m_orderMany m_hasBest m_bestTop m_bestBy a_weights a_shared m_random m_truePlace m_trueWay m_seconds m_done m_feelings m_tries m_leftOver m_playDoor m_playRing m_isOpen m_isOver m_wasTried m_hasPlayed a_feltNow a_last a_kept m_hasSeconds m_hasTurned m_hasRound a_hasFeels a_isOn m_firstAct m_meanTop m_meanBy a_order m_rowMany m_newSteps 8) lk_RX12_269 ⟨rfl, rfl⟩ ⟨Nat.le_of_ble_eq_true rfl, Nat.le_of_ble_eq_true rfl⟩ 12 rfl rfl rfl [0] [1, 2] rfl rfl (by decide) rfl hl.1 rfl (lv_room (Nat.le_of_ble_eq_true rfl)) dX12_searched_88 ⟨Nat.le_of_ble_eq_true rfl, Nat.le_of_ble_eq_true rfl⟩ (fun r_47 u_48 H locs hw hP hD hS => ?_)
            obtain ⟨n_46, rfl⟩ : ∃ z, z = u_48 := ⟨_, rfl⟩
            have hr_r_47 := hw
            refine lv_goto (tgt := 96) hx hb dX12_searched_91 (by decide) ?_
            have hpost : ((-1) ≤ r_47.toInt ∧ r_47.toInt ≤ 2178) ∧ (0 ≤ (0 : Int32).toInt ∧ (0 : Int32).toInt ≤ 0) ∧ (0 ≤ n_15.toInt ∧ n_15.toInt ≤ 10) ∧ (zRg 10 0 9 n_16) := ⟨(z_rgw hr_r_47 (by decide) (by decide)), (by decide +kernel), hr_n_15, hC_n_16⟩
            exact hret _ _ _ _ _ _ (n_46, 0, n_15, n_16) [2, 0, 1] hP hD hS rfl (by decide) dX12_searched_96 hpost
set_option maxHeartbeats 4000000 in
set_option maxRecDepth 100000 in
theorem r_meanFrom (l : Launch) (G : va_G) (cA : zCA) (h0 : Nat) (m_status : Int32) (m_thrown : Int32) (m_above : Int64) (m_under : Int64) (a_traySort : Nat) (a_trayMany : Nat) (a_numbers : Nat) (a_tape : Nat) (m_taped : Int32) (m_textEnd : Int32) (m_faultKind : Int32) (m_faultAt : Int32) (m_bad : Int32) (m_badAt : Int32) (m_token : Int32) (m_at : Int32) (m_behind : Int32) (m_number : Int32) (m_letters : Int32) (m_word : Int64) (a_c : Nat) (a_words : Nat) (m_markMany : Int32) (a_there : Nat) (a_tried : Nat) (a_best : Nat) (a_found : Nat) (m_thereMany : Int32) (m_foundMany : Int32) (m_orderHow : Int32) (m_orderRing : Int32) (m_orderMany : Int32) (m_hasBest : Int32) (m_bestTop : Int64) (m_bestBy : Int64) (a_weights : Nat) (a_shared : Nat) (m_random : Int32) (m_truePlace : Int32) (m_trueWay : Int32) (m_seconds : Int32) (m_done : Int32) (m_feelings : Int32) (m_tries : Int32) (m_leftOver : Int32) (m_playDoor : Int32) (m_playRing : Int32) (m_isOpen : Int32) (m_isOver : Int32) (m_wasTried : Int32) (m_hasPlayed : Int32) (a_feltNow : Nat) (a_last : Nat) (a_kept : Nat) (m_hasSeconds : Int32) (m_hasTurned : Int32) (m_hasRound : Int32) (a_hasFeels : Nat) (a_isOn : Nat) (m_firstAct : Int32) (m_meanTop : Int64) (m_meanBy : Int64) (a_order : Nat) (m_rowMany : Int32) (m_newSteps : Int32) (g_c : Nat → Int32) (g_there : Nat → Int32) (pp : Int32) (w : Int32) (hr_pp : 0 ≤ pp.toInt ∧ pp.toInt ≤ 9) (hr_w : 0 ≤ w.toInt ∧ w.toInt ≤ 1) (hr_m_thereMany : 0 ≤ m_thereMany.toInt ∧ m_thereMany.toInt ≤ 10) (hC_g_c : zC g_c) (hC_g_there : zRg 10 0 9 g_there) (hp_0 : m_thereMany.toInt ≤ 0 ∨ pp.toInt < m_thereMany.toInt) : zCv l yX12_meanFrom cX12_meanFrom 5 none ({ frames := 2, cells := 0, slots := 0, locals := 48 }) G cA [.ref h0, .int pp, .int w] [(h0, .inr (12, [.int m_status, .int m_thrown, .long m_above, .long m_under, .ref a_traySort, .ref a_trayMany, .ref a_numbers, .ref a_tape, .int m_taped, .int m_textEnd, .int m_faultKind, .int m_faultAt, .int m_bad, .int m_badAt, .int m_token, .int m_at, .int m_behind, .int m_number, .int m_letters, .long m_word, .ref a_c, .ref a_words, .int m_markMany, .ref a_there, .ref a_tried, .ref a_best, .ref a_found, .int m_thereMany, .int m_foundMany, .int m_orderHow, .int m_orderRing, .int m_orderMany, .int m_hasBest, .long m_bestTop, .long m_bestBy, .ref a_weights, .ref a_shared, .int m_random, .int m_truePlace, .int m_trueWay, .int m_seconds, .int m_done, .int m_feelings, .int m_tries, .int m_leftOver, .int m_playDoor, .int m_playRing, .int m_isOpen, .int m_isOver, .int m_wasTried, .int m_hasPlayed, .ref a_feltNow, .ref a_last, .ref a_kept, .int m_hasSeconds, .int m_hasTurned, .int m_hasRound, .ref a_hasFeels, .ref a_isOn, .int m_firstAct, .long m_meanTop, .long m_meanBy, .ref a_order, .int m_rowMany, .int m_newSteps])), (a_c, .inl (cA.1 0, 1825, .inl g_c)), (a_there, .inl (cA.1 0, 10, .inl g_there))] (S := Int64 × Int64) (fun (u : Int64 × Int64) => (0 ≤ u.2.toInt ∧ u.2.toInt ≤ 495) ∧ ((1 ≤ u.2.toInt ∧ zMB g_c g_there m_thereMany.toInt) ∨ (u.2.toInt = 0 ∧ ¬ zMB g_c g_there m_thereMany.toInt))) (fun (u : Int64 × Int64) => [(h0, .inr (12, [.int m_status, .int m_thrown, .long m_above, .long m_under, .ref a_traySort, .ref a_trayMany, .ref a_numbers, .ref a_tape, .int m_taped, .int m_textEnd, .int m_faultKind, .int m_faultAt, .int m_bad, .int m_badAt, .int m_token, .int m_at, .int m_behind, .int m_number, .int m_letters, .long m_word, .ref a_c, .ref a_words, .int m_markMany, .ref a_there, .ref a_tried, .ref a_best, .ref a_found, .int m_thereMany, .int m_foundMany, .int m_orderHow, .int m_orderRing, .int m_orderMany, .int m_hasBest, .long m_bestTop, .long m_bestBy, .ref a_weights, .ref a_shared, .int m_random, .int m_truePlace, .int m_trueWay, .int m_seconds, .int m_done, .int m_feelings, .int m_tries, .int m_leftOver, .int m_playDoor, .int m_playRing, .int m_isOpen, .int m_isOver, .int m_wasTried, .int m_hasPlayed, .ref a_feltNow, .ref a_last, .ref a_kept, .int m_hasSeconds, .int m_hasTurned, .int m_hasRound, .ref a_hasFeels, .ref a_isOn, .int m_firstAct, .long u.1, .long u.2, .ref a_order, .int m_rowMany, .int m_newSteps])), (a_c, .inl (cA.1 0, 1825, .inl g_c)), (a_there, .inl (cA.1 0, 10, .inl g_there))]) 0 0 := by
  have hk_0 : (0 : Int32).toInt = 0 := by decide +kernel
  have hk_1 : (1 : Int32).toInt = 1 := by decide +kernel
  have hk_128 : (128 : Int32).toInt = 128 := by decide +kernel
  have hkl_0 : (0 : Int64).toInt = 0 := by decide +kernel
  refine z_start2v (own := RX12) (by decide) (Nat.le_of_ble_eq_true rfl) rfl ?_
  intro p e s m args below meth c A ls Q hx hb hml hts hown hK hE hT hP hD hS hA hl hret
  have hl : lv_has ls 5 [(0, .ref h0), (1, .int pp), (2, .int w)] := hl
  refine lv_aload_n hx hb dX12_meanFrom_0 rfl (lv_at hl 0 rfl) ?_
  refine lv_lconst (v := 0) hx hb dX12_meanFrom_1 (by decide) ?_
  refine va_put (D := G) (ci := 12) (v := .long 0) (ty := .long) (C := RX12) (T := TX12) (N := 65) hx hb hts inT12 tyX12 tyX12_ok nmX12 hown hK hP hD hS 0 rfl rfl 60 (by decide) (hts _ tw_1943) (fun _ h9 => h9) rfl (tyX12_ok 60 (by decide)) rfl rfl (Nat.le_of_ble_eq_true rfl) dX12_meanFrom_2 (fun H locs hP hD hS => ?_)
  refine lv_aload_n hx hb dX12_meanFrom_5 rfl (lv_at hl 0 rfl) ?_
  refine lv_lconst (v := 0) hx hb dX12_meanFrom_6 (by decide) ?_
  refine va_put (D := G) (ci := 12) (v := .long 0) (ty := .long) (C := RX12) (T := TX12) (N := 65) hx hb hts inT12 tyX12 tyX12_ok nmX12 hown hK hP hD hS 0 rfl rfl 61 (by decide) (hts _ tw_1944) (fun _ h9 => h9) rfl (tyX12_ok 61 (by decide)) rfl rfl (Nat.le_of_ble_eq_true rfl) dX12_meanFrom_7 (fun H locs hP hD hS => ?_)
  have hg3 := zC_3 hC_g_c.1
  refine lv_iconst (v := 0) hx hb dX12_meanFrom_10 (by decide) ?_
  refine lv_istore_n (lv' := [(3, .int 0), (0, .ref h0), (1, .int pp), (2, .int w)]) hx hb dX12_meanFrom_11 rfl hl (by decide) rfl (fun ls hl => ?_)
  have hlp_258 : ∀ (n : Nat) (v_226 : Int32) (v_227 : Int64) (v_228 : Int64) (H : Heap) (locs : List Loc) (ls : Array Slot), (2147483647 - v_226.toInt).toNat < n → (0 ≤ v_226.toInt ∧ v_226.toInt ≤ 5) → (0 ≤ v_228.toInt ∧ v_228.toInt ≤ 495) → ((1 ≤ v_228.toInt ∧ zMd g_c g_there m_thereMany.toInt v_226.toInt) ∨ (v_228.toInt = 0 ∧ ¬ zMd g_c g_there m_thereMany.toInt v_226.toInt)) → (v_228.toInt ≤ 99 * v_226.toInt) → (v_226.toInt ≤ (g_c 3).toInt) → va_P G vwCl [(h0, .inr (12, [.int m_status, .int m_thrown, .long m_above, .long m_under, .ref a_traySort, .ref a_trayMany, .ref a_numbers, .ref a_tape, .int m_taped, .int m_textEnd, .int m_faultKind, .int m_faultAt, .int m_bad, .int m_badAt, .int m_token, .int m_at, .int m_behind, .int m_number, .int m_letters, .long m_word, .ref a_c, .ref a_words, .int m_markMany, .ref a_there, .ref a_tried, .ref a_best, .ref a_found, .int m_thereMany, .int m_foundMany, .int m_orderHow, .int m_orderRing, .int m_orderMany, .int m_hasBest, .long m_bestTop, .long m_bestBy, .ref a_weights, .ref a_shared, .int m_random, .int m_truePlace, .int m_trueWay, .int m_seconds, .int m_done, .int m_feelings, .int m_tries, .int m_leftOver, .int m_playDoor, .int m_playRing, .int m_isOpen, .int m_isOver, .int m_wasTried, .int m_hasPlayed, .ref a_feltNow, .ref a_last, .ref a_kept, .int m_hasSeconds, .int m_hasTurned, .int m_hasRound, .ref a_hasFeels, .ref a_isOn, .int m_firstAct, .long v_227, .long v_228, .ref a_order, .int m_rowMany, .int m_newSteps])), (a_c, .inl (cA.1 0, 1825, .inl g_c)), (a_there, .inl (cA.1 0, 10, .inl g_there))] H → va_D A [(h0, .inr (12, [.int m_status, .int m_thrown, .long m_above, .long m_under, .ref a_traySort, .ref a_trayMany, .ref a_numbers, .ref a_tape, .int m_taped, .int m_textEnd, .int m_faultKind, .int m_faultAt, .int m_bad, .int m_badAt, .int m_token, .int m_at, .int m_behind, .int m_number, .int m_letters, .long m_word, .ref a_c, .ref a_words, .int m_markMany, .ref a_there, .ref a_tried, .ref a_best, .ref a_found, .int m_thereMany, .int m_foundMany, .int m_orderHow, .int m_orderRing, .int m_orderMany, .int m_hasBest, .long m_bestTop, .long m_bestBy, .ref a_weights, .ref a_shared, .int m_random, .int m_truePlace, .int m_trueWay, .int m_seconds, .int m_done, .int m_feelings, .int m_tries, .int m_leftOver, .int m_playDoor, .int m_playRing, .int m_isOpen, .int m_isOver, .int m_wasTried, .int m_hasPlayed, .ref a_feltNow, .ref a_last, .ref a_kept, .int m_hasSeconds, .int m_hasTurned, .int m_hasRound, .ref a_hasFeels, .ref a_isOn, .int m_firstAct, .long v_227, .long v_228, .ref a_order, .int m_rowMany, .int m_newSteps])), (a_c, .inl (cA.1 0, 1825, .inl g_c)), (a_there, .inl (cA.1 0, 10, .inl g_there))] → va_S A s.heap H locs → lv_has ls 5 [(0, .ref h0), (1, .int pp), (2, .int w), (3, .int v_226)] → W p l e ({ frames := 2, cells := 0, slots := 0, locals := 48 }) s m args below meth c H locs 0 0 Q (F0 m 12 ls []) := by
    intro n
    induction n with
    | zero =>
      intro v_226 v_227 v_228 H locs ls hmu_hlp_258 hr_v_226 hr_v_228 hi_255 hi_256 hi_257 hP hD hS hl
      exact absurd hmu_hlp_258 (Nat.not_lt_zero _)
    | succ n ih_259 =>
      intro v_226 v_227 v_228 H locs ls hmu_hlp_258 hr_v_226 hr_v_228 hi_255 hi_256 hi_257 hP hD hS hl
      refine lv_iload_n hx hb dX12_meanFrom_12 rfl (lv_at hl 3 rfl) ?_
      refine lv_aload_n hx hb dX12_meanFrom_13 rfl (lv_at hl 0 rfl) ?_
      refine va_get (D := G) (ci := 12) (v := .ref a_c) (C := RX12) (T := TX12) (N := 65) hx hb hts inT12 hown hK hP 0 rfl rfl 20 (by decide) (hts _ tw_1905) (fun _ h9 => h9) rfl dX12_meanFrom_14 ?_
      refine lv_iconst (v := 3) hx hb dX12_meanFrom_17 (by decide) ?_
      refine va_iald hx hb hK hP 1 0 rfl rfl (z_in (i := 3) (n := 1825) (by decide +kernel) (by decide +kernel)) dX12_meanFrom_18 ?_
      refine lv_topi (fun x_260 he_x_260 => ?_)
      have hr_x_260 := z_ctk hC_g_c he_x_260 (k := 3) (lo := 0) (hi := 5) (by decide +kernel) (by decide +kernel) (by decide +kernel)
      have hv_x_260 := z_cv he_x_260 (k := 3) (by decide +kernel)
      refine lv_icmp_ge (tgt := 96) hx hb dX12_meanFrom_19 (by decide) (fun c_261 => ?_) (fun c_261 => ?_)
      · have b_262 := z_fgeT c_261
        have hpost : (0 ≤ v_228.toInt ∧ v_228.toInt ≤ 495) ∧ ((1 ≤ v_228.toInt ∧ zMB g_c g_there m_thereMany.toInt) ∨ (v_228.toInt = 0 ∧ ¬ zMB g_c g_there m_thereMany.toInt)) := ⟨hr_v_228, (by first | exact zMd_nil hi_255 (by omega) | exact zMd_end hi_255 (by omega))⟩
        exact hret _ _ _ _ _ (v_227, v_228) [0, 1, 2] hP hD hS rfl (by decide) dX12_meanFrom_96 hpost
      · have b_263 := z_fltF c_261
        refine lv_aload_n hx hb dX12_meanFrom_22 rfl (lv_at hl 0 rfl) ?_
        refine va_get (D := G) (ci := 12) (v := .int m_thereMany) (C := RX12) (T := TX12) (N := 65) hx hb hts inT12 hown hK hP 0 rfl rfl 27 (by decide) (hts _ tw_1912) (fun _ h9 => h9) rfl dX12_meanFrom_23 ?_
        refine lv_if_le (tgt := 96) hx hb dX12_meanFrom_26 (by decide) (fun c_264 => ?_) (fun c_264 => ?_)
        · have b_265 := z_fleT c_264
          have hpost : (0 ≤ v_228.toInt ∧ v_228.toInt ≤ 495) ∧ ((1 ≤ v_228.toInt ∧ zMB g_c g_there m_thereMany.toInt) ∨ (v_228.toInt = 0 ∧ ¬ zMB g_c g_there m_thereMany.toInt)) := ⟨hr_v_228, (by first | exact zMd_nil hi_255 (by omega) | exact zMd_end hi_255 (by omega))⟩
          exact hret _ _ _ _ _ (v_227, v_228) [0, 1, 2] hP hD hS rfl (by decide) dX12_meanFrom_96 hpost
        · have b_266 := z_fgtF c_264
          refine lv_aload_n hx hb dX12_meanFrom_29 rfl (lv_at hl 0 rfl) ?_
          refine lv_iload_n hx hb dX12_meanFrom_30 rfl (lv_at hl 3 rfl) ?_
          refine lv_iload_n hx hb dX12_meanFrom_31 rfl (lv_at hl 1 rfl) ?_
          refine lv_iload_n hx hb dX12_meanFrom_32 rfl (lv_at hl 2 rfl) ?_
          refine z_callVi (As := [.int v_226, .int pp, .int w]) (rest := []) (wr := []) ⟨hx, hb, hml, hown, hts⟩ hK hE hT hP hD hS hA (r_search l G cA h0 m_status m_thrown m_above m_under a_traySort a_trayMany a_numbers a_tape m_taped m_textEnd m_faultKind m_faultAt m_bad m_badAt m_token m_at m_behind m_number m_letters m_word a_c a_words m_markMany a_there a_tried a_best a_found m_thereMany m_foundMany m_orderHow m_orderRing m_orderMany m_hasBest m_bestTop m_bestBy a_weights a_shared m_random m_truePlace m_trueWay m_seconds m_done m_feelings m_tries m_leftOver m_playDoor m_playRing m_isOpen m_isOver m_wasTried m_hasPlayed a_feltNow a_last a_kept m_hasSeconds m_hasTurned m_hasRound a_hasFeels a_isOn m_firstAct v_227 v_228 a_order m_rowMany m_newSteps g_c g_there v_226 pp w (by omega) hr_pp hr_w hr_m_thereMany hC_g_c hC_g_there (by omega)) lk_RX12_387 ⟨rfl, rfl⟩ ⟨Nat.le_of_ble_eq_true rfl, Nat.le_of_ble_eq_true rfl⟩ 12 rfl rfl rfl [0, 1, 2] [] rfl rfl (by decide) rfl hl.1 rfl (lv_room (Nat.le_of_ble_eq_true rfl)) dX12_meanFrom_33 ⟨Nat.le_of_ble_eq_true rfl, Nat.le_of_ble_eq_true rfl⟩ (fun r_267 u_268 H locs hw hP hD hS => ?_)
          obtain ⟨hr_r_267, hf_269, hf_270⟩ := hw
          refine lv_istore (lv' := [(4, .int r_267), (0, .ref h0), (1, .int pp), (2, .int w), (3, .int v_226)]) hx hb dX12_meanFrom_36 hl (by decide) rfl (fun ls hl => ?_)
          refine lv_iload hx hb dX12_meanFrom_38 (lv_at hl 0 rfl) ?_
          refine lv_if_ge (tgt := 46) hx hb dX12_meanFrom_40 (by decide) (fun c_271 => ?_) (fun c_271 => ?_)
          · have b_272 := z_fgeT c_271
            refine lv_aload_n hx hb dX12_meanFrom_46 rfl (lv_at hl 1 rfl) ?_
            refine lv_dup hx hb dX12_meanFrom_47 rfl ?_
            refine va_get (D := G) (ci := 12) (v := .long v_227) (C := RX12) (T := TX12) (N := 65) hx hb hts inT12 hown hK hP 0 rfl rfl 60 (by decide) (hts _ tw_1943) (fun _ h9 => h9) rfl dX12_meanFrom_48 ?_
            refine lv_aload_n hx hb dX12_meanFrom_51 rfl (lv_at hl 1 rfl) ?_
            refine va_get (D := G) (ci := 12) (v := .ref a_c) (C := RX12) (T := TX12) (N := 65) hx hb hts inT12 hown hK hP 0 rfl rfl 20 (by decide) (hts _ tw_1905) (fun _ h9 => h9) rfl dX12_meanFrom_52 ?_
            refine lv_sipush (v := 128) hx hb dX12_meanFrom_55 (by decide) ?_
            refine lv_iload_n hx hb dX12_meanFrom_58 rfl (lv_at hl 4 rfl) ?_
            refine lv_iadd hx hb dX12_meanFrom_59 ?_
            refine lv_topi (fun x_273 he_x_273 => ?_)
            have hq_x_273 := z_addq he_x_273 hk_128 (rfl : v_226.toInt = _) (by omega) (by omega)
            refine va_iald hx hb hK hP 1 0 rfl rfl (z_inN (by omega) (by omega)) dX12_meanFrom_60 ?_
            refine lv_topi (fun x_274 he_x_274 => ?_)
            have hr_x_274 := z_ct hC_g_c he_x_274 (a := 128) (b := 132) (lo := 0) (hi := 99) (by decide +kernel) (by decide) (by omega) (by omega)
            refine lv_i2l (v := (x_274).toInt64) hx hb dX12_meanFrom_61 rfl ?_
            refine lv_topl (fun x_275 he_x_275 => ?_)
            have hq_x_275 := z_i2l he_x_275
            refine lv_iload hx hb dX12_meanFrom_62 (lv_at hl 0 rfl) ?_
            refine lv_i2l (v := (r_267).toInt64) hx hb dX12_meanFrom_64 rfl ?_
            refine lv_topl (fun x_276 he_x_276 => ?_)
            have hq_x_276 := z_i2l he_x_276
            refine lv_lmul hx hb dX12_meanFrom_65 ?_
            refine lv_topl (fun x_277 he_x_277 => ?_)
            have hr_x_277 := z_mulrl he_x_277 (M := 99) (N := 2178) (by omega) (by omega) (by decide)
            have hm_x_277 := z_mulpl he_x_277 (M := 99) (N := 2178) (by omega) (by omega) (by decide)
            refine lv_ladd hx hb dX12_meanFrom_66 ?_
            have hL_v_227 := z_fulll v_227
            refine lv_topl (fun x_278 he_x_278 => ?_)
            refine va_put (D := G) (ci := 12) (v := .long x_278) (ty := .long) (C := RX12) (T := TX12) (N := 65) hx hb hts inT12 tyX12 tyX12_ok nmX12 hown hK hP hD hS 0 rfl rfl 60 (by decide) (hts _ tw_1943) (fun _ h9 => h9) rfl (tyX12_ok 60 (by decide)) rfl rfl (Nat.le_of_ble_eq_true rfl) dX12_meanFrom_67 (fun H locs hP hD hS => ?_)
            refine lv_aload_n hx hb dX12_meanFrom_70 rfl (lv_at hl 1 rfl) ?_
            refine lv_dup hx hb dX12_meanFrom_71 rfl ?_
            refine va_get (D := G) (ci := 12) (v := .long v_228) (C := RX12) (T := TX12) (N := 65) hx hb hts inT12 hown hK hP 0 rfl rfl 61 (by decide) (hts _ tw_1944) (fun _ h9 => h9) rfl dX12_meanFrom_72 ?_
            refine lv_aload_n hx hb dX12_meanFrom_75 rfl (lv_at hl 1 rfl) ?_
            refine va_get (D := G) (ci := 12) (v := .ref a_c) (C := RX12) (T := TX12) (N := 65) hx hb hts inT12 hown hK hP 0 rfl rfl 20 (by decide) (hts _ tw_1905) (fun _ h9 => h9) rfl dX12_meanFrom_76 ?_
            refine lv_sipush (v := 128) hx hb dX12_meanFrom_79 (by decide) ?_
            refine lv_iload_n hx hb dX12_meanFrom_82 rfl (lv_at hl 4 rfl) ?_
            refine lv_iadd hx hb dX12_meanFrom_83 ?_
            refine lv_topi (fun x_279 he_x_279 => ?_)
            have hq_x_279 := z_addq he_x_279 hk_128 (rfl : v_226.toInt = _) (by omega) (by omega)
            refine va_iald hx hb hK hP 1 0 rfl rfl (z_inN (by omega) (by omega)) dX12_meanFrom_84 ?_
            refine lv_topi (fun x_280 he_x_280 => ?_)
            have hr_x_280 := z_ct hC_g_c he_x_280 (a := 128) (b := 132) (lo := 0) (hi := 99) (by decide +kernel) (by decide) (by omega) (by omega)
            refine lv_i2l (v := (x_280).toInt64) hx hb dX12_meanFrom_85 rfl ?_
            refine lv_topl (fun x_281 he_x_281 => ?_)
            have hq_x_281 := z_i2l he_x_281
            refine lv_ladd hx hb dX12_meanFrom_86 ?_
            refine lv_topl (fun x_282 he_x_282 => ?_)
            have hq_x_282 := z_addql he_x_282 (rfl : v_228.toInt = _) (rfl : x_281.toInt = _) (by omega) (by omega)
            refine va_put (D := G) (ci := 12) (v := .long x_282) (ty := .long) (C := RX12) (T := TX12) (N := 65) hx hb hts inT12 tyX12 tyX12_ok nmX12 hown hK hP hD hS 0 rfl rfl 61 (by decide) (hts _ tw_1944) (fun _ h9 => h9) rfl (tyX12_ok 61 (by decide)) rfl rfl (Nat.le_of_ble_eq_true rfl) dX12_meanFrom_87 (fun H locs hP hD hS => ?_)
            obtain ⟨x_283, he_x_283⟩ : ∃ z : Int32, z = v_226 + 1 := ⟨_, rfl⟩
            have hq_x_283 := z_addq he_x_283 (rfl : v_226.toInt = _) hk_1 (by omega) (by omega)
            refine lv_iinc (v := x_283) (lv' := [(3, .int x_283), (4, .int r_267), (0, .ref h0), (1, .int pp), (2, .int w)]) hx hb dX12_meanFrom_90 hl (k := 4) rfl ((z_ofi (by decide +kernel)).trans he_x_283.symm) (by decide) rfl (fun ls hl => ?_)
            refine lv_goto (tgt := 12) hx hb dX12_meanFrom_93 (by decide) ?_
            exact ih_259 x_283 x_278 x_282 H locs ls (by omega) (by omega) (by omega) (by rw [hq_x_283]; exact zMd_yes hi_255 he_x_280 (by omega) (by omega) (hf_270 (by omega)) (by omega) (by omega)) (by omega) (by omega) hP hD hS (lv_sub hl [2, 3, 4, 0] rfl)
          · have b_284 := z_fltF c_271
            refine lv_goto (tgt := 90) hx hb dX12_meanFrom_43 (by decide) ?_
            obtain ⟨x_285, he_x_285⟩ : ∃ z : Int32, z = v_226 + 1 := ⟨_, rfl⟩
            have hq_x_285 := z_addq he_x_285 (rfl : v_226.toInt = _) hk_1 (by omega) (by omega)
            refine lv_iinc (v := x_285) (lv' := [(3, .int x_285), (4, .int r_267), (0, .ref h0), (1, .int pp), (2, .int w)]) hx hb dX12_meanFrom_90 hl (k := 4) rfl ((z_ofi (by decide +kernel)).trans he_x_285.symm) (by decide) rfl (fun ls hl => ?_)
            refine lv_goto (tgt := 12) hx hb dX12_meanFrom_93 (by decide) ?_
            exact ih_259 x_285 v_227 v_228 H locs ls (by omega) (by omega) hr_v_228 (by rw [hq_x_285]; exact zMd_no hi_255 (by omega) (hf_269 (by omega))) (by omega) (by omega) hP hD hS (lv_sub hl [2, 3, 4, 0] rfl)
  exact hlp_258 _ 0 0 0 _ _ _ (Nat.lt_succ_self _) (by decide +kernel) (by decide +kernel) (Or.inr ⟨by omega, zMd_0⟩) (by omega) (by omega) hP hD hS (lv_sub hl [1, 2, 3, 0] rfl)
set_option maxHeartbeats 4000000 in
set_option maxRecDepth 100000 in
theorem r_meanAnywhere (l : Launch) (G : va_G) (cA : zCA) (h0 : Nat) (m_status : Int32) (m_thrown : Int32) (m_above : Int64) (m_under : Int64) (a_traySort : Nat) (a_trayMany : Nat) (a_numbers : Nat) (a_tape : Nat) (m_taped : Int32) (m_textEnd : Int32) (m_faultKind : Int32) (m_faultAt : Int32) (m_bad : Int32) (m_badAt : Int32) (m_token : Int32) (m_at : Int32) (m_behind : Int32) (m_number : Int32) (m_letters : Int32) (m_word : Int64) (a_c : Nat) (a_words : Nat) (m_markMany : Int32) (a_there : Nat) (a_tried : Nat) (a_best : Nat) (a_found : Nat) (m_thereMany : Int32) (m_foundMany : Int32) (m_orderHow : Int32) (m_orderRing : Int32) (m_orderMany : Int32) (m_hasBest : Int32) (m_bestTop : Int64) (m_bestBy : Int64) (a_weights : Nat) (a_shared : Nat) (m_random : Int32) (m_truePlace : Int32) (m_trueWay : Int32) (m_seconds : Int32) (m_done : Int32) (m_feelings : Int32) (m_tries : Int32) (m_leftOver : Int32) (m_playDoor : Int32) (m_playRing : Int32) (m_isOpen : Int32) (m_isOver : Int32) (m_wasTried : Int32) (m_hasPlayed : Int32) (a_feltNow : Nat) (a_last : Nat) (a_kept : Nat) (m_hasSeconds : Int32) (m_hasTurned : Int32) (m_hasRound : Int32) (a_hasFeels : Nat) (a_isOn : Nat) (m_firstAct : Int32) (m_meanTop : Int64) (m_meanBy : Int64) (a_order : Nat) (m_rowMany : Int32) (m_newSteps : Int32) (g_c : Nat → Int32) (g_there : Nat → Int32) (hr_m_thereMany : 0 ≤ m_thereMany.toInt ∧ m_thereMany.toInt ≤ 10) (hC_g_c : zC g_c) (hC_g_there : zRg 10 0 9 g_there) : zCv l yX12_meanAnywhere cX12_meanAnywhere 6 none ({ frames := 3, cells := 0, slots := 0, locals := 72 }) G cA [.ref h0] [(h0, .inr (12, [.int m_status, .int m_thrown, .long m_above, .long m_under, .ref a_traySort, .ref a_trayMany, .ref a_numbers, .ref a_tape, .int m_taped, .int m_textEnd, .int m_faultKind, .int m_faultAt, .int m_bad, .int m_badAt, .int m_token, .int m_at, .int m_behind, .int m_number, .int m_letters, .long m_word, .ref a_c, .ref a_words, .int m_markMany, .ref a_there, .ref a_tried, .ref a_best, .ref a_found, .int m_thereMany, .int m_foundMany, .int m_orderHow, .int m_orderRing, .int m_orderMany, .int m_hasBest, .long m_bestTop, .long m_bestBy, .ref a_weights, .ref a_shared, .int m_random, .int m_truePlace, .int m_trueWay, .int m_seconds, .int m_done, .int m_feelings, .int m_tries, .int m_leftOver, .int m_playDoor, .int m_playRing, .int m_isOpen, .int m_isOver, .int m_wasTried, .int m_hasPlayed, .ref a_feltNow, .ref a_last, .ref a_kept, .int m_hasSeconds, .int m_hasTurned, .int m_hasRound, .ref a_hasFeels, .ref a_isOn, .int m_firstAct, .long m_meanTop, .long m_meanBy, .ref a_order, .int m_rowMany, .int m_newSteps])), (a_c, .inl (cA.1 0, 1825, .inl g_c)), (a_there, .inl (cA.1 0, 10, .inl g_there))] (S := Int64 × Int64) (fun (u : Int64 × Int64) => (0 ≤ u.2.toInt ∧ u.2.toInt ≤ 79200) ∧ (zMB g_c g_there m_thereMany.toInt → 1 ≤ u.2.toInt)) (fun (u : Int64 × Int64) => [(h0, .inr (12, [.int m_status, .int m_thrown, .long m_above, .long m_under, .ref a_traySort, .ref a_trayMany, .ref a_numbers, .ref a_tape, .int m_taped, .int m_textEnd, .int m_faultKind, .int m_faultAt, .int m_bad, .int m_badAt, .int m_token, .int m_at, .int m_behind, .int m_number, .int m_letters, .long m_word, .ref a_c, .ref a_words, .int m_markMany, .ref a_there, .ref a_tried, .ref a_best, .ref a_found, .int m_thereMany, .int m_foundMany, .int m_orderHow, .int m_orderRing, .int m_orderMany, .int m_hasBest, .long m_bestTop, .long m_bestBy, .ref a_weights, .ref a_shared, .int m_random, .int m_truePlace, .int m_trueWay, .int m_seconds, .int m_done, .int m_feelings, .int m_tries, .int m_leftOver, .int m_playDoor, .int m_playRing, .int m_isOpen, .int m_isOver, .int m_wasTried, .int m_hasPlayed, .ref a_feltNow, .ref a_last, .ref a_kept, .int m_hasSeconds, .int m_hasTurned, .int m_hasRound, .ref a_hasFeels, .ref a_isOn, .int m_firstAct, .long u.1, .long u.2, .ref a_order, .int m_rowMany, .int m_newSteps])), (a_c, .inl (cA.1 0, 1825, .inl g_c)), (a_there, .inl (cA.1 0, 10, .inl g_there))]) 0 0 := by
  have hk_0 : (0 : Int32).toInt = 0 := by decide +kernel
  have hk_1 : (1 : Int32).toInt = 1 := by decide +kernel
  have hk_2 : (2 : Int32).toInt = 2 := by decide +kernel
  have hkl_0 : (0 : Int64).toInt = 0 := by decide +kernel
  have hkl_16 : (16 : Int64).toInt = 16 := by decide +kernel
  refine z_start2v (own := RX12) (by decide) (Nat.le_of_ble_eq_true rfl) rfl ?_
  intro p e s m args below meth c A ls Q hx hb hml hts hown hK hE hT hP hD hS hA hl hret
  have hl : lv_has ls 6 [(0, .ref h0)] := hl
  refine lv_lconst (v := 0) hx hb dX12_meanAnywhere_0 (by decide) ?_
  refine lv_lstore_n (lv' := [(1, .long 0), (0, .ref h0)]) hx hb dX12_meanAnywhere_1 rfl hl (by decide) rfl (fun ls hl => ?_)
  refine lv_lconst (v := 0) hx hb dX12_meanAnywhere_2 (by decide) ?_
  refine lv_lstore_n (lv' := [(3, .long 0), (1, .long 0), (0, .ref h0)]) hx hb dX12_meanAnywhere_3 rfl hl (by decide) rfl (fun ls hl => ?_)
  refine lv_iconst (v := 0) hx hb dX12_meanAnywhere_4 (by decide) ?_
  refine lv_istore (lv' := [(5, .int 0), (3, .long 0), (1, .long 0), (0, .ref h0)]) hx hb dX12_meanAnywhere_5 hl (by decide) rfl (fun ls hl => ?_)
  have hlp_636 : ∀ (n : Nat) (v_604 : Int64) (v_605 : Int64) (v_606 : Int32) (v_607 : Int64) (v_608 : Int64) (H : Heap) (locs : List Loc) (ls : Array Slot), (2147483647 - v_606.toInt).toNat < n → (0 ≤ v_605.toInt ∧ v_605.toInt ≤ 495) → (0 ≤ v_606.toInt ∧ v_606.toInt ≤ 20) → (v_606.toInt ≤ 0 ∨ (1 ≤ v_605.toInt ∧ zMB g_c g_there m_thereMany.toInt) ∨ (v_605.toInt = 0 ∧ ¬ zMB g_c g_there m_thereMany.toInt)) → va_P G vwCl [(h0, .inr (12, [.int m_status, .int m_thrown, .long m_above, .long m_under, .ref a_traySort, .ref a_trayMany, .ref a_numbers, .ref a_tape, .int m_taped, .int m_textEnd, .int m_faultKind, .int m_faultAt, .int m_bad, .int m_badAt, .int m_token, .int m_at, .int m_behind, .int m_number, .int m_letters, .long m_word, .ref a_c, .ref a_words, .int m_markMany, .ref a_there, .ref a_tried, .ref a_best, .ref a_found, .int m_thereMany, .int m_foundMany, .int m_orderHow, .int m_orderRing, .int m_orderMany, .int m_hasBest, .long m_bestTop, .long m_bestBy, .ref a_weights, .ref a_shared, .int m_random, .int m_truePlace, .int m_trueWay, .int m_seconds, .int m_done, .int m_feelings, .int m_tries, .int m_leftOver, .int m_playDoor, .int m_playRing, .int m_isOpen, .int m_isOver, .int m_wasTried, .int m_hasPlayed, .ref a_feltNow, .ref a_last, .ref a_kept, .int m_hasSeconds, .int m_hasTurned, .int m_hasRound, .ref a_hasFeels, .ref a_isOn, .int m_firstAct, .long v_607, .long v_608, .ref a_order, .int m_rowMany, .int m_newSteps])), (a_c, .inl (cA.1 0, 1825, .inl g_c)), (a_there, .inl (cA.1 0, 10, .inl g_there))] H → va_D A [(h0, .inr (12, [.int m_status, .int m_thrown, .long m_above, .long m_under, .ref a_traySort, .ref a_trayMany, .ref a_numbers, .ref a_tape, .int m_taped, .int m_textEnd, .int m_faultKind, .int m_faultAt, .int m_bad, .int m_badAt, .int m_token, .int m_at, .int m_behind, .int m_number, .int m_letters, .long m_word, .ref a_c, .ref a_words, .int m_markMany, .ref a_there, .ref a_tried, .ref a_best, .ref a_found, .int m_thereMany, .int m_foundMany, .int m_orderHow, .int m_orderRing, .int m_orderMany, .int m_hasBest, .long m_bestTop, .long m_bestBy, .ref a_weights, .ref a_shared, .int m_random, .int m_truePlace, .int m_trueWay, .int m_seconds, .int m_done, .int m_feelings, .int m_tries, .int m_leftOver, .int m_playDoor, .int m_playRing, .int m_isOpen, .int m_isOver, .int m_wasTried, .int m_hasPlayed, .ref a_feltNow, .ref a_last, .ref a_kept, .int m_hasSeconds, .int m_hasTurned, .int m_hasRound, .ref a_hasFeels, .ref a_isOn, .int m_firstAct, .long v_607, .long v_608, .ref a_order, .int m_rowMany, .int m_newSteps])), (a_c, .inl (cA.1 0, 1825, .inl g_c)), (a_there, .inl (cA.1 0, 10, .inl g_there))] → va_S A s.heap H locs → lv_has ls 6 [(0, .ref h0), (1, .long v_604), (3, .long v_605), (5, .int v_606)] → W p l e ({ frames := 3, cells := 0, slots := 0, locals := 72 }) s m args below meth c H locs 0 0 Q (F0 m 7 ls []) := by
    intro n
    induction n with
    | zero =>
      intro v_604 v_605 v_606 v_607 v_608 H locs ls hmu_hlp_636 hr_v_605 hr_v_606 hi_635 hP hD hS hl
      exact absurd hmu_hlp_636 (Nat.not_lt_zero _)
    | succ n ih_637 =>
      intro v_604 v_605 v_606 v_607 v_608 H locs ls hmu_hlp_636 hr_v_605 hr_v_606 hi_635 hP hD hS hl
      refine lv_iload hx hb dX12_meanAnywhere_7 (lv_at hl 3 rfl) ?_
      refine lv_iconst (v := 2) hx hb dX12_meanAnywhere_9 (by decide) ?_
      refine lv_aload_n hx hb dX12_meanAnywhere_10 rfl (lv_at hl 0 rfl) ?_
      refine va_get (D := G) (ci := 12) (v := .int m_thereMany) (C := RX12) (T := TX12) (N := 65) hx hb hts inT12 hown hK hP 0 rfl rfl 27 (by decide) (hts _ tw_1912) (fun _ h9 => h9) rfl dX12_meanAnywhere_11 ?_
      refine lv_imul hx hb dX12_meanAnywhere_14 ?_
      refine lv_topi (fun x_638 he_x_638 => ?_)
      have hq_x_638 := z_mulq he_x_638 hk_2 (rfl : m_thereMany.toInt = _) (by omega) (by omega)
      refine lv_icmp_ge (tgt := 77) hx hb dX12_meanAnywhere_15 (by decide) (fun c_639 => ?_) (fun c_639 => ?_)
      · have b_640 := z_fgeT c_639
        refine lv_aload_n hx hb dX12_meanAnywhere_77 rfl (lv_at hl 0 rfl) ?_
        refine lv_lload_n hx hb dX12_meanAnywhere_78 rfl (lv_at hl 1 rfl) ?_
        refine va_put (D := G) (ci := 12) (v := .long v_604) (ty := .long) (C := RX12) (T := TX12) (N := 65) hx hb hts inT12 tyX12 tyX12_ok nmX12 hown hK hP hD hS 0 rfl rfl 60 (by decide) (hts _ tw_1943) (fun _ h9 => h9) rfl (tyX12_ok 60 (by decide)) rfl rfl (Nat.le_of_ble_eq_true rfl) dX12_meanAnywhere_79 (fun H locs hP hD hS => ?_)
        refine lv_aload_n hx hb dX12_meanAnywhere_82 rfl (lv_at hl 0 rfl) ?_
        refine lv_lload_n hx hb dX12_meanAnywhere_83 rfl (lv_at hl 2 rfl) ?_
        refine lv_ldc2 (v := 16) hx hb hown (hts _ tw_2470) dX12_meanAnywhere_84 ?_
        refine lv_lmul hx hb dX12_meanAnywhere_87 ?_
        refine lv_topl (fun x_641 he_x_641 => ?_)
        have hq_x_641 := z_mulql he_x_641 (rfl : v_605.toInt = _) hkl_16 (by omega) (by omega)
        refine lv_aload_n hx hb dX12_meanAnywhere_88 rfl (lv_at hl 0 rfl) ?_
        refine va_get (D := G) (ci := 12) (v := .int m_thereMany) (C := RX12) (T := TX12) (N := 65) hx hb hts inT12 hown hK hP 0 rfl rfl 27 (by decide) (hts _ tw_1912) (fun _ h9 => h9) rfl dX12_meanAnywhere_89 ?_
        refine lv_i2l (v := (m_thereMany).toInt64) hx hb dX12_meanAnywhere_92 rfl ?_
        refine lv_topl (fun x_642 he_x_642 => ?_)
        have hq_x_642 := z_i2l he_x_642
        refine lv_lmul hx hb dX12_meanAnywhere_93 ?_
        refine lv_topl (fun x_643 he_x_643 => ?_)
        have hr_x_643 := z_mulrl he_x_643 (M := 7920) (N := 10) (by omega) (by omega) (by decide)
        have hm_x_643 := z_mulpl he_x_643 (M := 7920) (N := 10) (by omega) (by omega) (by decide)
        refine va_put (D := G) (ci := 12) (v := .long x_643) (ty := .long) (C := RX12) (T := TX12) (N := 65) hx hb hts inT12 tyX12 tyX12_ok nmX12 hown hK hP hD hS 0 rfl rfl 61 (by decide) (hts _ tw_1944) (fun _ h9 => h9) rfl (tyX12_ok 61 (by decide)) rfl rfl (Nat.le_of_ble_eq_true rfl) dX12_meanAnywhere_94 (fun H locs hP hD hS => ?_)
        have hpost : (0 ≤ x_643.toInt ∧ x_643.toInt ≤ 79200) ∧ (zMB g_c g_there m_thereMany.toInt → 1 ≤ x_643.toInt) := ⟨(by omega), (fun h1 => by have h2 := zMB_pos h1; rcases hi_635 with h | h | h <;> first | omega | exact absurd h1 h.2)⟩
        exact hret _ _ _ _ _ (v_604, x_643) [0, 1, 2] hP hD hS rfl (by decide) dX12_meanAnywhere_97 hpost
      · have b_644 := z_fltF c_639
        refine lv_aload_n hx hb dX12_meanAnywhere_18 rfl (lv_at hl 0 rfl) ?_
        refine lv_iload hx hb dX12_meanAnywhere_19 (lv_at hl 3 rfl) ?_
        refine lv_iconst (v := 2) hx hb dX12_meanAnywhere_21 (by decide) ?_
        refine lv_idiv hx hb dX12_meanAnywhere_22 (by decide +kernel) ?_
        refine lv_topi (fun x_645 he_x_645 => ?_)
        have hq_x_645 := z_divq he_x_645 (rfl : v_606.toInt = _) hk_2 (by omega) (by decide)
        refine lv_iload hx hb dX12_meanAnywhere_23 (lv_at hl 3 rfl) ?_
        refine lv_iconst (v := 2) hx hb dX12_meanAnywhere_25 (by decide) ?_
        refine lv_irem hx hb dX12_meanAnywhere_26 (by decide +kernel) ?_
        refine lv_topi (fun x_646 he_x_646 => ?_)
        have hq_x_646 := z_remq he_x_646 (rfl : v_606.toInt = _) hk_2 (by omega) (by decide)
        refine z_callVv (As := [.int x_645, .int x_646]) (rest := []) (wr := []) ⟨hx, hb, hml, hown, hts⟩ hK hE hT hP hD hS hA (r_meanFrom l G cA h0 m_status m_thrown m_above m_under a_traySort a_trayMany a_numbers a_tape m_taped m_textEnd m_faultKind m_faultAt m_bad m_badAt m_token m_at m_behind m_number m_letters m_word a_c a_words m_markMany a_there a_tried a_best a_found m_thereMany m_foundMany m_orderHow m_orderRing m_orderMany m_hasBest m_bestTop m_bestBy a_weights a_shared m_random m_truePlace m_trueWay m_seconds m_done m_feelings m_tries m_leftOver m_playDoor m_playRing m_isOpen m_isOver m_wasTried m_hasPlayed a_feltNow a_last a_kept m_hasSeconds m_hasTurned m_hasRound a_hasFeels a_isOn m_firstAct v_607 v_608 a_order m_rowMany m_newSteps g_c g_there x_645 x_646 (by omega) (by omega) hr_m_thereMany hC_g_c hC_g_there (by omega)) lk_RX12_396 ⟨rfl, rfl⟩ ⟨Nat.le_of_ble_eq_true rfl, Nat.le_of_ble_eq_true rfl⟩ 12 rfl rfl rfl [0, 1, 2] [] rfl rfl (by decide) rfl hl.1 rfl (lv_room (Nat.le_of_ble_eq_true rfl)) dX12_meanAnywhere_27 ⟨Nat.le_of_ble_eq_true rfl, Nat.le_of_ble_eq_true rfl⟩ (fun u_650 H locs hw hP hD hS => ?_)
        obtain ⟨n_647, n_648⟩ := u_650
        try dsimp only at hw
        obtain ⟨hr_n_648, hf_651⟩ := hw
        refine lv_lload_n hx hb dX12_meanAnywhere_30 rfl (lv_at hl 1 rfl) ?_
        refine lv_iload hx hb dX12_meanAnywhere_31 (lv_at hl 3 rfl) ?_
        refine lv_iconst (v := 2) hx hb dX12_meanAnywhere_33 (by decide) ?_
        refine lv_irem hx hb dX12_meanAnywhere_34 (by decide +kernel) ?_
        refine lv_topi (fun x_652 he_x_652 => ?_)
        have hq_x_652 := z_remq he_x_652 (rfl : v_606.toInt = _) hk_2 (by omega) (by decide)
        refine lv_if_ne (tgt := 51) hx hb dX12_meanAnywhere_35 (by decide) (fun c_653 => ?_) (fun c_653 => ?_)
        · have b_654 := z_fneT c_653
          refine lv_aload_n hx hb dX12_meanAnywhere_51 rfl (lv_at hl 0 rfl) ?_
          refine va_get (D := G) (ci := 12) (v := .ref a_c) (C := RX12) (T := TX12) (N := 65) hx hb hts inT12 hown hK hP 0 rfl rfl 20 (by decide) (hts _ tw_1905) (fun _ h9 => h9) rfl dX12_meanAnywhere_52 ?_
          refine lv_bipush (v := 9) hx hb dX12_meanAnywhere_55 (by decide) ?_
          refine va_iald hx hb hK hP 1 0 rfl rfl (z_in (i := 9) (n := 1825) (by decide +kernel) (by decide +kernel)) dX12_meanAnywhere_57 ?_
          refine lv_topi (fun x_655 he_x_655 => ?_)
          refine lv_i2l (v := (x_655).toInt64) hx hb dX12_meanAnywhere_58 rfl ?_
          refine lv_topl (fun x_656 he_x_656 => ?_)
          have hq_x_656 := z_i2l he_x_656
          have hL_x_655 := z_full x_655
          refine lv_aload_n hx hb dX12_meanAnywhere_59 rfl (lv_at hl 0 rfl) ?_
          refine va_get (D := G) (ci := 12) (v := .long n_647) (C := RX12) (T := TX12) (N := 65) hx hb hts inT12 hown hK hP 0 rfl rfl 60 (by decide) (hts _ tw_1943) (fun _ h9 => h9) rfl dX12_meanAnywhere_60 ?_
          refine lv_lmul hx hb dX12_meanAnywhere_63 ?_
          have hL_n_647 := z_fulll n_647
          refine lv_topl (fun x_657 he_x_657 => ?_)
          refine lv_ladd hx hb dX12_meanAnywhere_64 ?_
          have hL_v_604 := z_fulll v_604
          have hL_x_657 := z_fulll x_657
          refine lv_topl (fun x_658 he_x_658 => ?_)
          refine lv_lstore_n (lv' := [(1, .long x_658), (0, .ref h0), (3, .long v_605), (5, .int v_606)]) hx hb dX12_meanAnywhere_65 rfl hl (by decide) rfl (fun ls hl => ?_)
          refine lv_aload_n hx hb dX12_meanAnywhere_66 rfl (lv_at hl 1 rfl) ?_
          refine va_get (D := G) (ci := 12) (v := .long n_648) (C := RX12) (T := TX12) (N := 65) hx hb hts inT12 hown hK hP 0 rfl rfl 61 (by decide) (hts _ tw_1944) (fun _ h9 => h9) rfl dX12_meanAnywhere_67 ?_
          refine lv_lstore_n (lv' := [(3, .long n_648), (1, .long x_658), (0, .ref h0), (5, .int v_606)]) hx hb dX12_meanAnywhere_70 rfl hl (by decide) rfl (fun ls hl => ?_)
          obtain ⟨x_659, he_x_659⟩ : ∃ z : Int32, z = v_606 + 1 := ⟨_, rfl⟩
          have hq_x_659 := z_addq he_x_659 (rfl : v_606.toInt = _) hk_1 (by omega) (by omega)
          refine lv_iinc (v := x_659) (lv' := [(5, .int x_659), (3, .long n_648), (1, .long x_658), (0, .ref h0)]) hx hb dX12_meanAnywhere_71 hl (k := 3) rfl ((z_ofi (by decide +kernel)).trans he_x_659.symm) (by decide) rfl (fun ls hl => ?_)
          refine lv_goto (tgt := 7) hx hb dX12_meanAnywhere_74 (by decide) ?_
          exact ih_637 x_658 n_648 x_659 n_647 n_648 H locs ls (by omega) hr_n_648 (by omega) (Or.inr hf_651) hP hD hS (lv_sub hl [3, 2, 1, 0] rfl)
        · have b_660 := z_feqF c_653
          refine lv_bipush (v := 16) hx hb dX12_meanAnywhere_38 (by decide) ?_
          refine lv_aload_n hx hb dX12_meanAnywhere_40 rfl (lv_at hl 0 rfl) ?_
          refine va_get (D := G) (ci := 12) (v := .ref a_c) (C := RX12) (T := TX12) (N := 65) hx hb hts inT12 hown hK hP 0 rfl rfl 20 (by decide) (hts _ tw_1905) (fun _ h9 => h9) rfl dX12_meanAnywhere_41 ?_
          refine lv_bipush (v := 9) hx hb dX12_meanAnywhere_44 (by decide) ?_
          refine va_iald hx hb hK hP 1 0 rfl rfl (z_in (i := 9) (n := 1825) (by decide +kernel) (by decide +kernel)) dX12_meanAnywhere_46 ?_
          refine lv_topi (fun x_661 he_x_661 => ?_)
          refine lv_isub hx hb dX12_meanAnywhere_47 ?_
          have hL_x_661 := z_full x_661
          refine lv_topi (fun x_662 he_x_662 => ?_)
          refine lv_goto (tgt := 58) hx hb dX12_meanAnywhere_48 (by decide) ?_
          refine lv_i2l (v := (x_662).toInt64) hx hb dX12_meanAnywhere_58 rfl ?_
          refine lv_topl (fun x_663 he_x_663 => ?_)
          have hq_x_663 := z_i2l he_x_663
          have hL_x_662 := z_full x_662
          refine lv_aload_n hx hb dX12_meanAnywhere_59 rfl (lv_at hl 0 rfl) ?_
          refine va_get (D := G) (ci := 12) (v := .long n_647) (C := RX12) (T := TX12) (N := 65) hx hb hts inT12 hown hK hP 0 rfl rfl 60 (by decide) (hts _ tw_1943) (fun _ h9 => h9) rfl dX12_meanAnywhere_60 ?_
          refine lv_lmul hx hb dX12_meanAnywhere_63 ?_
          have hL_n_647 := z_fulll n_647
          refine lv_topl (fun x_664 he_x_664 => ?_)
          refine lv_ladd hx hb dX12_meanAnywhere_64 ?_
          have hL_v_604 := z_fulll v_604
          have hL_x_664 := z_fulll x_664
          refine lv_topl (fun x_665 he_x_665 => ?_)
          refine lv_lstore_n (lv' := [(1, .long x_665), (0, .ref h0), (3, .long v_605), (5, .int v_606)]) hx hb dX12_meanAnywhere_65 rfl hl (by decide) rfl (fun ls hl => ?_)
          refine lv_aload_n hx hb dX12_meanAnywhere_66 rfl (lv_at hl 1 rfl) ?_
          refine va_get (D := G) (ci := 12) (v := .long n_648) (C := RX12) (T := TX12) (N := 65) hx hb hts inT12 hown hK hP 0 rfl rfl 61 (by decide) (hts _ tw_1944) (fun _ h9 => h9) rfl dX12_meanAnywhere_67 ?_
          refine lv_lstore_n (lv' := [(3, .long n_648), (1, .long x_665), (0, .ref h0), (5, .int v_606)]) hx hb dX12_meanAnywhere_70 rfl hl (by decide) rfl (fun ls hl => ?_)
          obtain ⟨x_666, he_x_666⟩ : ∃ z : Int32, z = v_606 + 1 := ⟨_, rfl⟩
          have hq_x_666 := z_addq he_x_666 (rfl : v_606.toInt = _) hk_1 (by omega) (by omega)
          refine lv_iinc (v := x_666) (lv' := [(5, .int x_666), (3, .long n_648), (1, .long x_665), (0, .ref h0)]) hx hb dX12_meanAnywhere_71 hl (k := 3) rfl ((z_ofi (by decide +kernel)).trans he_x_666.symm) (by decide) rfl (fun ls hl => ?_)
          refine lv_goto (tgt := 7) hx hb dX12_meanAnywhere_74 (by decide) ?_
          exact ih_637 x_665 n_648 x_666 n_647 n_648 H locs ls (by omega) hr_n_648 (by omega) (Or.inr hf_651) hP hD hS (lv_sub hl [3, 2, 1, 0] rfl)
  exact hlp_636 _ 0 0 0 m_meanTop m_meanBy _ _ _ (Nat.lt_succ_self _) (by decide +kernel) (by decide +kernel) (Or.inl (by omega)) hP hD hS (lv_sub hl [3, 2, 1, 0] rfl)
set_option maxHeartbeats 4000000 in
set_option maxRecDepth 100000 in
theorem r_from (l : Launch) (G : va_G) (cA : zCA) (h0 : Nat) (m_status : Int32) (m_thrown : Int32) (m_above : Int64) (m_under : Int64) (a_traySort : Nat) (a_trayMany : Nat) (a_numbers : Nat) (a_tape : Nat) (m_taped : Int32) (m_textEnd : Int32) (m_faultKind : Int32) (m_faultAt : Int32) (m_bad : Int32) (m_badAt : Int32) (m_token : Int32) (m_at : Int32) (m_behind : Int32) (m_number : Int32) (m_letters : Int32) (m_word : Int64) (a_c : Nat) (a_words : Nat) (m_markMany : Int32) (a_there : Nat) (a_tried : Nat) (a_best : Nat) (a_found : Nat) (m_thereMany : Int32) (m_foundMany : Int32) (m_orderHow : Int32) (m_orderRing : Int32) (m_orderMany : Int32) (m_hasBest : Int32) (m_bestTop : Int64) (m_bestBy : Int64) (a_weights : Nat) (a_shared : Nat) (m_random : Int32) (m_truePlace : Int32) (m_trueWay : Int32) (m_seconds : Int32) (m_done : Int32) (m_feelings : Int32) (m_tries : Int32) (m_leftOver : Int32) (m_playDoor : Int32) (m_playRing : Int32) (m_isOpen : Int32) (m_isOver : Int32) (m_wasTried : Int32) (m_hasPlayed : Int32) (a_feltNow : Nat) (a_last : Nat) (a_kept : Nat) (m_hasSeconds : Int32) (m_hasTurned : Int32) (m_hasRound : Int32) (a_hasFeels : Nat) (a_isOn : Nat) (m_firstAct : Int32) (m_meanTop : Int64) (m_meanBy : Int64) (a_order : Nat) (m_rowMany : Int32) (m_newSteps : Int32) (g_c : Nat → Int32) (g_there : Nat → Int32) (r : Int32) (pp : Int32) (w : Int32) (hr_m_thereMany : 0 ≤ m_thereMany.toInt ∧ m_thereMany.toInt ≤ 10) (hC_g_c : zC g_c) (hC_g_there : zRg 10 0 9 g_there) : zCi l yX12_from cX12_from 4 (some .boolean) ({ frames := 3, cells := 0, slots := 0, locals := 72 }) G cA [.ref h0, .int r, .int pp, .int w] [(h0, .inr (12, [.int m_status, .int m_thrown, .long m_above, .long m_under, .ref a_traySort, .ref a_trayMany, .ref a_numbers, .ref a_tape, .int m_taped, .int m_textEnd, .int m_faultKind, .int m_faultAt, .int m_bad, .int m_badAt, .int m_token, .int m_at, .int m_behind, .int m_number, .int m_letters, .long m_word, .ref a_c, .ref a_words, .int m_markMany, .ref a_there, .ref a_tried, .ref a_best, .ref a_found, .int m_thereMany, .int m_foundMany, .int m_orderHow, .int m_orderRing, .int m_orderMany, .int m_hasBest, .long m_bestTop, .long m_bestBy, .ref a_weights, .ref a_shared, .int m_random, .int m_truePlace, .int m_trueWay, .int m_seconds, .int m_done, .int m_feelings, .int m_tries, .int m_leftOver, .int m_playDoor, .int m_playRing, .int m_isOpen, .int m_isOver, .int m_wasTried, .int m_hasPlayed, .ref a_feltNow, .ref a_last, .ref a_kept, .int m_hasSeconds, .int m_hasTurned, .int m_hasRound, .ref a_hasFeels, .ref a_isOn, .int m_firstAct, .long m_meanTop, .long m_meanBy, .ref a_order, .int m_rowMany, .int m_newSteps])), (a_c, .inl (cA.1 0, 1825, .inl g_c)), (a_there, .inl (cA.1 0, 10, .inl g_there))] (S := Int32 × Int32 × Int32 × (Nat → Int32) × Int64 × Int64 × Int64 × Int64) (fun (r : Int32) (u : Int32 × Int32 × Int32 × (Nat → Int32) × Int64 × Int64 × Int64 × Int64) => (r = 0 ∧ (0 ≤ u.2.1.toInt ∧ u.2.1.toInt ≤ 0) ∧ (0 ≤ u.2.2.1.toInt ∧ u.2.2.1.toInt ≤ 10) ∧ (zRg 10 0 9 u.2.2.2.1)) ∨ (r = 1 ∧ (0 ≤ u.1.toInt ∧ u.1.toInt ≤ 0) ∧ (0 ≤ u.2.1.toInt ∧ u.2.1.toInt ≤ 0) ∧ (0 ≤ u.2.2.1.toInt ∧ u.2.2.1.toInt ≤ 10) ∧ (zRg 10 0 9 u.2.2.2.1) ∧ (1 ≤ u.2.2.2.2.2.2.2.toInt ∧ u.2.2.2.2.2.2.2.toInt ≤ 495))) (fun (u : Int32 × Int32 × Int32 × (Nat → Int32) × Int64 × Int64 × Int64 × Int64) => [(h0, .inr (12, [.int u.1, .int u.2.1, .long u.2.2.2.2.1, .long u.2.2.2.2.2.1, .ref a_traySort, .ref a_trayMany, .ref a_numbers, .ref a_tape, .int m_taped, .int m_textEnd, .int m_faultKind, .int m_faultAt, .int m_bad, .int m_badAt, .int m_token, .int m_at, .int m_behind, .int m_number, .int m_letters, .long m_word, .ref a_c, .ref a_words, .int m_markMany, .ref a_there, .ref a_tried, .ref a_best, .ref a_found, .int u.2.2.1, .int m_foundMany, .int m_orderHow, .int m_orderRing, .int m_orderMany, .int m_hasBest, .long m_bestTop, .long m_bestBy, .ref a_weights, .ref a_shared, .int m_random, .int m_truePlace, .int m_trueWay, .int m_seconds, .int m_done, .int m_feelings, .int m_tries, .int m_leftOver, .int m_playDoor, .int m_playRing, .int m_isOpen, .int m_isOver, .int m_wasTried, .int m_hasPlayed, .ref a_feltNow, .ref a_last, .ref a_kept, .int m_hasSeconds, .int m_hasTurned, .int m_hasRound, .ref a_hasFeels, .ref a_isOn, .int m_firstAct, .long u.2.2.2.2.2.2.1, .long u.2.2.2.2.2.2.2, .ref a_order, .int m_rowMany, .int m_newSteps])), (a_c, .inl (cA.1 0, 1825, .inl g_c)), (a_there, .inl (cA.1 0, 10, .inl u.2.2.2.1))]) 0 0 := by
  have hk_1 : (1 : Int32).toInt = 1 := by decide +kernel
  have hk_2 : (2 : Int32).toInt = 2 := by decide +kernel
  have hk_5 : (5 : Int32).toInt = 5 := by decide +kernel
  have hk_8 : (8 : Int32).toInt = 8 := by decide +kernel
  have hkl_0 : (0 : Int64).toInt = 0 := by decide +kernel
  have hkl_1 : (1 : Int64).toInt = 1 := by decide +kernel
  refine z_start2z (own := RX12) (by decide) (Nat.le_of_ble_eq_true rfl) rfl ?_
  intro p e s m args below meth c A ls Q hx hb hml hts hown hK hE hT hP hD hS hA hl hret
  have hl : lv_has ls 4 [(0, .ref h0), (1, .int r), (2, .int pp), (3, .int w)] := hl
  refine lv_aload_n hx hb dX12_from_0 rfl (lv_at hl 0 rfl) ?_
  refine lv_iconst (v := 0) hx hb dX12_from_1 (by decide) ?_
  refine va_put (D := G) (ci := 12) (v := .int 0) (ty := .int) (C := RX12) (T := TX12) (N := 65) hx hb hts inT12 tyX12 tyX12_ok nmX12 hown hK hP hD hS 0 rfl rfl 1 (by decide) (hts _ tw_1886) (fun _ h9 => h9) rfl (tyX12_ok 1 (by decide)) rfl rfl (Nat.le_of_ble_eq_true rfl) dX12_from_2 (fun H locs hP hD hS => ?_)
  refine lv_aload_n hx hb dX12_from_5 rfl (lv_at hl 0 rfl) ?_
  refine lv_iconst (v := 0) hx hb dX12_from_6 (by decide) ?_
  refine va_put (D := G) (ci := 12) (v := .int 0) (ty := .int) (C := RX12) (T := TX12) (N := 65) hx hb hts inT12 tyX12 tyX12_ok nmX12 hown hK hP hD hS 0 rfl rfl 0 (by decide) (hts _ tw_1885) (fun _ h9 => h9) rfl (tyX12_ok 0 (by decide)) rfl rfl (Nat.le_of_ble_eq_true rfl) dX12_from_7 (fun H locs hP hD hS => ?_)
  refine lv_aload_n hx hb dX12_from_10 rfl (lv_at hl 0 rfl) ?_
  refine lv_iload_n hx hb dX12_from_11 rfl (lv_at hl 1 rfl) ?_
  refine z_callVi (As := [.int r]) (rest := []) (wr := [(a_there, .inl (cA.1 0, 10, .inl g_there))]) ⟨hx, hb, hml, hown, hts⟩ hK hE hT hP hD hS hA (r_isRing l G cA h0 0 0 m_above m_under a_traySort a_trayMany a_numbers a_tape m_taped m_textEnd m_faultKind m_faultAt m_bad m_badAt m_token m_at m_behind m_number m_letters m_word a_c a_words m_markMany a_there a_tried a_best a_found m_thereMany m_foundMany m_orderHow m_orderRing m_orderMany m_hasBest m_bestTop m_bestBy a_weights a_shared m_random m_truePlace m_trueWay m_seconds m_done m_feelings m_tries m_leftOver m_playDoor m_playRing m_isOpen m_isOver m_wasTried m_hasPlayed a_feltNow a_last a_kept m_hasSeconds m_hasTurned m_hasRound a_hasFeels a_isOn m_firstAct m_meanTop m_meanBy a_order m_rowMany m_newSteps g_c r hC_g_c) lk_RX12_289 ⟨rfl, rfl⟩ ⟨Nat.le_of_ble_eq_true rfl, Nat.le_of_ble_eq_true rfl⟩ 12 rfl rfl rfl [0, 1] [2] rfl rfl (by decide) rfl hl.1 rfl (lv_room (Nat.le_of_ble_eq_true rfl)) dX12_from_12 ⟨Nat.le_of_ble_eq_true rfl, Nat.le_of_ble_eq_true rfl⟩ (fun r_1 u_2 H locs hw hP hD hS => ?_)
  rcases hw with ⟨rfl, -⟩ | ⟨rfl, hf_3, hf_4⟩
  · skip
    refine lv_if_ne (tgt := 24) hx hb dX12_from_15 (by decide) (fun h9 => absurd (by decide +kernel) h9) (fun _ => ?_)
    refine lv_aload_n hx hb dX12_from_18 rfl (lv_at hl 0 rfl) ?_
    refine lv_iconst (v := 2) hx hb dX12_from_19 (by decide) ?_
    refine z_callVi (As := [.int 2]) (rest := []) (wr := [(a_there, .inl (cA.1 0, 10, .inl g_there)), (a_c, .inl (cA.1 0, 1825, .inl g_c))]) ⟨hx, hb, hml, hown, hts⟩ hK hE hT hP hD hS hA (r_no l G cA h0 0 0 m_above m_under a_traySort a_trayMany a_numbers a_tape m_taped m_textEnd m_faultKind m_faultAt m_bad m_badAt m_token m_at m_behind m_number m_letters m_word a_c a_words m_markMany a_there a_tried a_best a_found m_thereMany m_foundMany m_orderHow m_orderRing m_orderMany m_hasBest m_bestTop m_bestBy a_weights a_shared m_random m_truePlace m_trueWay m_seconds m_done m_feelings m_tries m_leftOver m_playDoor m_playRing m_isOpen m_isOver m_wasTried m_hasPlayed a_feltNow a_last a_kept m_hasSeconds m_hasTurned m_hasRound a_hasFeels a_isOn m_firstAct m_meanTop m_meanBy a_order m_rowMany m_newSteps 2) lk_RX12_97 ⟨rfl, rfl⟩ ⟨Nat.le_of_ble_eq_true rfl, Nat.le_of_ble_eq_true rfl⟩ 12 rfl rfl rfl [1] [0, 2] rfl rfl (by decide) rfl hl.1 rfl (lv_room (Nat.le_of_ble_eq_true rfl)) dX12_from_20 ⟨Nat.le_of_ble_eq_true rfl, Nat.le_of_ble_eq_true rfl⟩ (fun r_6 u_7 H locs hw hP hD hS => ?_)
    obtain ⟨n_5, rfl⟩ : ∃ z, z = u_7 := ⟨_, rfl⟩
    obtain ⟨rfl, -⟩ := hw
    have hpost : ((0 : Int32) = 0 ∧ (0 ≤ (0 : Int32).toInt ∧ (0 : Int32).toInt ≤ 0) ∧ (0 ≤ m_thereMany.toInt ∧ m_thereMany.toInt ≤ 10) ∧ (zRg 10 0 9 g_there)) ∨ ((0 : Int32) = 1 ∧ (0 ≤ n_5.toInt ∧ n_5.toInt ≤ 0) ∧ (0 ≤ (0 : Int32).toInt ∧ (0 : Int32).toInt ≤ 0) ∧ (0 ≤ m_thereMany.toInt ∧ m_thereMany.toInt ≤ 10) ∧ (zRg 10 0 9 g_there) ∧ (1 ≤ m_meanBy.toInt ∧ m_meanBy.toInt ≤ 495)) := (Or.inl ⟨rfl, ⟨(by decide +kernel), hr_m_thereMany, hC_g_there⟩⟩)
    exact hret _ _ _ _ _ _ (n_5, 0, m_thereMany, g_there, m_above, m_under, m_meanTop, m_meanBy) [2, 1, 0] hP hD hS rfl (by decide) dX12_from_23 (Or.inl rfl) hpost
  · skip
    refine lv_if_ne (tgt := 24) hx hb dX12_from_15 (by decide) (fun _ => ?_) (fun h9 => absurd h9 (by decide +kernel))
    refine lv_aload_n hx hb dX12_from_24 rfl (lv_at hl 0 rfl) ?_
    refine lv_iload_n hx hb dX12_from_25 rfl (lv_at hl 1 rfl) ?_
    refine z_callVv (As := [.int r]) (rest := []) (wr := []) ⟨hx, hb, hml, hown, hts⟩ hK hE hT hP hD hS hA (r_gather l G cA h0 0 0 m_above m_under a_traySort a_trayMany a_numbers a_tape m_taped m_textEnd m_faultKind m_faultAt m_bad m_badAt m_token m_at m_behind m_number m_letters m_word a_c a_words m_markMany a_there a_tried a_best a_found m_thereMany m_foundMany m_orderHow m_orderRing m_orderMany m_hasBest m_bestTop m_bestBy a_weights a_shared m_random m_truePlace m_trueWay m_seconds m_done m_feelings m_tries m_leftOver m_playDoor m_playRing m_isOpen m_isOver m_wasTried m_hasPlayed a_feltNow a_last a_kept m_hasSeconds m_hasTurned m_hasRound a_hasFeels a_isOn m_firstAct m_meanTop m_meanBy a_order m_rowMany m_newSteps g_c g_there r (by omega) hr_m_thereMany hC_g_c hC_g_there) lk_RX12_292 ⟨rfl, rfl⟩ ⟨Nat.le_of_ble_eq_true rfl, Nat.le_of_ble_eq_true rfl⟩ 12 rfl rfl rfl [1, 2, 0] [] rfl rfl (by decide) rfl hl.1 rfl (lv_room (Nat.le_of_ble_eq_true rfl)) dX12_from_26 ⟨Nat.le_of_ble_eq_true rfl, Nat.le_of_ble_eq_true rfl⟩ (fun u_11 H locs hw hP hD hS => ?_)
    obtain ⟨n_8, n_9⟩ := u_11
    try dsimp only at hw
    obtain ⟨hr_n_8, hC_n_9, hf_12, hf_13⟩ := hw
    refine lv_iload_n hx hb dX12_from_29 rfl (lv_at hl 2 rfl) ?_
    refine lv_i2l (v := (pp).toInt64) hx hb dX12_from_30 rfl ?_
    refine lv_topl (fun x_14 he_x_14 => ?_)
    have hq_x_14 := z_i2l he_x_14
    have hL_pp := z_full pp
    refine lv_lconst (v := 0) hx hb dX12_from_31 (by decide) ?_
    refine lv_aload_n hx hb dX12_from_32 rfl (lv_at hl 0 rfl) ?_
    refine va_get (D := G) (ci := 12) (v := .int n_8) (C := RX12) (T := TX12) (N := 65) hx hb hts inT12 hown hK hP 0 rfl rfl 27 (by decide) (hts _ tw_1912) (fun _ h9 => h9) rfl dX12_from_33 ?_
    refine lv_iconst (v := 1) hx hb dX12_from_36 (by decide) ?_
    refine lv_isub hx hb dX12_from_37 ?_
    refine lv_topi (fun x_15 he_x_15 => ?_)
    have hq_x_15 := z_subq he_x_15 (rfl : n_8.toInt = _) hk_1 (by omega) (by omega)
    refine lv_i2l (v := (x_15).toInt64) hx hb dX12_from_38 rfl ?_
    refine lv_topl (fun x_16 he_x_16 => ?_)
    have hq_x_16 := z_i2l he_x_16
    refine z_callSi (As := [.long x_14, .long 0, .long x_16]) (rest := []) (wr := [(h0, .inr (12, [.int 0, .int 0, .long m_above, .long m_under, .ref a_traySort, .ref a_trayMany, .ref a_numbers, .ref a_tape, .int m_taped, .int m_textEnd, .int m_faultKind, .int m_faultAt, .int m_bad, .int m_badAt, .int m_token, .int m_at, .int m_behind, .int m_number, .int m_letters, .long m_word, .ref a_c, .ref a_words, .int m_markMany, .ref a_there, .ref a_tried, .ref a_best, .ref a_found, .int n_8, .int m_foundMany, .int m_orderHow, .int m_orderRing, .int m_orderMany, .int m_hasBest, .long m_bestTop, .long m_bestBy, .ref a_weights, .ref a_shared, .int m_random, .int m_truePlace, .int m_trueWay, .int m_seconds, .int m_done, .int m_feelings, .int m_tries, .int m_leftOver, .int m_playDoor, .int m_playRing, .int m_isOpen, .int m_isOver, .int m_wasTried, .int m_hasPlayed, .ref a_feltNow, .ref a_last, .ref a_kept, .int m_hasSeconds, .int m_hasTurned, .int m_hasRound, .ref a_hasFeels, .ref a_isOn, .int m_firstAct, .long m_meanTop, .long m_meanBy, .ref a_order, .int m_rowMany, .int m_newSteps])), (a_c, .inl (cA.1 0, 1825, .inl g_c)), (a_there, .inl (cA.1 0, 10, .inl n_9))]) ⟨hx, hb, hml, hown, hts⟩ hK hE hT hP hD hS hA (r_isIn l G cA x_14 0 x_16) lk_RX12_117 ⟨rfl, rfl⟩ ⟨Nat.le_of_ble_eq_true rfl, Nat.le_of_ble_eq_true rfl⟩ [] [0, 1, 2] rfl rfl (by decide) rfl hl.1 rfl (lv_room (Nat.le_of_ble_eq_true rfl)) dX12_from_39 ⟨Nat.le_of_ble_eq_true rfl, Nat.le_of_ble_eq_true rfl⟩ (fun r_17 u_18 H locs hw hP hD hS => ?_)
    rcases hw with ⟨rfl, hf_19⟩ | ⟨rfl, hf_20⟩
    · skip
      refine lv_if_eq (tgt := 55) hx hb dX12_from_42 (by decide) (fun _ => ?_) (fun h9 => absurd (by decide +kernel) h9)
      refine lv_aload_n hx hb dX12_from_55 rfl (lv_at hl 0 rfl) ?_
      refine lv_iconst (v := 5) hx hb dX12_from_56 (by decide) ?_
      refine z_callVi (As := [.int 5]) (rest := []) (wr := [(a_c, .inl (cA.1 0, 1825, .inl g_c)), (a_there, .inl (cA.1 0, 10, .inl n_9))]) ⟨hx, hb, hml, hown, hts⟩ hK hE hT hP hD hS hA (r_no l G cA h0 0 0 m_above m_under a_traySort a_trayMany a_numbers a_tape m_taped m_textEnd m_faultKind m_faultAt m_bad m_badAt m_token m_at m_behind m_number m_letters m_word a_c a_words m_markMany a_there a_tried a_best a_found n_8 m_foundMany m_orderHow m_orderRing m_orderMany m_hasBest m_bestTop m_bestBy a_weights a_shared m_random m_truePlace m_trueWay m_seconds m_done m_feelings m_tries m_leftOver m_playDoor m_playRing m_isOpen m_isOver m_wasTried m_hasPlayed a_feltNow a_last a_kept m_hasSeconds m_hasTurned m_hasRound a_hasFeels a_isOn m_firstAct m_meanTop m_meanBy a_order m_rowMany m_newSteps 5) lk_RX12_97 ⟨rfl, rfl⟩ ⟨Nat.le_of_ble_eq_true rfl, Nat.le_of_ble_eq_true rfl⟩ 12 rfl rfl rfl [0] [1, 2] rfl rfl (by decide) rfl hl.1 rfl (lv_room (Nat.le_of_ble_eq_true rfl)) dX12_from_57 ⟨Nat.le_of_ble_eq_true rfl, Nat.le_of_ble_eq_true rfl⟩ (fun r_22 u_23 H locs hw hP hD hS => ?_)
      obtain ⟨n_21, rfl⟩ : ∃ z, z = u_23 := ⟨_, rfl⟩
      obtain ⟨rfl, -⟩ := hw
      have hpost : ((0 : Int32) = 0 ∧ (0 ≤ (0 : Int32).toInt ∧ (0 : Int32).toInt ≤ 0) ∧ (0 ≤ n_8.toInt ∧ n_8.toInt ≤ 10) ∧ (zRg 10 0 9 n_9)) ∨ ((0 : Int32) = 1 ∧ (0 ≤ n_21.toInt ∧ n_21.toInt ≤ 0) ∧ (0 ≤ (0 : Int32).toInt ∧ (0 : Int32).toInt ≤ 0) ∧ (0 ≤ n_8.toInt ∧ n_8.toInt ≤ 10) ∧ (zRg 10 0 9 n_9) ∧ (1 ≤ m_meanBy.toInt ∧ m_meanBy.toInt ≤ 495)) := (Or.inl ⟨rfl, ⟨(by decide +kernel), hr_n_8, hC_n_9⟩⟩)
      exact hret _ _ _ _ _ _ (n_21, 0, n_8, n_9, m_above, m_under, m_meanTop, m_meanBy) [2, 0, 1] hP hD hS rfl (by decide) dX12_from_60 (Or.inl rfl) hpost
    · skip
      refine lv_if_eq (tgt := 55) hx hb dX12_from_42 (by decide) (fun h9 => absurd h9 (by decide +kernel)) (fun _ => ?_)
      refine lv_iload_n hx hb dX12_from_45 rfl (lv_at hl 3 rfl) ?_
      refine lv_i2l (v := (w).toInt64) hx hb dX12_from_46 rfl ?_
      refine lv_topl (fun x_24 he_x_24 => ?_)
      have hq_x_24 := z_i2l he_x_24
      have hL_w := z_full w
      refine lv_lconst (v := 0) hx hb dX12_from_47 (by decide) ?_
      refine lv_lconst (v := 1) hx hb dX12_from_48 (by decide) ?_
      refine z_callSi (As := [.long x_24, .long 0, .long 1]) (rest := []) (wr := [(h0, .inr (12, [.int 0, .int 0, .long m_above, .long m_under, .ref a_traySort, .ref a_trayMany, .ref a_numbers, .ref a_tape, .int m_taped, .int m_textEnd, .int m_faultKind, .int m_faultAt, .int m_bad, .int m_badAt, .int m_token, .int m_at, .int m_behind, .int m_number, .int m_letters, .long m_word, .ref a_c, .ref a_words, .int m_markMany, .ref a_there, .ref a_tried, .ref a_best, .ref a_found, .int n_8, .int m_foundMany, .int m_orderHow, .int m_orderRing, .int m_orderMany, .int m_hasBest, .long m_bestTop, .long m_bestBy, .ref a_weights, .ref a_shared, .int m_random, .int m_truePlace, .int m_trueWay, .int m_seconds, .int m_done, .int m_feelings, .int m_tries, .int m_leftOver, .int m_playDoor, .int m_playRing, .int m_isOpen, .int m_isOver, .int m_wasTried, .int m_hasPlayed, .ref a_feltNow, .ref a_last, .ref a_kept, .int m_hasSeconds, .int m_hasTurned, .int m_hasRound, .ref a_hasFeels, .ref a_isOn, .int m_firstAct, .long m_meanTop, .long m_meanBy, .ref a_order, .int m_rowMany, .int m_newSteps])), (a_c, .inl (cA.1 0, 1825, .inl g_c)), (a_there, .inl (cA.1 0, 10, .inl n_9))]) ⟨hx, hb, hml, hown, hts⟩ hK hE hT hP hD hS hA (r_isIn l G cA x_24 0 1) lk_RX12_117 ⟨rfl, rfl⟩ ⟨Nat.le_of_ble_eq_true rfl, Nat.le_of_ble_eq_true rfl⟩ [] [0, 1, 2] rfl rfl (by decide) rfl hl.1 rfl (lv_room (Nat.le_of_ble_eq_true rfl)) dX12_from_49 ⟨Nat.le_of_ble_eq_true rfl, Nat.le_of_ble_eq_true rfl⟩ (fun r_25 u_26 H locs hw hP hD hS => ?_)
      rcases hw with ⟨rfl, hf_27⟩ | ⟨rfl, hf_28⟩
      · skip
        refine lv_if_ne (tgt := 61) hx hb dX12_from_52 (by decide) (fun h9 => absurd (by decide +kernel) h9) (fun _ => ?_)
        refine lv_aload_n hx hb dX12_from_55 rfl (lv_at hl 0 rfl) ?_
        refine lv_iconst (v := 5) hx hb dX12_from_56 (by decide) ?_
        refine z_callVi (As := [.int 5]) (rest := []) (wr := [(a_c, .inl (cA.1 0, 1825, .inl g_c)), (a_there, .inl (cA.1 0, 10, .inl n_9))]) ⟨hx, hb, hml, hown, hts⟩ hK hE hT hP hD hS hA (r_no l G cA h0 0 0 m_above m_under a_traySort a_trayMany a_numbers a_tape m_taped m_textEnd m_faultKind m_faultAt m_bad m_badAt m_token m_at m_behind m_number m_letters m_word a_c a_words m_markMany a_there a_tried a_best a_found n_8 m_foundMany m_orderHow m_orderRing m_orderMany m_hasBest m_bestTop m_bestBy a_weights a_shared m_random m_truePlace m_trueWay m_seconds m_done m_feelings m_tries m_leftOver m_playDoor m_playRing m_isOpen m_isOver m_wasTried m_hasPlayed a_feltNow a_last a_kept m_hasSeconds m_hasTurned m_hasRound a_hasFeels a_isOn m_firstAct m_meanTop m_meanBy a_order m_rowMany m_newSteps 5) lk_RX12_97 ⟨rfl, rfl⟩ ⟨Nat.le_of_ble_eq_true rfl, Nat.le_of_ble_eq_true rfl⟩ 12 rfl rfl rfl [0] [1, 2] rfl rfl (by decide) rfl hl.1 rfl (lv_room (Nat.le_of_ble_eq_true rfl)) dX12_from_57 ⟨Nat.le_of_ble_eq_true rfl, Nat.le_of_ble_eq_true rfl⟩ (fun r_30 u_31 H locs hw hP hD hS => ?_)
        obtain ⟨n_29, rfl⟩ : ∃ z, z = u_31 := ⟨_, rfl⟩
        obtain ⟨rfl, -⟩ := hw
        have hpost : ((0 : Int32) = 0 ∧ (0 ≤ (0 : Int32).toInt ∧ (0 : Int32).toInt ≤ 0) ∧ (0 ≤ n_8.toInt ∧ n_8.toInt ≤ 10) ∧ (zRg 10 0 9 n_9)) ∨ ((0 : Int32) = 1 ∧ (0 ≤ n_29.toInt ∧ n_29.toInt ≤ 0) ∧ (0 ≤ (0 : Int32).toInt ∧ (0 : Int32).toInt ≤ 0) ∧ (0 ≤ n_8.toInt ∧ n_8.toInt ≤ 10) ∧ (zRg 10 0 9 n_9) ∧ (1 ≤ m_meanBy.toInt ∧ m_meanBy.toInt ≤ 495)) := (Or.inl ⟨rfl, ⟨(by decide +kernel), hr_n_8, hC_n_9⟩⟩)
        exact hret _ _ _ _ _ _ (n_29, 0, n_8, n_9, m_above, m_under, m_meanTop, m_meanBy) [2, 0, 1] hP hD hS rfl (by decide) dX12_from_60 (Or.inl rfl) hpost
      · skip
        refine lv_if_ne (tgt := 61) hx hb dX12_from_52 (by decide) (fun _ => ?_) (fun h9 => absurd h9 (by decide +kernel))
        refine lv_aload_n hx hb dX12_from_61 rfl (lv_at hl 0 rfl) ?_
        refine lv_iload_n hx hb dX12_from_62 rfl (lv_at hl 2 rfl) ?_
        refine lv_iload_n hx hb dX12_from_63 rfl (lv_at hl 3 rfl) ?_
        refine z_callVv (As := [.int pp, .int w]) (rest := []) (wr := []) ⟨hx, hb, hml, hown, hts⟩ hK hE hT hP hD hS hA (r_meanFrom l G cA h0 0 0 m_above m_under a_traySort a_trayMany a_numbers a_tape m_taped m_textEnd m_faultKind m_faultAt m_bad m_badAt m_token m_at m_behind m_number m_letters m_word a_c a_words m_markMany a_there a_tried a_best a_found n_8 m_foundMany m_orderHow m_orderRing m_orderMany m_hasBest m_bestTop m_bestBy a_weights a_shared m_random m_truePlace m_trueWay m_seconds m_done m_feelings m_tries m_leftOver m_playDoor m_playRing m_isOpen m_isOver m_wasTried m_hasPlayed a_feltNow a_last a_kept m_hasSeconds m_hasTurned m_hasRound a_hasFeels a_isOn m_firstAct m_meanTop m_meanBy a_order m_rowMany m_newSteps g_c n_9 pp w (by omega) (by omega) hr_n_8 hC_g_c hC_n_9 (by omega)) lk_RX12_396 ⟨rfl, rfl⟩ ⟨Nat.le_of_ble_eq_true rfl, Nat.le_of_ble_eq_true rfl⟩ 12 rfl rfl rfl [0, 1, 2] [] rfl rfl (by decide) rfl hl.1 rfl (lv_room (Nat.le_of_ble_eq_true rfl)) dX12_from_64 ⟨Nat.le_of_ble_eq_true rfl, Nat.le_of_ble_eq_true rfl⟩ (fun u_35 H locs hw hP hD hS => ?_)
        obtain ⟨n_32, n_33⟩ := u_35
        try dsimp only at hw
        obtain ⟨hr_n_33, hf_36⟩ := hw
        refine lv_aload_n hx hb dX12_from_67 rfl (lv_at hl 0 rfl) ?_
        refine va_get (D := G) (ci := 12) (v := .long n_33) (C := RX12) (T := TX12) (N := 65) hx hb hts inT12 hown hK hP 0 rfl rfl 61 (by decide) (hts _ tw_1944) (fun _ h9 => h9) rfl dX12_from_68 ?_
        refine lv_lconst (v := 0) hx hb dX12_from_71 (by decide) ?_
        refine W.lcmp hx hb dX12_from_72 ?_
        refine lv_if_ne (tgt := 85) hx hb dX12_from_73 (by decide) (fun c_37 => ?_) (fun c_37 => ?_)
        · have b_38 := z_fneTl c_37
          refine lv_aload_n hx hb dX12_from_85 rfl (lv_at hl 0 rfl) ?_
          refine lv_aload_n hx hb dX12_from_86 rfl (lv_at hl 0 rfl) ?_
          refine va_get (D := G) (ci := 12) (v := .long n_32) (C := RX12) (T := TX12) (N := 65) hx hb hts inT12 hown hK hP 0 rfl rfl 60 (by decide) (hts _ tw_1943) (fun _ h9 => h9) rfl dX12_from_87 ?_
          refine lv_aload_n hx hb dX12_from_90 rfl (lv_at hl 0 rfl) ?_
          refine va_get (D := G) (ci := 12) (v := .long n_33) (C := RX12) (T := TX12) (N := 65) hx hb hts inT12 hown hK hP 0 rfl rfl 61 (by decide) (hts _ tw_1944) (fun _ h9 => h9) rfl dX12_from_91 ?_
          refine z_callVi (As := [.long n_32, .long n_33]) (rest := []) (wr := [(a_c, .inl (cA.1 0, 1825, .inl g_c)), (a_there, .inl (cA.1 0, 10, .inl n_9))]) ⟨hx, hb, hml, hown, hts⟩ hK hE hT hP hD hS hA (r_fraction l G cA h0 0 0 m_above m_under a_traySort a_trayMany a_numbers a_tape m_taped m_textEnd m_faultKind m_faultAt m_bad m_badAt m_token m_at m_behind m_number m_letters m_word a_c a_words m_markMany a_there a_tried a_best a_found n_8 m_foundMany m_orderHow m_orderRing m_orderMany m_hasBest m_bestTop m_bestBy a_weights a_shared m_random m_truePlace m_trueWay m_seconds m_done m_feelings m_tries m_leftOver m_playDoor m_playRing m_isOpen m_isOver m_wasTried m_hasPlayed a_feltNow a_last a_kept m_hasSeconds m_hasTurned m_hasRound a_hasFeels a_isOn m_firstAct n_32 n_33 a_order m_rowMany m_newSteps n_32 n_33 (by omega)) lk_RX12_352 ⟨rfl, rfl⟩ ⟨Nat.le_of_ble_eq_true rfl, Nat.le_of_ble_eq_true rfl⟩ 12 rfl rfl rfl [0] [1, 2] rfl rfl (by decide) rfl hl.1 rfl (lv_room (Nat.le_of_ble_eq_true rfl)) dX12_from_94 ⟨Nat.le_of_ble_eq_true rfl, Nat.le_of_ble_eq_true rfl⟩ (fun r_41 u_42 H locs hw hP hD hS => ?_)
          obtain ⟨n_39, n_40⟩ := u_42
          try dsimp only at hw
          obtain ⟨rfl, -⟩ := hw
          have hpost : ((1 : Int32) = 0 ∧ (0 ≤ (0 : Int32).toInt ∧ (0 : Int32).toInt ≤ 0) ∧ (0 ≤ n_8.toInt ∧ n_8.toInt ≤ 10) ∧ (zRg 10 0 9 n_9)) ∨ ((1 : Int32) = 1 ∧ (0 ≤ (0 : Int32).toInt ∧ (0 : Int32).toInt ≤ 0) ∧ (0 ≤ (0 : Int32).toInt ∧ (0 : Int32).toInt ≤ 0) ∧ (0 ≤ n_8.toInt ∧ n_8.toInt ≤ 10) ∧ (zRg 10 0 9 n_9) ∧ (1 ≤ n_33.toInt ∧ n_33.toInt ≤ 495)) := (Or.inr ⟨rfl, ⟨(by decide +kernel), (by decide +kernel), hr_n_8, hC_n_9, (by omega)⟩⟩)
          exact hret _ _ _ _ _ _ (0, 0, n_8, n_9, n_39, n_40, n_32, n_33) [2, 0, 1] hP hD hS rfl (by decide) dX12_from_97 (Or.inr rfl) hpost
        · have b_43 := z_feqFl c_37
          refine lv_aload_n hx hb dX12_from_76 rfl (lv_at hl 0 rfl) ?_
          refine lv_bipush (v := 8) hx hb dX12_from_77 (by decide) ?_
          refine z_callVi (As := [.int 8]) (rest := []) (wr := [(a_c, .inl (cA.1 0, 1825, .inl g_c)), (a_there, .inl (cA.1 0, 10, .inl n_9))]) ⟨hx, hb, hml, hown, hts⟩ hK hE hT hP hD hS hA (r_no l G cA h0 0 0 m_above m_under a_traySort a_trayMany a_numbers a_tape m_taped m_textEnd m_faultKind m_faultAt m_bad m_badAt m_token m_at m_behind m_number m_letters m_word a_c a_words m_markMany a_there a_tried a_best a_found n_8 m_foundMany m_orderHow m_orderRing m_orderMany m_hasBest m_bestTop m_bestBy a_weights a_shared m_random m_truePlace m_trueWay m_seconds m_done m_feelings m_tries m_leftOver m_playDoor m_playRing m_isOpen m_isOver m_wasTried m_hasPlayed a_feltNow a_last a_kept m_hasSeconds m_hasTurned m_hasRound a_hasFeels a_isOn m_firstAct n_32 n_33 a_order m_rowMany m_newSteps 8) lk_RX12_97 ⟨rfl, rfl⟩ ⟨Nat.le_of_ble_eq_true rfl, Nat.le_of_ble_eq_true rfl⟩ 12 rfl rfl rfl [0] [1, 2] rfl rfl (by decide) rfl hl.1 rfl (lv_room (Nat.le_of_ble_eq_true rfl)) dX12_from_79 ⟨Nat.le_of_ble_eq_true rfl, Nat.le_of_ble_eq_true rfl⟩ (fun r_45 u_46 H locs hw hP hD hS => ?_)
          obtain ⟨n_44, rfl⟩ : ∃ z, z = u_46 := ⟨_, rfl⟩
          obtain ⟨rfl, -⟩ := hw
          refine lv_goto (tgt := 97) hx hb dX12_from_82 (by decide) ?_
          have hpost : ((0 : Int32) = 0 ∧ (0 ≤ (0 : Int32).toInt ∧ (0 : Int32).toInt ≤ 0) ∧ (0 ≤ n_8.toInt ∧ n_8.toInt ≤ 10) ∧ (zRg 10 0 9 n_9)) ∨ ((0 : Int32) = 1 ∧ (0 ≤ n_44.toInt ∧ n_44.toInt ≤ 0) ∧ (0 ≤ (0 : Int32).toInt ∧ (0 : Int32).toInt ≤ 0) ∧ (0 ≤ n_8.toInt ∧ n_8.toInt ≤ 10) ∧ (zRg 10 0 9 n_9) ∧ (1 ≤ n_33.toInt ∧ n_33.toInt ≤ 495)) := (Or.inl ⟨rfl, ⟨(by decide +kernel), hr_n_8, hC_n_9⟩⟩)
          exact hret _ _ _ _ _ _ (n_44, 0, n_8, n_9, m_above, m_under, n_32, n_33) [2, 0, 1] hP hD hS rfl (by decide) dX12_from_97 (Or.inl rfl) hpost
set_option maxHeartbeats 4000000 in
set_option maxRecDepth 100000 in
theorem r_anywhere (l : Launch) (G : va_G) (cA : zCA) (h0 : Nat) (m_status : Int32) (m_thrown : Int32) (m_above : Int64) (m_under : Int64) (a_traySort : Nat) (a_trayMany : Nat) (a_numbers : Nat) (a_tape : Nat) (m_taped : Int32) (m_textEnd : Int32) (m_faultKind : Int32) (m_faultAt : Int32) (m_bad : Int32) (m_badAt : Int32) (m_token : Int32) (m_at : Int32) (m_behind : Int32) (m_number : Int32) (m_letters : Int32) (m_word : Int64) (a_c : Nat) (a_words : Nat) (m_markMany : Int32) (a_there : Nat) (a_tried : Nat) (a_best : Nat) (a_found : Nat) (m_thereMany : Int32) (m_foundMany : Int32) (m_orderHow : Int32) (m_orderRing : Int32) (m_orderMany : Int32) (m_hasBest : Int32) (m_bestTop : Int64) (m_bestBy : Int64) (a_weights : Nat) (a_shared : Nat) (m_random : Int32) (m_truePlace : Int32) (m_trueWay : Int32) (m_seconds : Int32) (m_done : Int32) (m_feelings : Int32) (m_tries : Int32) (m_leftOver : Int32) (m_playDoor : Int32) (m_playRing : Int32) (m_isOpen : Int32) (m_isOver : Int32) (m_wasTried : Int32) (m_hasPlayed : Int32) (a_feltNow : Nat) (a_last : Nat) (a_kept : Nat) (m_hasSeconds : Int32) (m_hasTurned : Int32) (m_hasRound : Int32) (a_hasFeels : Nat) (a_isOn : Nat) (m_firstAct : Int32) (m_meanTop : Int64) (m_meanBy : Int64) (a_order : Nat) (m_rowMany : Int32) (m_newSteps : Int32) (g_c : Nat → Int32) (g_there : Nat → Int32) (r : Int32) (hr_m_thereMany : 0 ≤ m_thereMany.toInt ∧ m_thereMany.toInt ≤ 10) (hC_g_c : zC g_c) (hC_g_there : zRg 10 0 9 g_there) : zCi l yX12_anywhere cX12_anywhere 2 (some .boolean) ({ frames := 4, cells := 0, slots := 0, locals := 97 }) G cA [.ref h0, .int r] [(h0, .inr (12, [.int m_status, .int m_thrown, .long m_above, .long m_under, .ref a_traySort, .ref a_trayMany, .ref a_numbers, .ref a_tape, .int m_taped, .int m_textEnd, .int m_faultKind, .int m_faultAt, .int m_bad, .int m_badAt, .int m_token, .int m_at, .int m_behind, .int m_number, .int m_letters, .long m_word, .ref a_c, .ref a_words, .int m_markMany, .ref a_there, .ref a_tried, .ref a_best, .ref a_found, .int m_thereMany, .int m_foundMany, .int m_orderHow, .int m_orderRing, .int m_orderMany, .int m_hasBest, .long m_bestTop, .long m_bestBy, .ref a_weights, .ref a_shared, .int m_random, .int m_truePlace, .int m_trueWay, .int m_seconds, .int m_done, .int m_feelings, .int m_tries, .int m_leftOver, .int m_playDoor, .int m_playRing, .int m_isOpen, .int m_isOver, .int m_wasTried, .int m_hasPlayed, .ref a_feltNow, .ref a_last, .ref a_kept, .int m_hasSeconds, .int m_hasTurned, .int m_hasRound, .ref a_hasFeels, .ref a_isOn, .int m_firstAct, .long m_meanTop, .long m_meanBy, .ref a_order, .int m_rowMany, .int m_newSteps])), (a_c, .inl (cA.1 0, 1825, .inl g_c)), (a_there, .inl (cA.1 0, 10, .inl g_there))] (S := Int32 × Int32 × Int64 × Int64 × Int32 × Int64 × Int64 × (Nat → Int32)) (fun (r : Int32) (u : Int32 × Int32 × Int64 × Int64 × Int32 × Int64 × Int64 × (Nat → Int32)) => (r = 0 ∧ (0 ≤ u.2.1.toInt ∧ u.2.1.toInt ≤ 0) ∧ (0 ≤ u.2.2.2.2.1.toInt ∧ u.2.2.2.2.1.toInt ≤ 10) ∧ (zRg 10 0 9 u.2.2.2.2.2.2.2)) ∨ (r = 1 ∧ (0 ≤ u.1.toInt ∧ u.1.toInt ≤ 0) ∧ (0 ≤ u.2.1.toInt ∧ u.2.1.toInt ≤ 0) ∧ (0 ≤ u.2.2.2.2.1.toInt ∧ u.2.2.2.2.1.toInt ≤ 10) ∧ (1 ≤ u.2.2.2.2.2.2.1.toInt ∧ u.2.2.2.2.2.2.1.toInt ≤ 79200) ∧ (zRg 10 0 9 u.2.2.2.2.2.2.2))) (fun (u : Int32 × Int32 × Int64 × Int64 × Int32 × Int64 × Int64 × (Nat → Int32)) => [(h0, .inr (12, [.int u.1, .int u.2.1, .long u.2.2.1, .long u.2.2.2.1, .ref a_traySort, .ref a_trayMany, .ref a_numbers, .ref a_tape, .int m_taped, .int m_textEnd, .int m_faultKind, .int m_faultAt, .int m_bad, .int m_badAt, .int m_token, .int m_at, .int m_behind, .int m_number, .int m_letters, .long m_word, .ref a_c, .ref a_words, .int m_markMany, .ref a_there, .ref a_tried, .ref a_best, .ref a_found, .int u.2.2.2.2.1, .int m_foundMany, .int m_orderHow, .int m_orderRing, .int m_orderMany, .int m_hasBest, .long m_bestTop, .long m_bestBy, .ref a_weights, .ref a_shared, .int m_random, .int m_truePlace, .int m_trueWay, .int m_seconds, .int m_done, .int m_feelings, .int m_tries, .int m_leftOver, .int m_playDoor, .int m_playRing, .int m_isOpen, .int m_isOver, .int m_wasTried, .int m_hasPlayed, .ref a_feltNow, .ref a_last, .ref a_kept, .int m_hasSeconds, .int m_hasTurned, .int m_hasRound, .ref a_hasFeels, .ref a_isOn, .int m_firstAct, .long u.2.2.2.2.2.1, .long u.2.2.2.2.2.2.1, .ref a_order, .int m_rowMany, .int m_newSteps])), (a_c, .inl (cA.1 0, 1825, .inl g_c)), (a_there, .inl (cA.1 0, 10, .inl u.2.2.2.2.2.2.2))]) 0 0 := by
  have hk_2 : (2 : Int32).toInt = 2 := by decide +kernel
  have hk_8 : (8 : Int32).toInt = 8 := by decide +kernel
  have hkl_0 : (0 : Int64).toInt = 0 := by decide +kernel
  refine z_start2z (own := RX12) (by decide) (Nat.le_of_ble_eq_true rfl) rfl ?_
  intro p e s m args below meth c A ls Q hx hb hml hts hown hK hE hT hP hD hS hA hl hret
  have hl : lv_has ls 2 [(0, .ref h0), (1, .int r)] := hl
  refine lv_aload_n hx hb dX12_anywhere_0 rfl (lv_at hl 0 rfl) ?_
  refine lv_iconst (v := 0) hx hb dX12_anywhere_1 (by decide) ?_
  refine va_put (D := G) (ci := 12) (v := .int 0) (ty := .int) (C := RX12) (T := TX12) (N := 65) hx hb hts inT12 tyX12 tyX12_ok nmX12 hown hK hP hD hS 0 rfl rfl 1 (by decide) (hts _ tw_1886) (fun _ h9 => h9) rfl (tyX12_ok 1 (by decide)) rfl rfl (Nat.le_of_ble_eq_true rfl) dX12_anywhere_2 (fun H locs hP hD hS => ?_)
  refine lv_aload_n hx hb dX12_anywhere_5 rfl (lv_at hl 0 rfl) ?_
  refine lv_iconst (v := 0) hx hb dX12_anywhere_6 (by decide) ?_
  refine va_put (D := G) (ci := 12) (v := .int 0) (ty := .int) (C := RX12) (T := TX12) (N := 65) hx hb hts inT12 tyX12 tyX12_ok nmX12 hown hK hP hD hS 0 rfl rfl 0 (by decide) (hts _ tw_1885) (fun _ h9 => h9) rfl (tyX12_ok 0 (by decide)) rfl rfl (Nat.le_of_ble_eq_true rfl) dX12_anywhere_7 (fun H locs hP hD hS => ?_)
  refine lv_aload_n hx hb dX12_anywhere_10 rfl (lv_at hl 0 rfl) ?_
  refine lv_iload_n hx hb dX12_anywhere_11 rfl (lv_at hl 1 rfl) ?_
  refine z_callVi (As := [.int r]) (rest := []) (wr := [(a_there, .inl (cA.1 0, 10, .inl g_there))]) ⟨hx, hb, hml, hown, hts⟩ hK hE hT hP hD hS hA (r_isRing l G cA h0 0 0 m_above m_under a_traySort a_trayMany a_numbers a_tape m_taped m_textEnd m_faultKind m_faultAt m_bad m_badAt m_token m_at m_behind m_number m_letters m_word a_c a_words m_markMany a_there a_tried a_best a_found m_thereMany m_foundMany m_orderHow m_orderRing m_orderMany m_hasBest m_bestTop m_bestBy a_weights a_shared m_random m_truePlace m_trueWay m_seconds m_done m_feelings m_tries m_leftOver m_playDoor m_playRing m_isOpen m_isOver m_wasTried m_hasPlayed a_feltNow a_last a_kept m_hasSeconds m_hasTurned m_hasRound a_hasFeels a_isOn m_firstAct m_meanTop m_meanBy a_order m_rowMany m_newSteps g_c r hC_g_c) lk_RX12_289 ⟨rfl, rfl⟩ ⟨Nat.le_of_ble_eq_true rfl, Nat.le_of_ble_eq_true rfl⟩ 12 rfl rfl rfl [0, 1] [2] rfl rfl (by decide) rfl hl.1 rfl (lv_room (Nat.le_of_ble_eq_true rfl)) dX12_anywhere_12 ⟨Nat.le_of_ble_eq_true rfl, Nat.le_of_ble_eq_true rfl⟩ (fun r_1 u_2 H locs hw hP hD hS => ?_)
  rcases hw with ⟨rfl, -⟩ | ⟨rfl, hf_3, hf_4⟩
  · skip
    refine lv_if_ne (tgt := 24) hx hb dX12_anywhere_15 (by decide) (fun h9 => absurd (by decide +kernel) h9) (fun _ => ?_)
    refine lv_aload_n hx hb dX12_anywhere_18 rfl (lv_at hl 0 rfl) ?_
    refine lv_iconst (v := 2) hx hb dX12_anywhere_19 (by decide) ?_
    refine z_callVi (As := [.int 2]) (rest := []) (wr := [(a_there, .inl (cA.1 0, 10, .inl g_there)), (a_c, .inl (cA.1 0, 1825, .inl g_c))]) ⟨hx, hb, hml, hown, hts⟩ hK hE hT hP hD hS hA (r_no l G cA h0 0 0 m_above m_under a_traySort a_trayMany a_numbers a_tape m_taped m_textEnd m_faultKind m_faultAt m_bad m_badAt m_token m_at m_behind m_number m_letters m_word a_c a_words m_markMany a_there a_tried a_best a_found m_thereMany m_foundMany m_orderHow m_orderRing m_orderMany m_hasBest m_bestTop m_bestBy a_weights a_shared m_random m_truePlace m_trueWay m_seconds m_done m_feelings m_tries m_leftOver m_playDoor m_playRing m_isOpen m_isOver m_wasTried m_hasPlayed a_feltNow a_last a_kept m_hasSeconds m_hasTurned m_hasRound a_hasFeels a_isOn m_firstAct m_meanTop m_meanBy a_order m_rowMany m_newSteps 2) lk_RX12_97 ⟨rfl, rfl⟩ ⟨Nat.le_of_ble_eq_true rfl, Nat.le_of_ble_eq_true rfl⟩ 12 rfl rfl rfl [1] [0, 2] rfl rfl (by decide) rfl hl.1 rfl (lv_room (Nat.le_of_ble_eq_true rfl)) dX12_anywhere_20 ⟨Nat.le_of_ble_eq_true rfl, Nat.le_of_ble_eq_true rfl⟩ (fun r_6 u_7 H locs hw hP hD hS => ?_)
    obtain ⟨n_5, rfl⟩ : ∃ z, z = u_7 := ⟨_, rfl⟩
    obtain ⟨rfl, -⟩ := hw
    have hpost : ((0 : Int32) = 0 ∧ (0 ≤ (0 : Int32).toInt ∧ (0 : Int32).toInt ≤ 0) ∧ (0 ≤ m_thereMany.toInt ∧ m_thereMany.toInt ≤ 10) ∧ (zRg 10 0 9 g_there)) ∨ ((0 : Int32) = 1 ∧ (0 ≤ n_5.toInt ∧ n_5.toInt ≤ 0) ∧ (0 ≤ (0 : Int32).toInt ∧ (0 : Int32).toInt ≤ 0) ∧ (0 ≤ m_thereMany.toInt ∧ m_thereMany.toInt ≤ 10) ∧ (1 ≤ m_meanBy.toInt ∧ m_meanBy.toInt ≤ 79200) ∧ (zRg 10 0 9 g_there)) := (Or.inl ⟨rfl, ⟨(by decide +kernel), hr_m_thereMany, hC_g_there⟩⟩)
    exact hret _ _ _ _ _ _ (n_5, 0, m_above, m_under, m_thereMany, m_meanTop, m_meanBy, g_there) [2, 1, 0] hP hD hS rfl (by decide) dX12_anywhere_23 (Or.inl rfl) hpost
  · skip
    refine lv_if_ne (tgt := 24) hx hb dX12_anywhere_15 (by decide) (fun _ => ?_) (fun h9 => absurd h9 (by decide +kernel))
    refine lv_aload_n hx hb dX12_anywhere_24 rfl (lv_at hl 0 rfl) ?_
    refine lv_iload_n hx hb dX12_anywhere_25 rfl (lv_at hl 1 rfl) ?_
    refine z_callVv (As := [.int r]) (rest := []) (wr := []) ⟨hx, hb, hml, hown, hts⟩ hK hE hT hP hD hS hA (r_gather l G cA h0 0 0 m_above m_under a_traySort a_trayMany a_numbers a_tape m_taped m_textEnd m_faultKind m_faultAt m_bad m_badAt m_token m_at m_behind m_number m_letters m_word a_c a_words m_markMany a_there a_tried a_best a_found m_thereMany m_foundMany m_orderHow m_orderRing m_orderMany m_hasBest m_bestTop m_bestBy a_weights a_shared m_random m_truePlace m_trueWay m_seconds m_done m_feelings m_tries m_leftOver m_playDoor m_playRing m_isOpen m_isOver m_wasTried m_hasPlayed a_feltNow a_last a_kept m_hasSeconds m_hasTurned m_hasRound a_hasFeels a_isOn m_firstAct m_meanTop m_meanBy a_order m_rowMany m_newSteps g_c g_there r (by omega) hr_m_thereMany hC_g_c hC_g_there) lk_RX12_292 ⟨rfl, rfl⟩ ⟨Nat.le_of_ble_eq_true rfl, Nat.le_of_ble_eq_true rfl⟩ 12 rfl rfl rfl [1, 2, 0] [] rfl rfl (by decide) rfl hl.1 rfl (lv_room (Nat.le_of_ble_eq_true rfl)) dX12_anywhere_26 ⟨Nat.le_of_ble_eq_true rfl, Nat.le_of_ble_eq_true rfl⟩ (fun u_11 H locs hw hP hD hS => ?_)
    obtain ⟨n_8, n_9⟩ := u_11
    try dsimp only at hw
    obtain ⟨hr_n_8, hC_n_9, hf_12, hf_13⟩ := hw
    refine lv_aload_n hx hb dX12_anywhere_29 rfl (lv_at hl 0 rfl) ?_
    refine z_callVv (As := []) (rest := []) (wr := []) ⟨hx, hb, hml, hown, hts⟩ hK hE hT hP hD hS hA (r_meanAnywhere l G cA h0 0 0 m_above m_under a_traySort a_trayMany a_numbers a_tape m_taped m_textEnd m_faultKind m_faultAt m_bad m_badAt m_token m_at m_behind m_number m_letters m_word a_c a_words m_markMany a_there a_tried a_best a_found n_8 m_foundMany m_orderHow m_orderRing m_orderMany m_hasBest m_bestTop m_bestBy a_weights a_shared m_random m_truePlace m_trueWay m_seconds m_done m_feelings m_tries m_leftOver m_playDoor m_playRing m_isOpen m_isOver m_wasTried m_hasPlayed a_feltNow a_last a_kept m_hasSeconds m_hasTurned m_hasRound a_hasFeels a_isOn m_firstAct m_meanTop m_meanBy a_order m_rowMany m_newSteps g_c n_9 hr_n_8 hC_g_c hC_n_9) lk_RX12_399 ⟨rfl, rfl⟩ ⟨Nat.le_of_ble_eq_true rfl, Nat.le_of_ble_eq_true rfl⟩ 12 rfl rfl rfl [0, 1, 2] [] rfl rfl (by decide) rfl hl.1 rfl (lv_room (Nat.le_of_ble_eq_true rfl)) dX12_anywhere_30 ⟨Nat.le_of_ble_eq_true rfl, Nat.le_of_ble_eq_true rfl⟩ (fun u_17 H locs hw hP hD hS => ?_)
    obtain ⟨n_14, n_15⟩ := u_17
    try dsimp only at hw
    obtain ⟨hr_n_15, hf_18⟩ := hw
    refine lv_aload_n hx hb dX12_anywhere_33 rfl (lv_at hl 0 rfl) ?_
    refine va_get (D := G) (ci := 12) (v := .long n_15) (C := RX12) (T := TX12) (N := 65) hx hb hts inT12 hown hK hP 0 rfl rfl 61 (by decide) (hts _ tw_1944) (fun _ h9 => h9) rfl dX12_anywhere_34 ?_
    refine lv_lconst (v := 0) hx hb dX12_anywhere_37 (by decide) ?_
    refine W.lcmp hx hb dX12_anywhere_38 ?_
    refine lv_if_ne (tgt := 51) hx hb dX12_anywhere_39 (by decide) (fun c_19 => ?_) (fun c_19 => ?_)
    · have b_20 := z_fneTl c_19
      refine lv_aload_n hx hb dX12_anywhere_51 rfl (lv_at hl 0 rfl) ?_
      refine lv_aload_n hx hb dX12_anywhere_52 rfl (lv_at hl 0 rfl) ?_
      refine va_get (D := G) (ci := 12) (v := .long n_14) (C := RX12) (T := TX12) (N := 65) hx hb hts inT12 hown hK hP 0 rfl rfl 60 (by decide) (hts _ tw_1943) (fun _ h9 => h9) rfl dX12_anywhere_53 ?_
      refine lv_aload_n hx hb dX12_anywhere_56 rfl (lv_at hl 0 rfl) ?_
      refine va_get (D := G) (ci := 12) (v := .long n_15) (C := RX12) (T := TX12) (N := 65) hx hb hts inT12 hown hK hP 0 rfl rfl 61 (by decide) (hts _ tw_1944) (fun _ h9 => h9) rfl dX12_anywhere_57 ?_
      refine z_callVi (As := [.long n_14, .long n_15]) (rest := []) (wr := [(a_c, .inl (cA.1 0, 1825, .inl g_c)), (a_there, .inl (cA.1 0, 10, .inl n_9))]) ⟨hx, hb, hml, hown, hts⟩ hK hE hT hP hD hS hA (r_fraction l G cA h0 0 0 m_above m_under a_traySort a_trayMany a_numbers a_tape m_taped m_textEnd m_faultKind m_faultAt m_bad m_badAt m_token m_at m_behind m_number m_letters m_word a_c a_words m_markMany a_there a_tried a_best a_found n_8 m_foundMany m_orderHow m_orderRing m_orderMany m_hasBest m_bestTop m_bestBy a_weights a_shared m_random m_truePlace m_trueWay m_seconds m_done m_feelings m_tries m_leftOver m_playDoor m_playRing m_isOpen m_isOver m_wasTried m_hasPlayed a_feltNow a_last a_kept m_hasSeconds m_hasTurned m_hasRound a_hasFeels a_isOn m_firstAct n_14 n_15 a_order m_rowMany m_newSteps n_14 n_15 (by omega)) lk_RX12_352 ⟨rfl, rfl⟩ ⟨Nat.le_of_ble_eq_true rfl, Nat.le_of_ble_eq_true rfl⟩ 12 rfl rfl rfl [0] [1, 2] rfl rfl (by decide) rfl hl.1 rfl (lv_room (Nat.le_of_ble_eq_true rfl)) dX12_anywhere_60 ⟨Nat.le_of_ble_eq_true rfl, Nat.le_of_ble_eq_true rfl⟩ (fun r_23 u_24 H locs hw hP hD hS => ?_)
      obtain ⟨n_21, n_22⟩ := u_24
      try dsimp only at hw
      obtain ⟨rfl, -⟩ := hw
      have hpost : ((1 : Int32) = 0 ∧ (0 ≤ (0 : Int32).toInt ∧ (0 : Int32).toInt ≤ 0) ∧ (0 ≤ n_8.toInt ∧ n_8.toInt ≤ 10) ∧ (zRg 10 0 9 n_9)) ∨ ((1 : Int32) = 1 ∧ (0 ≤ (0 : Int32).toInt ∧ (0 : Int32).toInt ≤ 0) ∧ (0 ≤ (0 : Int32).toInt ∧ (0 : Int32).toInt ≤ 0) ∧ (0 ≤ n_8.toInt ∧ n_8.toInt ≤ 10) ∧ (1 ≤ n_15.toInt ∧ n_15.toInt ≤ 79200) ∧ (zRg 10 0 9 n_9)) := (Or.inr ⟨rfl, ⟨(by decide +kernel), (by decide +kernel), hr_n_8, (by omega), hC_n_9⟩⟩)
      exact hret _ _ _ _ _ _ (0, 0, n_21, n_22, n_8, n_14, n_15, n_9) [2, 0, 1] hP hD hS rfl (by decide) dX12_anywhere_63 (Or.inr rfl) hpost
    · have b_25 := z_feqFl c_19
      refine lv_aload_n hx hb dX12_anywhere_42 rfl (lv_at hl 0 rfl) ?_
      refine lv_bipush (v := 8) hx hb dX12_anywhere_43 (by decide) ?_
      refine z_callVi (As := [.int 8]) (rest := []) (wr := [(a_c, .inl (cA.1 0, 1825, .inl g_c)), (a_there, .inl (cA.1 0, 10, .inl n_9))]) ⟨hx, hb, hml, hown, hts⟩ hK hE hT hP hD hS hA (r_no l G cA h0 0 0 m_above m_under a_traySort a_trayMany a_numbers a_tape m_taped m_textEnd m_faultKind m_faultAt m_bad m_badAt m_token m_at m_behind m_number m_letters m_word a_c a_words m_markMany a_there a_tried a_best a_found n_8 m_foundMany m_orderHow m_orderRing m_orderMany m_hasBest m_bestTop m_bestBy a_weights a_shared m_random m_truePlace m_trueWay m_seconds m_done m_feelings m_tries m_leftOver m_playDoor m_playRing m_isOpen m_isOver m_wasTried m_hasPlayed a_feltNow a_last a_kept m_hasSeconds m_hasTurned m_hasRound a_hasFeels a_isOn m_firstAct n_14 n_15 a_order m_rowMany m_newSteps 8) lk_RX12_97 ⟨rfl, rfl⟩ ⟨Nat.le_of_ble_eq_true rfl, Nat.le_of_ble_eq_true rfl⟩ 12 rfl rfl rfl [0] [1, 2] rfl rfl (by decide) rfl hl.1 rfl (lv_room (Nat.le_of_ble_eq_true rfl)) dX12_anywhere_45 ⟨Nat.le_of_ble_eq_true rfl, Nat.le_of_ble_eq_true rfl⟩ (fun r_27 u_28 H locs hw hP hD hS => ?_)
      obtain ⟨n_26, rfl⟩ : ∃ z, z = u_28 := ⟨_, rfl⟩
      obtain ⟨rfl, -⟩ := hw
      refine lv_goto (tgt := 63) hx hb dX12_anywhere_48 (by decide) ?_
      have hpost : ((0 : Int32) = 0 ∧ (0 ≤ (0 : Int32).toInt ∧ (0 : Int32).toInt ≤ 0) ∧ (0 ≤ n_8.toInt ∧ n_8.toInt ≤ 10) ∧ (zRg 10 0 9 n_9)) ∨ ((0 : Int32) = 1 ∧ (0 ≤ n_26.toInt ∧ n_26.toInt ≤ 0) ∧ (0 ≤ (0 : Int32).toInt ∧ (0 : Int32).toInt ≤ 0) ∧ (0 ≤ n_8.toInt ∧ n_8.toInt ≤ 10) ∧ (1 ≤ n_15.toInt ∧ n_15.toInt ≤ 79200) ∧ (zRg 10 0 9 n_9)) := (Or.inl ⟨rfl, ⟨(by decide +kernel), hr_n_8, hC_n_9⟩⟩)
      exact hret _ _ _ _ _ _ (n_26, 0, m_above, m_under, n_8, n_14, n_15, n_9) [2, 0, 1] hP hD hS rfl (by decide) dX12_anywhere_63 (Or.inl rfl) hpost
set_option maxHeartbeats 4000000 in
set_option maxRecDepth 100000 in
theorem r_walk (l : Launch) (G : va_G) (cA : zCA) (h0 : Nat) (m_status : Int32) (m_thrown : Int32) (m_above : Int64) (m_under : Int64) (a_traySort : Nat) (a_trayMany : Nat) (a_numbers : Nat) (a_tape : Nat) (m_taped : Int32) (m_textEnd : Int32) (m_faultKind : Int32) (m_faultAt : Int32) (m_bad : Int32) (m_badAt : Int32) (m_token : Int32) (m_at : Int32) (m_behind : Int32) (m_number : Int32) (m_letters : Int32) (m_word : Int64) (a_c : Nat) (a_words : Nat) (m_markMany : Int32) (a_there : Nat) (a_tried : Nat) (a_best : Nat) (a_found : Nat) (m_thereMany : Int32) (m_foundMany : Int32) (m_orderHow : Int32) (m_orderRing : Int32) (m_orderMany : Int32) (m_hasBest : Int32) (m_bestTop : Int64) (m_bestBy : Int64) (a_weights : Nat) (a_shared : Nat) (m_random : Int32) (m_truePlace : Int32) (m_trueWay : Int32) (m_seconds : Int32) (m_done : Int32) (m_feelings : Int32) (m_tries : Int32) (m_leftOver : Int32) (m_playDoor : Int32) (m_playRing : Int32) (m_isOpen : Int32) (m_isOver : Int32) (m_wasTried : Int32) (m_hasPlayed : Int32) (a_feltNow : Nat) (a_last : Nat) (a_kept : Nat) (m_hasSeconds : Int32) (m_hasTurned : Int32) (m_hasRound : Int32) (a_hasFeels : Nat) (a_isOn : Nat) (m_firstAct : Int32) (m_meanTop : Int64) (m_meanBy : Int64) (a_order : Nat) (m_rowMany : Int32) (m_newSteps : Int32) (g_c : Nat → Int32) (g_there : Nat → Int32) (hr_m_thereMany : 0 ≤ m_thereMany.toInt ∧ m_thereMany.toInt ≤ 10) (hC_g_c : zC g_c) (hC_g_there : zRg 10 0 9 g_there) : zCi l yX12_walk cX12_walk 8 (some .int) ({ frames := 1, cells := 0, slots := 0, locals := 22 }) G cA [.ref h0] [(h0, .inr (12, [.int m_status, .int m_thrown, .long m_above, .long m_under, .ref a_traySort, .ref a_trayMany, .ref a_numbers, .ref a_tape, .int m_taped, .int m_textEnd, .int m_faultKind, .int m_faultAt, .int m_bad, .int m_badAt, .int m_token, .int m_at, .int m_behind, .int m_number, .int m_letters, .long m_word, .ref a_c, .ref a_words, .int m_markMany, .ref a_there, .ref a_tried, .ref a_best, .ref a_found, .int m_thereMany, .int m_foundMany, .int m_orderHow, .int m_orderRing, .int m_orderMany, .int m_hasBest, .long m_bestTop, .long m_bestBy, .ref a_weights, .ref a_shared, .int m_random, .int m_truePlace, .int m_trueWay, .int m_seconds, .int m_done, .int m_feelings, .int m_tries, .int m_leftOver, .int m_playDoor, .int m_playRing, .int m_isOpen, .int m_isOver, .int m_wasTried, .int m_hasPlayed, .ref a_feltNow, .ref a_last, .ref a_kept, .int m_hasSeconds, .int m_hasTurned, .int m_hasRound, .ref a_hasFeels, .ref a_isOn, .int m_firstAct, .long m_meanTop, .long m_meanBy, .ref a_order, .int m_rowMany, .int m_newSteps])), (a_c, .inl (cA.1 0, 1825, .inl g_c)), (a_there, .inl (cA.1 0, 10, .inl g_there))] (S := Unit) (fun (r : Int32) (u : Unit) => True) (fun (u : Unit) => [(h0, .inr (12, [.int m_status, .int m_thrown, .long m_above, .long m_under, .ref a_traySort, .ref a_trayMany, .ref a_numbers, .ref a_tape, .int m_taped, .int m_textEnd, .int m_faultKind, .int m_faultAt, .int m_bad, .int m_badAt, .int m_token, .int m_at, .int m_behind, .int m_number, .int m_letters, .long m_word, .ref a_c, .ref a_words, .int m_markMany, .ref a_there, .ref a_tried, .ref a_best, .ref a_found, .int m_thereMany, .int m_foundMany, .int m_orderHow, .int m_orderRing, .int m_orderMany, .int m_hasBest, .long m_bestTop, .long m_bestBy, .ref a_weights, .ref a_shared, .int m_random, .int m_truePlace, .int m_trueWay, .int m_seconds, .int m_done, .int m_feelings, .int m_tries, .int m_leftOver, .int m_playDoor, .int m_playRing, .int m_isOpen, .int m_isOver, .int m_wasTried, .int m_hasPlayed, .ref a_feltNow, .ref a_last, .ref a_kept, .int m_hasSeconds, .int m_hasTurned, .int m_hasRound, .ref a_hasFeels, .ref a_isOn, .int m_firstAct, .long m_meanTop, .long m_meanBy, .ref a_order, .int m_rowMany, .int m_newSteps])), (a_c, .inl (cA.1 0, 1825, .inl g_c)), (a_there, .inl (cA.1 0, 10, .inl g_there))]) 0 0 := by
  have hk_0 : (0 : Int32).toInt = 0 := by decide +kernel
  have hk_1 : (1 : Int32).toInt = 1 := by decide +kernel
  have hk_138 : (138 : Int32).toInt = 138 := by decide +kernel
  refine z_start2i (own := RX12) (by decide) (Nat.le_of_ble_eq_true rfl) rfl ?_
  intro p e s m args below meth c A ls Q hx hb hml hts hown hK hE hT hP hD hS hA hl hret
  have hl : lv_has ls 8 [(0, .ref h0)] := hl
  refine lv_iconst (v := 0) hx hb dX12_walk_0 (by decide) ?_
  refine lv_istore_n (lv' := [(1, .int 0), (0, .ref h0)]) hx hb dX12_walk_1 rfl hl (by decide) rfl (fun ls hl => ?_)
  refine lv_iconst (v := 0) hx hb dX12_walk_2 (by decide) ?_
  refine lv_istore_n (lv' := [(2, .int 0), (1, .int 0), (0, .ref h0)]) hx hb dX12_walk_3 rfl hl (by decide) rfl (fun ls hl => ?_)
  refine lv_iconst (v := 0) hx hb dX12_walk_4 (by decide) ?_
  refine lv_istore_n (lv' := [(3, .int 0), (2, .int 0), (1, .int 0), (0, .ref h0)]) hx hb dX12_walk_5 rfl hl (by decide) rfl (fun ls hl => ?_)
  have hlp_5806 : ∀ (n : Nat) (v_5390 : Int32) (v_5391 : Int32) (v_5392 : Int32) (H : Heap) (locs : List Loc) (ls : Array Slot), (2147483647 - v_5392.toInt).toNat < n → (0 ≤ v_5390.toInt ∧ v_5390.toInt ≤ 9) → (0 ≤ v_5392.toInt ∧ v_5392.toInt ≤ 12) → va_P G vwCl [(h0, .inr (12, [.int m_status, .int m_thrown, .long m_above, .long m_under, .ref a_traySort, .ref a_trayMany, .ref a_numbers, .ref a_tape, .int m_taped, .int m_textEnd, .int m_faultKind, .int m_faultAt, .int m_bad, .int m_badAt, .int m_token, .int m_at, .int m_behind, .int m_number, .int m_letters, .long m_word, .ref a_c, .ref a_words, .int m_markMany, .ref a_there, .ref a_tried, .ref a_best, .ref a_found, .int m_thereMany, .int m_foundMany, .int m_orderHow, .int m_orderRing, .int m_orderMany, .int m_hasBest, .long m_bestTop, .long m_bestBy, .ref a_weights, .ref a_shared, .int m_random, .int m_truePlace, .int m_trueWay, .int m_seconds, .int m_done, .int m_feelings, .int m_tries, .int m_leftOver, .int m_playDoor, .int m_playRing, .int m_isOpen, .int m_isOver, .int m_wasTried, .int m_hasPlayed, .ref a_feltNow, .ref a_last, .ref a_kept, .int m_hasSeconds, .int m_hasTurned, .int m_hasRound, .ref a_hasFeels, .ref a_isOn, .int m_firstAct, .long m_meanTop, .long m_meanBy, .ref a_order, .int m_rowMany, .int m_newSteps])), (a_c, .inl (cA.1 0, 1825, .inl g_c)), (a_there, .inl (cA.1 0, 10, .inl g_there))] H → va_D A [(h0, .inr (12, [.int m_status, .int m_thrown, .long m_above, .long m_under, .ref a_traySort, .ref a_trayMany, .ref a_numbers, .ref a_tape, .int m_taped, .int m_textEnd, .int m_faultKind, .int m_faultAt, .int m_bad, .int m_badAt, .int m_token, .int m_at, .int m_behind, .int m_number, .int m_letters, .long m_word, .ref a_c, .ref a_words, .int m_markMany, .ref a_there, .ref a_tried, .ref a_best, .ref a_found, .int m_thereMany, .int m_foundMany, .int m_orderHow, .int m_orderRing, .int m_orderMany, .int m_hasBest, .long m_bestTop, .long m_bestBy, .ref a_weights, .ref a_shared, .int m_random, .int m_truePlace, .int m_trueWay, .int m_seconds, .int m_done, .int m_feelings, .int m_tries, .int m_leftOver, .int m_playDoor, .int m_playRing, .int m_isOpen, .int m_isOver, .int m_wasTried, .int m_hasPlayed, .ref a_feltNow, .ref a_last, .ref a_kept, .int m_hasSeconds, .int m_hasTurned, .int m_hasRound, .ref a_hasFeels, .ref a_isOn, .int m_firstAct, .long m_meanTop, .long m_meanBy, .ref a_order, .int m_rowMany, .int m_newSteps])), (a_c, .inl (cA.1 0, 1825, .inl g_c)), (a_there, .inl (cA.1 0, 10, .inl g_there))] → va_S A s.heap H locs → lv_has ls 8 [(0, .ref h0), (1, .int v_5390), (2, .int v_5391), (3, .int v_5392)] → W p l e ({ frames := 1, cells := 0, slots := 0, locals := 22 }) s m args below meth c H locs 0 0 Q (F0 m 6 ls []) := by
    intro n
    induction n with
    | zero =>
      intro v_5390 v_5391 v_5392 H locs ls hmu_hlp_5806 hr_v_5390 hr_v_5392 hP hD hS hl
      exact absurd hmu_hlp_5806 (Nat.not_lt_zero _)
    | succ n ih_5807 =>
      intro v_5390 v_5391 v_5392 H locs ls hmu_hlp_5806 hr_v_5390 hr_v_5392 hP hD hS hl
      refine lv_iload_n hx hb dX12_walk_6 rfl (lv_at hl 3 rfl) ?_
      refine lv_aload_n hx hb dX12_walk_7 rfl (lv_at hl 0 rfl) ?_
      refine va_get (D := G) (ci := 12) (v := .ref a_c) (C := RX12) (T := TX12) (N := 65) hx hb hts inT12 hown hK hP 0 rfl rfl 20 (by decide) (hts _ tw_1905) (fun _ h9 => h9) rfl dX12_walk_8 ?_
      refine lv_iconst (v := 4) hx hb dX12_walk_11 (by decide) ?_
      refine va_iald hx hb hK hP 1 0 rfl rfl (z_in (i := 4) (n := 1825) (by decide +kernel) (by decide +kernel)) dX12_walk_12 ?_
      refine lv_topi (fun x_5808 he_x_5808 => ?_)
      have hr_x_5808 := z_ctk hC_g_c he_x_5808 (k := 4) (lo := 0) (hi := 12) (by decide +kernel) (by decide +kernel) (by decide +kernel)
      refine lv_icmp_ge (tgt := 152) hx hb dX12_walk_13 (by decide) (fun c_5809 => ?_) (fun c_5809 => ?_)
      · have b_5810 := z_fgeT c_5809
        refine lv_iload_n hx hb dX12_walk_152 rfl (lv_at hl 2 rfl) ?_
        exact hret _ _ _ _ _ _ () [0, 1, 2] hP hD hS rfl (by decide) dX12_walk_153 trivial
      · have b_5811 := z_fltF c_5809
        refine lv_iconst (v := (-1)) hx hb dX12_walk_16 (by decide) ?_
        refine lv_istore (lv' := [(4, .int (-1)), (0, .ref h0), (1, .int v_5390), (2, .int v_5391), (3, .int v_5392)]) hx hb dX12_walk_17 hl (by decide) rfl (fun ls hl => ?_)
        refine lv_iconst (v := 0) hx hb dX12_walk_19 (by decide) ?_
        refine lv_istore (lv' := [(5, .int 0), (4, .int (-1)), (0, .ref h0), (1, .int v_5390), (2, .int v_5391), (3, .int v_5392)]) hx hb dX12_walk_20 hl (by decide) rfl (fun ls hl => ?_)
        refine lv_iconst (v := 0) hx hb dX12_walk_22 (by decide) ?_
        refine lv_istore (lv' := [(6, .int 0), (5, .int 0), (4, .int (-1)), (0, .ref h0), (1, .int v_5390), (2, .int v_5391), (3, .int v_5392)]) hx hb dX12_walk_23 hl (by decide) rfl (fun ls hl => ?_)
        have hlp_6181 : ∀ (n : Nat) (v_6149 : Int32) (v_6150 : Int32) (v_6151 : Int32) (H : Heap) (locs : List Loc) (ls : Array Slot), (2147483647 - v_6151.toInt).toNat < n → ((-1) ≤ v_6149.toInt ∧ v_6149.toInt ≤ 9) → (0 ≤ v_6151.toInt ∧ v_6151.toInt ≤ 10) → va_P G vwCl [(h0, .inr (12, [.int m_status, .int m_thrown, .long m_above, .long m_under, .ref a_traySort, .ref a_trayMany, .ref a_numbers, .ref a_tape, .int m_taped, .int m_textEnd, .int m_faultKind, .int m_faultAt, .int m_bad, .int m_badAt, .int m_token, .int m_at, .int m_behind, .int m_number, .int m_letters, .long m_word, .ref a_c, .ref a_words, .int m_markMany, .ref a_there, .ref a_tried, .ref a_best, .ref a_found, .int m_thereMany, .int m_foundMany, .int m_orderHow, .int m_orderRing, .int m_orderMany, .int m_hasBest, .long m_bestTop, .long m_bestBy, .ref a_weights, .ref a_shared, .int m_random, .int m_truePlace, .int m_trueWay, .int m_seconds, .int m_done, .int m_feelings, .int m_tries, .int m_leftOver, .int m_playDoor, .int m_playRing, .int m_isOpen, .int m_isOver, .int m_wasTried, .int m_hasPlayed, .ref a_feltNow, .ref a_last, .ref a_kept, .int m_hasSeconds, .int m_hasTurned, .int m_hasRound, .ref a_hasFeels, .ref a_isOn, .int m_firstAct, .long m_meanTop, .long m_meanBy, .ref a_order, .int m_rowMany, .int m_newSteps])), (a_c, .inl (cA.1 0, 1825, .inl g_c)), (a_there, .inl (cA.1 0, 10, .inl g_there))] H → va_D A [(h0, .inr (12, [.int m_status, .int m_thrown, .long m_above, .long m_under, .ref a_traySort, .ref a_trayMany, .ref a_numbers, .ref a_tape, .int m_taped, .int m_textEnd, .int m_faultKind, .int m_faultAt, .int m_bad, .int m_badAt, .int m_token, .int m_at, .int m_behind, .int m_number, .int m_letters, .long m_word, .ref a_c, .ref a_words, .int m_markMany, .ref a_there, .ref a_tried, .ref a_best, .ref a_found, .int m_thereMany, .int m_foundMany, .int m_orderHow, .int m_orderRing, .int m_orderMany, .int m_hasBest, .long m_bestTop, .long m_bestBy, .ref a_weights, .ref a_shared, .int m_random, .int m_truePlace, .int m_trueWay, .int m_seconds, .int m_done, .int m_feelings, .int m_tries, .int m_leftOver, .int m_playDoor, .int m_playRing, .int m_isOpen, .int m_isOver, .int m_wasTried, .int m_hasPlayed, .ref a_feltNow, .ref a_last, .ref a_kept, .int m_hasSeconds, .int m_hasTurned, .int m_hasRound, .ref a_hasFeels, .ref a_isOn, .int m_firstAct, .long m_meanTop, .long m_meanBy, .ref a_order, .int m_rowMany, .int m_newSteps])), (a_c, .inl (cA.1 0, 1825, .inl g_c)), (a_there, .inl (cA.1 0, 10, .inl g_there))] → va_S A s.heap H locs → lv_has ls 8 [(0, .ref h0), (1, .int v_5390), (2, .int v_5391), (3, .int v_5392), (4, .int v_6149), (5, .int v_6150), (6, .int v_6151)] → W p l e ({ frames := 1, cells := 0, slots := 0, locals := 22 }) s m args below meth c H locs 0 0 Q (F0 m 25 ls []) := by
          intro n
          induction n with
          | zero =>
            intro v_6149 v_6150 v_6151 H locs ls hmu_hlp_6181 hr_v_6149 hr_v_6151 hP hD hS hl
            exact absurd hmu_hlp_6181 (Nat.not_lt_zero _)
          | succ n ih_6182 =>
            intro v_6149 v_6150 v_6151 H locs ls hmu_hlp_6181 hr_v_6149 hr_v_6151 hP hD hS hl
            refine lv_iload hx hb dX12_walk_25 (lv_at hl 6 rfl) ?_
            refine lv_aload_n hx hb dX12_walk_27 rfl (lv_at hl 0 rfl) ?_
            refine va_get (D := G) (ci := 12) (v := .int m_thereMany) (C := RX12) (T := TX12) (N := 65) hx hb hts inT12 hown hK hP 0 rfl rfl 27 (by decide) (hts _ tw_1912) (fun _ h9 => h9) rfl dX12_walk_28 ?_
            refine lv_icmp_ge (tgt := 115) hx hb dX12_walk_31 (by decide) (fun c_6183 => ?_) (fun c_6183 => ?_)
            · have b_6184 := z_fgeT c_6183
              refine lv_iload hx hb dX12_walk_115 (lv_at hl 4 rfl) ?_
              refine lv_if_ge (tgt := 122) hx hb dX12_walk_117 (by decide) (fun c_6185 => ?_) (fun c_6185 => ?_)
              · have b_6186 := z_fgeT c_6185
                refine lv_iload_n hx hb dX12_walk_122 rfl (lv_at hl 2 rfl) ?_
                refine lv_iload hx hb dX12_walk_123 (lv_at hl 5 rfl) ?_
                refine lv_aload_n hx hb dX12_walk_125 rfl (lv_at hl 0 rfl) ?_
                refine va_get (D := G) (ci := 12) (v := .ref a_c) (C := RX12) (T := TX12) (N := 65) hx hb hts inT12 hown hK hP 0 rfl rfl 20 (by decide) (hts _ tw_1905) (fun _ h9 => h9) rfl dX12_walk_126 ?_
                refine lv_bipush (v := 7) hx hb dX12_walk_129 (by decide) ?_
                refine va_iald hx hb hK hP 1 0 rfl rfl (z_in (i := 7) (n := 1825) (by decide +kernel) (by decide +kernel)) dX12_walk_131 ?_
                refine lv_topi (fun x_6187 he_x_6187 => ?_)
                have hr_x_6187 := z_ctk hC_g_c he_x_6187 (k := 7) (lo := 0) (hi := 99) (by decide +kernel) (by decide +kernel) (by decide +kernel)
                refine lv_imul hx hb dX12_walk_132 ?_
                have hL_v_6150 := z_full v_6150
                refine lv_topi (fun x_6188 he_x_6188 => ?_)
                refine lv_aload_n hx hb dX12_walk_133 rfl (lv_at hl 0 rfl) ?_
                refine va_get (D := G) (ci := 12) (v := .ref a_c) (C := RX12) (T := TX12) (N := 65) hx hb hts inT12 hown hK hP 0 rfl rfl 20 (by decide) (hts _ tw_1905) (fun _ h9 => h9) rfl dX12_walk_134 ?_
                refine lv_bipush (v := 6) hx hb dX12_walk_137 (by decide) ?_
                refine va_iald hx hb hK hP 1 0 rfl rfl (z_in (i := 6) (n := 1825) (by decide +kernel) (by decide +kernel)) dX12_walk_139 ?_
                refine lv_topi (fun x_6189 he_x_6189 => ?_)
                have hr_x_6189 := z_ctk hC_g_c he_x_6189 (k := 6) (lo := 0) (hi := 99) (by decide +kernel) (by decide +kernel) (by decide +kernel)
                refine lv_iadd hx hb dX12_walk_140 ?_
                have hL_x_6188 := z_full x_6188
                refine lv_topi (fun x_6190 he_x_6190 => ?_)
                refine lv_iadd hx hb dX12_walk_141 ?_
                have hL_v_5391 := z_full v_5391
                have hL_x_6190 := z_full x_6190
                refine lv_topi (fun x_6191 he_x_6191 => ?_)
                refine lv_istore_n (lv' := [(2, .int x_6191), (0, .ref h0), (1, .int v_5390), (3, .int v_5392), (4, .int v_6149), (5, .int v_6150), (6, .int v_6151)]) hx hb dX12_walk_142 rfl hl (by decide) rfl (fun ls hl => ?_)
                refine lv_iload hx hb dX12_walk_143 (lv_at hl 4 rfl) ?_
                refine lv_istore_n (lv' := [(1, .int v_6149), (2, .int x_6191), (0, .ref h0), (3, .int v_5392), (4, .int v_6149), (5, .int v_6150), (6, .int v_6151)]) hx hb dX12_walk_145 rfl hl (by decide) rfl (fun ls hl => ?_)
                obtain ⟨x_6192, he_x_6192⟩ : ∃ z : Int32, z = v_5392 + 1 := ⟨_, rfl⟩
                have hq_x_6192 := z_addq he_x_6192 (rfl : v_5392.toInt = _) hk_1 (by omega) (by omega)
                refine lv_iinc (v := x_6192) (lv' := [(3, .int x_6192), (1, .int v_6149), (2, .int x_6191), (0, .ref h0), (4, .int v_6149), (5, .int v_6150), (6, .int v_6151)]) hx hb dX12_walk_146 hl (k := 3) rfl ((z_ofi (by decide +kernel)).trans he_x_6192.symm) (by decide) rfl (fun ls hl => ?_)
                refine lv_goto (tgt := 6) hx hb dX12_walk_149 (by decide) ?_
                exact ih_5807 v_6149 x_6191 x_6192 H locs ls (by omega) (by omega) (by omega) hP hD hS (lv_sub hl [3, 1, 2, 0] rfl)
              · have b_6193 := z_fltF c_6185
                refine lv_iconst (v := (-1)) hx hb dX12_walk_120 (by decide) ?_
                exact hret _ _ _ _ _ _ () [0, 1, 2] hP hD hS rfl (by decide) dX12_walk_121 trivial
            · have b_6194 := z_fltF c_6183
              refine lv_iload hx hb dX12_walk_34 (lv_at hl 6 rfl) ?_
              refine lv_aload_n hx hb dX12_walk_36 rfl (lv_at hl 0 rfl) ?_
              refine va_get (D := G) (ci := 12) (v := .int m_thereMany) (C := RX12) (T := TX12) (N := 65) hx hb hts inT12 hown hK hP 0 rfl rfl 27 (by decide) (hts _ tw_1912) (fun _ h9 => h9) rfl dX12_walk_37 ?_
              refine lv_iload hx hb dX12_walk_40 (lv_at hl 6 rfl) ?_
              refine lv_isub hx hb dX12_walk_42 ?_
              refine lv_topi (fun x_6195 he_x_6195 => ?_)
              have hq_x_6195 := z_subq he_x_6195 (rfl : m_thereMany.toInt = _) (rfl : v_6151.toInt = _) (by omega) (by omega)
              refine z_callSi (As := [.int v_6151, .int x_6195]) (rest := []) (wr := [(h0, .inr (12, [.int m_status, .int m_thrown, .long m_above, .long m_under, .ref a_traySort, .ref a_trayMany, .ref a_numbers, .ref a_tape, .int m_taped, .int m_textEnd, .int m_faultKind, .int m_faultAt, .int m_bad, .int m_badAt, .int m_token, .int m_at, .int m_behind, .int m_number, .int m_letters, .long m_word, .ref a_c, .ref a_words, .int m_markMany, .ref a_there, .ref a_tried, .ref a_best, .ref a_found, .int m_thereMany, .int m_foundMany, .int m_orderHow, .int m_orderRing, .int m_orderMany, .int m_hasBest, .long m_bestTop, .long m_bestBy, .ref a_weights, .ref a_shared, .int m_random, .int m_truePlace, .int m_trueWay, .int m_seconds, .int m_done, .int m_feelings, .int m_tries, .int m_leftOver, .int m_playDoor, .int m_playRing, .int m_isOpen, .int m_isOver, .int m_wasTried, .int m_hasPlayed, .ref a_feltNow, .ref a_last, .ref a_kept, .int m_hasSeconds, .int m_hasTurned, .int m_hasRound, .ref a_hasFeels, .ref a_isOn, .int m_firstAct, .long m_meanTop, .long m_meanBy, .ref a_order, .int m_rowMany, .int m_newSteps])), (a_c, .inl (cA.1 0, 1825, .inl g_c)), (a_there, .inl (cA.1 0, 10, .inl g_there))]) ⟨hx, hb, hml, hown, hts⟩ hK hE hT hP hD hS hA (r_Ma_min l G cA v_6151 x_6195) lk_RX12_450 ⟨rfl, rfl⟩ ⟨Nat.le_of_ble_eq_true rfl, Nat.le_of_ble_eq_true rfl⟩ [] [0, 1, 2] rfl rfl (by decide) rfl hl.1 rfl (lv_room (Nat.le_of_ble_eq_true rfl)) dX12_walk_43 ⟨Nat.le_of_ble_eq_true rfl, Nat.le_of_ble_eq_true rfl⟩ (fun r_6196 u_6197 H locs hw hP hD hS => ?_)
              refine lv_istore (lv' := [(7, .int r_6196), (0, .ref h0), (1, .int v_5390), (2, .int v_5391), (3, .int v_5392), (4, .int v_6149), (5, .int v_6150), (6, .int v_6151)]) hx hb dX12_walk_46 hl (by decide) rfl (fun ls hl => ?_)
              refine lv_aload_n hx hb dX12_walk_48 rfl (lv_at hl 1 rfl) ?_
              refine lv_aload_n hx hb dX12_walk_49 rfl (lv_at hl 1 rfl) ?_
              refine va_get (D := G) (ci := 12) (v := .ref a_there) (C := RX12) (T := TX12) (N := 65) hx hb hts inT12 hown hK hP 0 rfl rfl 23 (by decide) (hts _ tw_1908) (fun _ h9 => h9) rfl dX12_walk_50 ?_
              refine lv_iload_n hx hb dX12_walk_53 rfl (lv_at hl 2 rfl) ?_
              refine lv_iload hx hb dX12_walk_54 (lv_at hl 7 rfl) ?_
              refine lv_iadd hx hb dX12_walk_56 ?_
              refine lv_topi (fun x_6198 he_x_6198 => ?_)
              have hq_x_6198 := z_addq he_x_6198 (rfl : v_5390.toInt = _) (rfl : v_6151.toInt = _) (by omega) (by omega)
              refine lv_aload_n hx hb dX12_walk_57 rfl (lv_at hl 1 rfl) ?_
              refine va_get (D := G) (ci := 12) (v := .int m_thereMany) (C := RX12) (T := TX12) (N := 65) hx hb hts inT12 hown hK hP 0 rfl rfl 27 (by decide) (hts _ tw_1912) (fun _ h9 => h9) rfl dX12_walk_58 ?_
              refine lv_irem hx hb dX12_walk_61 (z_nz (by omega)) ?_
              refine lv_topi (fun x_6199 he_x_6199 => ?_)
              have hr_x_6199 := z_remr he_x_6199 (by omega) (by omega)
              refine va_iald hx hb hK hP 2 0 rfl rfl (z_inN (by omega) (by omega)) dX12_walk_62 ?_
              refine lv_topi (fun x_6200 he_x_6200 => ?_)
              have hr_x_6200 := z_rg hC_g_there he_x_6200 (by omega) (by omega)
              refine lv_aload_n hx hb dX12_walk_63 rfl (lv_at hl 1 rfl) ?_
              refine va_get (D := G) (ci := 12) (v := .ref a_c) (C := RX12) (T := TX12) (N := 65) hx hb hts inT12 hown hK hP 0 rfl rfl 20 (by decide) (hts _ tw_1905) (fun _ h9 => h9) rfl dX12_walk_64 ?_
              refine lv_sipush (v := 138) hx hb dX12_walk_67 (by decide) ?_
              refine lv_iload_n hx hb dX12_walk_70 rfl (lv_at hl 4 rfl) ?_
              refine lv_iadd hx hb dX12_walk_71 ?_
              refine lv_topi (fun x_6201 he_x_6201 => ?_)
              have hq_x_6201 := z_addq he_x_6201 hk_138 (rfl : v_5392.toInt = _) (by omega) (by omega)
              refine va_iald hx hb hK hP 1 0 rfl rfl (z_inN (by omega) (by omega)) dX12_walk_72 ?_
              refine lv_topi (fun x_6202 he_x_6202 => ?_)
              have hr_x_6202 := z_ct hC_g_c he_x_6202 (a := 138) (b := 149) (lo := 0) (hi := 4) (by decide +kernel) (by decide) (by omega) (by omega)
              refine z_callVi (As := [.int x_6200, .int x_6202]) (rest := []) (wr := [(a_there, .inl (cA.1 0, 10, .inl g_there))]) ⟨hx, hb, hml, hown, hts⟩ hK hE hT hP hD hS hA (r_canOpen l G cA h0 m_status m_thrown m_above m_under a_traySort a_trayMany a_numbers a_tape m_taped m_textEnd m_faultKind m_faultAt m_bad m_badAt m_token m_at m_behind m_number m_letters m_word a_c a_words m_markMany a_there a_tried a_best a_found m_thereMany m_foundMany m_orderHow m_orderRing m_orderMany m_hasBest m_bestTop m_bestBy a_weights a_shared m_random m_truePlace m_trueWay m_seconds m_done m_feelings m_tries m_leftOver m_playDoor m_playRing m_isOpen m_isOver m_wasTried m_hasPlayed a_feltNow a_last a_kept m_hasSeconds m_hasTurned m_hasRound a_hasFeels a_isOn m_firstAct m_meanTop m_meanBy a_order m_rowMany m_newSteps g_c x_6200 x_6202 hr_x_6200 hr_x_6202 hC_g_c) lk_RX12_345 ⟨rfl, rfl⟩ ⟨Nat.le_of_ble_eq_true rfl, Nat.le_of_ble_eq_true rfl⟩ 12 rfl rfl rfl [0, 1] [2] rfl rfl (by decide) rfl hl.1 rfl (lv_room (Nat.le_of_ble_eq_true rfl)) dX12_walk_73 ⟨Nat.le_of_ble_eq_true rfl, Nat.le_of_ble_eq_true rfl⟩ (fun r_6203 u_6204 H locs hw hP hD hS => ?_)
              rcases hw with ⟨rfl, hf_6205⟩ | ⟨rfl, hf_6206⟩
              · skip
                refine lv_if_eq (tgt := 109) hx hb dX12_walk_76 (by decide) (fun _ => ?_) (fun h9 => absurd (by decide +kernel) h9)
                obtain ⟨x_6207, he_x_6207⟩ : ∃ z : Int32, z = v_6151 + 1 := ⟨_, rfl⟩
                have hq_x_6207 := z_addq he_x_6207 (rfl : v_6151.toInt = _) hk_1 (by omega) (by omega)
                refine lv_iinc (v := x_6207) (lv' := [(6, .int x_6207), (7, .int r_6196), (0, .ref h0), (1, .int v_5390), (2, .int v_5391), (3, .int v_5392), (4, .int v_6149), (5, .int v_6150)]) hx hb dX12_walk_109 hl (k := 7) rfl ((z_ofi (by decide +kernel)).trans he_x_6207.symm) (by decide) rfl (fun ls hl => ?_)
                refine lv_goto (tgt := 25) hx hb dX12_walk_112 (by decide) ?_
                have hP := hP.sub (ws' := [(h0, .inr (12, [.int m_status, .int m_thrown, .long m_above, .long m_under, .ref a_traySort, .ref a_trayMany, .ref a_numbers, .ref a_tape, .int m_taped, .int m_textEnd, .int m_faultKind, .int m_faultAt, .int m_bad, .int m_badAt, .int m_token, .int m_at, .int m_behind, .int m_number, .int m_letters, .long m_word, .ref a_c, .ref a_words, .int m_markMany, .ref a_there, .ref a_tried, .ref a_best, .ref a_found, .int m_thereMany, .int m_foundMany, .int m_orderHow, .int m_orderRing, .int m_orderMany, .int m_hasBest, .long m_bestTop, .long m_bestBy, .ref a_weights, .ref a_shared, .int m_random, .int m_truePlace, .int m_trueWay, .int m_seconds, .int m_done, .int m_feelings, .int m_tries, .int m_leftOver, .int m_playDoor, .int m_playRing, .int m_isOpen, .int m_isOver, .int m_wasTried, .int m_hasPlayed, .ref a_feltNow, .ref a_last, .ref a_kept, .int m_hasSeconds, .int m_hasTurned, .int m_hasRound, .ref a_hasFeels, .ref a_isOn, .int m_firstAct, .long m_meanTop, .long m_meanBy, .ref a_order, .int m_rowMany, .int m_newSteps])), (a_c, .inl (cA.1 0, 1825, .inl g_c)), (a_there, .inl (cA.1 0, 10, .inl g_there))]) [1, 2, 0] rfl
                have hD := hD.sub (ws' := [(h0, .inr (12, [.int m_status, .int m_thrown, .long m_above, .long m_under, .ref a_traySort, .ref a_trayMany, .ref a_numbers, .ref a_tape, .int m_taped, .int m_textEnd, .int m_faultKind, .int m_faultAt, .int m_bad, .int m_badAt, .int m_token, .int m_at, .int m_behind, .int m_number, .int m_letters, .long m_word, .ref a_c, .ref a_words, .int m_markMany, .ref a_there, .ref a_tried, .ref a_best, .ref a_found, .int m_thereMany, .int m_foundMany, .int m_orderHow, .int m_orderRing, .int m_orderMany, .int m_hasBest, .long m_bestTop, .long m_bestBy, .ref a_weights, .ref a_shared, .int m_random, .int m_truePlace, .int m_trueWay, .int m_seconds, .int m_done, .int m_feelings, .int m_tries, .int m_leftOver, .int m_playDoor, .int m_playRing, .int m_isOpen, .int m_isOver, .int m_wasTried, .int m_hasPlayed, .ref a_feltNow, .ref a_last, .ref a_kept, .int m_hasSeconds, .int m_hasTurned, .int m_hasRound, .ref a_hasFeels, .ref a_isOn, .int m_firstAct, .long m_meanTop, .long m_meanBy, .ref a_order, .int m_rowMany, .int m_newSteps])), (a_c, .inl (cA.1 0, 1825, .inl g_c)), (a_there, .inl (cA.1 0, 10, .inl g_there))]) [1, 2, 0] (by decide) rfl
                exact ih_6182 v_6149 v_6150 x_6207 H locs ls (by omega) hr_v_6149 (by omega) hP hD hS (lv_sub hl [2, 3, 4, 5, 6, 7, 0] rfl)
              · skip
                refine lv_if_eq (tgt := 109) hx hb dX12_walk_76 (by decide) (fun h9 => absurd h9 (by decide +kernel)) (fun _ => ?_)
                refine lv_iload hx hb dX12_walk_79 (lv_at hl 5 rfl) ?_
                refine lv_if_lt (tgt := 94) hx hb dX12_walk_81 (by decide) (fun c_6208 => ?_) (fun c_6208 => ?_)
                · have b_6209 := z_fltT c_6208
                  refine lv_iload_n hx hb dX12_walk_94 rfl (lv_at hl 2 rfl) ?_
                  refine lv_iload hx hb dX12_walk_95 (lv_at hl 7 rfl) ?_
                  refine lv_iadd hx hb dX12_walk_97 ?_
                  refine lv_topi (fun x_6210 he_x_6210 => ?_)
                  have hq_x_6210 := z_addq he_x_6210 (rfl : v_5390.toInt = _) (rfl : v_6151.toInt = _) (by omega) (by omega)
                  refine lv_aload_n hx hb dX12_walk_98 rfl (lv_at hl 1 rfl) ?_
                  refine va_get (D := G) (ci := 12) (v := .int m_thereMany) (C := RX12) (T := TX12) (N := 65) hx hb hts inT12 hown hK hP 1 rfl rfl 27 (by decide) (hts _ tw_1912) (fun _ h9 => h9) rfl dX12_walk_99 ?_
                  refine lv_irem hx hb dX12_walk_102 (z_nz (by omega)) ?_
                  refine lv_topi (fun x_6211 he_x_6211 => ?_)
                  have hr_x_6211 := z_remr he_x_6211 (by omega) (by omega)
                  refine lv_istore (lv' := [(4, .int x_6211), (7, .int r_6196), (0, .ref h0), (1, .int v_5390), (2, .int v_5391), (3, .int v_5392), (5, .int v_6150), (6, .int v_6151)]) hx hb dX12_walk_103 hl (by decide) rfl (fun ls hl => ?_)
                  refine lv_iload hx hb dX12_walk_105 (lv_at hl 1 rfl) ?_
                  refine lv_istore (lv' := [(5, .int r_6196), (4, .int x_6211), (7, .int r_6196), (0, .ref h0), (1, .int v_5390), (2, .int v_5391), (3, .int v_5392), (6, .int v_6151)]) hx hb dX12_walk_107 hl (by decide) rfl (fun ls hl => ?_)
                  obtain ⟨x_6212, he_x_6212⟩ : ∃ z : Int32, z = v_6151 + 1 := ⟨_, rfl⟩
                  have hq_x_6212 := z_addq he_x_6212 (rfl : v_6151.toInt = _) hk_1 (by omega) (by omega)
                  refine lv_iinc (v := x_6212) (lv' := [(6, .int x_6212), (5, .int r_6196), (4, .int x_6211), (7, .int r_6196), (0, .ref h0), (1, .int v_5390), (2, .int v_5391), (3, .int v_5392)]) hx hb dX12_walk_109 hl (k := 7) rfl ((z_ofi (by decide +kernel)).trans he_x_6212.symm) (by decide) rfl (fun ls hl => ?_)
                  refine lv_goto (tgt := 25) hx hb dX12_walk_112 (by decide) ?_
                  have hP := hP.sub (ws' := [(h0, .inr (12, [.int m_status, .int m_thrown, .long m_above, .long m_under, .ref a_traySort, .ref a_trayMany, .ref a_numbers, .ref a_tape, .int m_taped, .int m_textEnd, .int m_faultKind, .int m_faultAt, .int m_bad, .int m_badAt, .int m_token, .int m_at, .int m_behind, .int m_number, .int m_letters, .long m_word, .ref a_c, .ref a_words, .int m_markMany, .ref a_there, .ref a_tried, .ref a_best, .ref a_found, .int m_thereMany, .int m_foundMany, .int m_orderHow, .int m_orderRing, .int m_orderMany, .int m_hasBest, .long m_bestTop, .long m_bestBy, .ref a_weights, .ref a_shared, .int m_random, .int m_truePlace, .int m_trueWay, .int m_seconds, .int m_done, .int m_feelings, .int m_tries, .int m_leftOver, .int m_playDoor, .int m_playRing, .int m_isOpen, .int m_isOver, .int m_wasTried, .int m_hasPlayed, .ref a_feltNow, .ref a_last, .ref a_kept, .int m_hasSeconds, .int m_hasTurned, .int m_hasRound, .ref a_hasFeels, .ref a_isOn, .int m_firstAct, .long m_meanTop, .long m_meanBy, .ref a_order, .int m_rowMany, .int m_newSteps])), (a_c, .inl (cA.1 0, 1825, .inl g_c)), (a_there, .inl (cA.1 0, 10, .inl g_there))]) [1, 2, 0] rfl
                  have hD := hD.sub (ws' := [(h0, .inr (12, [.int m_status, .int m_thrown, .long m_above, .long m_under, .ref a_traySort, .ref a_trayMany, .ref a_numbers, .ref a_tape, .int m_taped, .int m_textEnd, .int m_faultKind, .int m_faultAt, .int m_bad, .int m_badAt, .int m_token, .int m_at, .int m_behind, .int m_number, .int m_letters, .long m_word, .ref a_c, .ref a_words, .int m_markMany, .ref a_there, .ref a_tried, .ref a_best, .ref a_found, .int m_thereMany, .int m_foundMany, .int m_orderHow, .int m_orderRing, .int m_orderMany, .int m_hasBest, .long m_bestTop, .long m_bestBy, .ref a_weights, .ref a_shared, .int m_random, .int m_truePlace, .int m_trueWay, .int m_seconds, .int m_done, .int m_feelings, .int m_tries, .int m_leftOver, .int m_playDoor, .int m_playRing, .int m_isOpen, .int m_isOver, .int m_wasTried, .int m_hasPlayed, .ref a_feltNow, .ref a_last, .ref a_kept, .int m_hasSeconds, .int m_hasTurned, .int m_hasRound, .ref a_hasFeels, .ref a_isOn, .int m_firstAct, .long m_meanTop, .long m_meanBy, .ref a_order, .int m_rowMany, .int m_newSteps])), (a_c, .inl (cA.1 0, 1825, .inl g_c)), (a_there, .inl (cA.1 0, 10, .inl g_there))]) [1, 2, 0] (by decide) rfl
                  exact ih_6182 x_6211 r_6196 x_6212 H locs ls (by omega) (by omega) (by omega) hP hD hS (lv_sub hl [4, 5, 6, 7, 2, 1, 0] rfl)
                · have b_6213 := z_fgeF c_6208
                  refine lv_iload hx hb dX12_walk_84 (lv_at hl 0 rfl) ?_
                  refine lv_iload hx hb dX12_walk_86 (lv_at hl 6 rfl) ?_
                  refine lv_icmp_lt (tgt := 94) hx hb dX12_walk_88 (by decide) (fun c_6214 => ?_) (fun c_6214 => ?_)
                  · have b_6215 := z_fltT c_6214
                    refine lv_iload_n hx hb dX12_walk_94 rfl (lv_at hl 2 rfl) ?_
                    refine lv_iload hx hb dX12_walk_95 (lv_at hl 7 rfl) ?_
                    refine lv_iadd hx hb dX12_walk_97 ?_
                    refine lv_topi (fun x_6216 he_x_6216 => ?_)
                    have hq_x_6216 := z_addq he_x_6216 (rfl : v_5390.toInt = _) (rfl : v_6151.toInt = _) (by omega) (by omega)
                    refine lv_aload_n hx hb dX12_walk_98 rfl (lv_at hl 1 rfl) ?_
                    refine va_get (D := G) (ci := 12) (v := .int m_thereMany) (C := RX12) (T := TX12) (N := 65) hx hb hts inT12 hown hK hP 1 rfl rfl 27 (by decide) (hts _ tw_1912) (fun _ h9 => h9) rfl dX12_walk_99 ?_
                    refine lv_irem hx hb dX12_walk_102 (z_nz (by omega)) ?_
                    refine lv_topi (fun x_6217 he_x_6217 => ?_)
                    have hr_x_6217 := z_remr he_x_6217 (by omega) (by omega)
                    refine lv_istore (lv' := [(4, .int x_6217), (7, .int r_6196), (0, .ref h0), (1, .int v_5390), (2, .int v_5391), (3, .int v_5392), (5, .int v_6150), (6, .int v_6151)]) hx hb dX12_walk_103 hl (by decide) rfl (fun ls hl => ?_)
                    refine lv_iload hx hb dX12_walk_105 (lv_at hl 1 rfl) ?_
                    refine lv_istore (lv' := [(5, .int r_6196), (4, .int x_6217), (7, .int r_6196), (0, .ref h0), (1, .int v_5390), (2, .int v_5391), (3, .int v_5392), (6, .int v_6151)]) hx hb dX12_walk_107 hl (by decide) rfl (fun ls hl => ?_)
                    obtain ⟨x_6218, he_x_6218⟩ : ∃ z : Int32, z = v_6151 + 1 := ⟨_, rfl⟩
                    have hq_x_6218 := z_addq he_x_6218 (rfl : v_6151.toInt = _) hk_1 (by omega) (by omega)
                    refine lv_iinc (v := x_6218) (lv' := [(6, .int x_6218), (5, .int r_6196), (4, .int x_6217), (7, .int r_6196), (0, .ref h0), (1, .int v_5390), (2, .int v_5391), (3, .int v_5392)]) hx hb dX12_walk_109 hl (k := 7) rfl ((z_ofi (by decide +kernel)).trans he_x_6218.symm) (by decide) rfl (fun ls hl => ?_)
                    refine lv_goto (tgt := 25) hx hb dX12_walk_112 (by decide) ?_
                    have hP := hP.sub (ws' := [(h0, .inr (12, [.int m_status, .int m_thrown, .long m_above, .long m_under, .ref a_traySort, .ref a_trayMany, .ref a_numbers, .ref a_tape, .int m_taped, .int m_textEnd, .int m_faultKind, .int m_faultAt, .int m_bad, .int m_badAt, .int m_token, .int m_at, .int m_behind, .int m_number, .int m_letters, .long m_word, .ref a_c, .ref a_words, .int m_markMany, .ref a_there, .ref a_tried, .ref a_best, .ref a_found, .int m_thereMany, .int m_foundMany, .int m_orderHow, .int m_orderRing, .int m_orderMany, .int m_hasBest, .long m_bestTop, .long m_bestBy, .ref a_weights, .ref a_shared, .int m_random, .int m_truePlace, .int m_trueWay, .int m_seconds, .int m_done, .int m_feelings, .int m_tries, .int m_leftOver, .int m_playDoor, .int m_playRing, .int m_isOpen, .int m_isOver, .int m_wasTried, .int m_hasPlayed, .ref a_feltNow, .ref a_last, .ref a_kept, .int m_hasSeconds, .int m_hasTurned, .int m_hasRound, .ref a_hasFeels, .ref a_isOn, .int m_firstAct, .long m_meanTop, .long m_meanBy, .ref a_order, .int m_rowMany, .int m_newSteps])), (a_c, .inl (cA.1 0, 1825, .inl g_c)), (a_there, .inl (cA.1 0, 10, .inl g_there))]) [1, 2, 0] rfl
                    have hD := hD.sub (ws' := [(h0, .inr (12, [.int m_status, .int m_thrown, .long m_above, .long m_under, .ref a_traySort, .ref a_trayMany, .ref a_numbers, .ref a_tape, .int m_taped, .int m_textEnd, .int m_faultKind, .int m_faultAt, .int m_bad, .int m_badAt, .int m_token, .int m_at, .int m_behind, .int m_number, .int m_letters, .long m_word, .ref a_c, .ref a_words, .int m_markMany, .ref a_there, .ref a_tried, .ref a_best, .ref a_found, .int m_thereMany, .int m_foundMany, .int m_orderHow, .int m_orderRing, .int m_orderMany, .int m_hasBest, .long m_bestTop, .long m_bestBy, .ref a_weights, .ref a_shared, .int m_random, .int m_truePlace, .int m_trueWay, .int m_seconds, .int m_done, .int m_feelings, .int m_tries, .int m_leftOver, .int m_playDoor, .int m_playRing, .int m_isOpen, .int m_isOver, .int m_wasTried, .int m_hasPlayed, .ref a_feltNow, .ref a_last, .ref a_kept, .int m_hasSeconds, .int m_hasTurned, .int m_hasRound, .ref a_hasFeels, .ref a_isOn, .int m_firstAct, .long m_meanTop, .long m_meanBy, .ref a_order, .int m_rowMany, .int m_newSteps])), (a_c, .inl (cA.1 0, 1825, .inl g_c)), (a_there, .inl (cA.1 0, 10, .inl g_there))]) [1, 2, 0] (by decide) rfl
                    exact ih_6182 x_6217 r_6196 x_6218 H locs ls (by omega) (by omega) (by omega) hP hD hS (lv_sub hl [4, 5, 6, 7, 2, 1, 0] rfl)
                  · have b_6219 := z_fgeF c_6214
                    refine lv_goto (tgt := 109) hx hb dX12_walk_91 (by decide) ?_
                    obtain ⟨x_6220, he_x_6220⟩ : ∃ z : Int32, z = v_6151 + 1 := ⟨_, rfl⟩
                    have hq_x_6220 := z_addq he_x_6220 (rfl : v_6151.toInt = _) hk_1 (by omega) (by omega)
                    refine lv_iinc (v := x_6220) (lv' := [(6, .int x_6220), (7, .int r_6196), (0, .ref h0), (1, .int v_5390), (2, .int v_5391), (3, .int v_5392), (4, .int v_6149), (5, .int v_6150)]) hx hb dX12_walk_109 hl (k := 7) rfl ((z_ofi (by decide +kernel)).trans he_x_6220.symm) (by decide) rfl (fun ls hl => ?_)
                    refine lv_goto (tgt := 25) hx hb dX12_walk_112 (by decide) ?_
                    have hP := hP.sub (ws' := [(h0, .inr (12, [.int m_status, .int m_thrown, .long m_above, .long m_under, .ref a_traySort, .ref a_trayMany, .ref a_numbers, .ref a_tape, .int m_taped, .int m_textEnd, .int m_faultKind, .int m_faultAt, .int m_bad, .int m_badAt, .int m_token, .int m_at, .int m_behind, .int m_number, .int m_letters, .long m_word, .ref a_c, .ref a_words, .int m_markMany, .ref a_there, .ref a_tried, .ref a_best, .ref a_found, .int m_thereMany, .int m_foundMany, .int m_orderHow, .int m_orderRing, .int m_orderMany, .int m_hasBest, .long m_bestTop, .long m_bestBy, .ref a_weights, .ref a_shared, .int m_random, .int m_truePlace, .int m_trueWay, .int m_seconds, .int m_done, .int m_feelings, .int m_tries, .int m_leftOver, .int m_playDoor, .int m_playRing, .int m_isOpen, .int m_isOver, .int m_wasTried, .int m_hasPlayed, .ref a_feltNow, .ref a_last, .ref a_kept, .int m_hasSeconds, .int m_hasTurned, .int m_hasRound, .ref a_hasFeels, .ref a_isOn, .int m_firstAct, .long m_meanTop, .long m_meanBy, .ref a_order, .int m_rowMany, .int m_newSteps])), (a_c, .inl (cA.1 0, 1825, .inl g_c)), (a_there, .inl (cA.1 0, 10, .inl g_there))]) [1, 2, 0] rfl
                    have hD := hD.sub (ws' := [(h0, .inr (12, [.int m_status, .int m_thrown, .long m_above, .long m_under, .ref a_traySort, .ref a_trayMany, .ref a_numbers, .ref a_tape, .int m_taped, .int m_textEnd, .int m_faultKind, .int m_faultAt, .int m_bad, .int m_badAt, .int m_token, .int m_at, .int m_behind, .int m_number, .int m_letters, .long m_word, .ref a_c, .ref a_words, .int m_markMany, .ref a_there, .ref a_tried, .ref a_best, .ref a_found, .int m_thereMany, .int m_foundMany, .int m_orderHow, .int m_orderRing, .int m_orderMany, .int m_hasBest, .long m_bestTop, .long m_bestBy, .ref a_weights, .ref a_shared, .int m_random, .int m_truePlace, .int m_trueWay, .int m_seconds, .int m_done, .int m_feelings, .int m_tries, .int m_leftOver, .int m_playDoor, .int m_playRing, .int m_isOpen, .int m_isOver, .int m_wasTried, .int m_hasPlayed, .ref a_feltNow, .ref a_last, .ref a_kept, .int m_hasSeconds, .int m_hasTurned, .int m_hasRound, .ref a_hasFeels, .ref a_isOn, .int m_firstAct, .long m_meanTop, .long m_meanBy, .ref a_order, .int m_rowMany, .int m_newSteps])), (a_c, .inl (cA.1 0, 1825, .inl g_c)), (a_there, .inl (cA.1 0, 10, .inl g_there))]) [1, 2, 0] (by decide) rfl
                    exact ih_6182 v_6149 v_6150 x_6220 H locs ls (by omega) hr_v_6149 (by omega) hP hD hS (lv_sub hl [2, 3, 4, 5, 6, 7, 0] rfl)
        exact hlp_6181 _ (-1) 0 0 _ _ _ (Nat.lt_succ_self _) (by decide +kernel) (by decide +kernel) hP hD hS (lv_sub hl [3, 4, 5, 6, 2, 1, 0] rfl)
  exact hlp_5806 _ 0 0 0 _ _ _ (Nat.lt_succ_self _) (by decide +kernel) (by decide +kernel) hP hD hS (lv_sub hl [3, 2, 1, 0] rfl)
