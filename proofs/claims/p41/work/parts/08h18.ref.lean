set_option maxHeartbeats 40000000 in
set_option maxRecDepth 100000 in
theorem r_readSeconds (l : Launch) (G : va_G) (cA : zCA) (h0 : Nat) (m_status : Int32) (m_thrown : Int32) (m_above : Int64) (m_under : Int64) (a_traySort : Nat) (a_trayMany : Nat) (a_numbers : Nat) (a_tape : Nat) (m_taped : Int32) (m_textEnd : Int32) (m_faultKind : Int32) (m_faultAt : Int32) (m_bad : Int32) (m_badAt : Int32) (m_token : Int32) (m_at : Int32) (m_behind : Int32) (m_number : Int32) (m_letters : Int32) (m_word : Int64) (a_c : Nat) (a_words : Nat) (m_markMany : Int32) (a_there : Nat) (a_tried : Nat) (a_best : Nat) (a_found : Nat) (m_thereMany : Int32) (m_foundMany : Int32) (m_orderHow : Int32) (m_orderRing : Int32) (m_orderMany : Int32) (m_hasBest : Int32) (m_bestTop : Int64) (m_bestBy : Int64) (a_weights : Nat) (a_shared : Nat) (m_random : Int32) (m_truePlace : Int32) (m_trueWay : Int32) (m_seconds : Int32) (m_done : Int32) (m_feelings : Int32) (m_tries : Int32) (m_leftOver : Int32) (m_playDoor : Int32) (m_playRing : Int32) (m_isOpen : Int32) (m_isOver : Int32) (m_wasTried : Int32) (m_hasPlayed : Int32) (a_feltNow : Nat) (a_last : Nat) (a_kept : Nat) (m_hasSeconds : Int32) (m_hasTurned : Int32) (m_hasRound : Int32) (a_hasFeels : Nat) (a_isOn : Nat) (m_firstAct : Int32) (m_meanTop : Int64) (m_meanBy : Int64) (a_order : Nat) (m_rowMany : Int32) (m_newSteps : Int32) (g_tape : Nat → Int32) (g_c : Nat → Int32) (g_isOn : Nat → Int32) (hr_m_textEnd : 0 ≤ m_textEnd.toInt ∧ m_textEnd.toInt ≤ 900) (hr_m_at : 0 ≤ m_at.toInt ∧ m_at.toInt ≤ 900) (hr_m_behind : 0 ≤ m_behind.toInt ∧ m_behind.toInt ≤ 900) (hr_m_bad : 0 ≤ m_bad.toInt ∧ m_bad.toInt ≤ 0) (hr_m_token : 0 ≤ m_token.toInt ∧ m_token.toInt ≤ 4) (hr_m_number : 0 ≤ m_number.toInt ∧ m_number.toInt ≤ 9999) (hr_m_letters : 0 ≤ m_letters.toInt ∧ m_letters.toInt ≤ 900) (hz_m_hasSeconds : m_hasSeconds = 0 ∨ m_hasSeconds = 1) (hC_g_c : zC g_c) (hC_g_isOn : zRg 10 0 1 g_isOn) (hNW0 : zNw g_c g_isOn) (hNF0 : zNf g_c) : zCv l yX12_readSeconds cX12_readSeconds 2 none ({ frames := 3, cells := 0, slots := 0, locals := 65 }) G cA [.ref h0] [(h0, .inr (12, [.int m_status, .int m_thrown, .long m_above, .long m_under, .ref a_traySort, .ref a_trayMany, .ref a_numbers, .ref a_tape, .int m_taped, .int m_textEnd, .int m_faultKind, .int m_faultAt, .int m_bad, .int m_badAt, .int m_token, .int m_at, .int m_behind, .int m_number, .int m_letters, .long m_word, .ref a_c, .ref a_words, .int m_markMany, .ref a_there, .ref a_tried, .ref a_best, .ref a_found, .int m_thereMany, .int m_foundMany, .int m_orderHow, .int m_orderRing, .int m_orderMany, .int m_hasBest, .long m_bestTop, .long m_bestBy, .ref a_weights, .ref a_shared, .int m_random, .int m_truePlace, .int m_trueWay, .int m_seconds, .int m_done, .int m_feelings, .int m_tries, .int m_leftOver, .int m_playDoor, .int m_playRing, .int m_isOpen, .int m_isOver, .int m_wasTried, .int m_hasPlayed, .ref a_feltNow, .ref a_last, .ref a_kept, .int m_hasSeconds, .int m_hasTurned, .int m_hasRound, .ref a_hasFeels, .ref a_isOn, .int m_firstAct, .long m_meanTop, .long m_meanBy, .ref a_order, .int m_rowMany, .int m_newSteps])), (a_tape, .inl (cA.1 2, 900, .inl g_tape)), (a_c, .inl (cA.1 0, 1825, .inl g_c)), (a_isOn, .inl (cA.1 3, 10, .inl g_isOn))] (S := Int32 × Int32 × Int32 × Int32 × Int32 × Int32 × Int32 × Int64 × Int32 × (Nat → Int32)) (fun (u : Int32 × Int32 × Int32 × Int32 × Int32 × Int32 × Int32 × Int64 × Int32 × (Nat → Int32)) => (u.1 = (F_r_readSeconds m_textEnd m_bad m_badAt m_token m_at m_behind m_number m_letters m_word m_hasSeconds g_tape g_c).1) ∧ (u.2.1 = (F_r_readSeconds m_textEnd m_bad m_badAt m_token m_at m_behind m_number m_letters m_word m_hasSeconds g_tape g_c).2.1) ∧ (u.2.2.1 = (F_r_readSeconds m_textEnd m_bad m_badAt m_token m_at m_behind m_number m_letters m_word m_hasSeconds g_tape g_c).2.2.1) ∧ (u.2.2.2.1 = (F_r_readSeconds m_textEnd m_bad m_badAt m_token m_at m_behind m_number m_letters m_word m_hasSeconds g_tape g_c).2.2.2.1) ∧ (u.2.2.2.2.1 = (F_r_readSeconds m_textEnd m_bad m_badAt m_token m_at m_behind m_number m_letters m_word m_hasSeconds g_tape g_c).2.2.2.2.1) ∧ (u.2.2.2.2.2.1 = (F_r_readSeconds m_textEnd m_bad m_badAt m_token m_at m_behind m_number m_letters m_word m_hasSeconds g_tape g_c).2.2.2.2.2.1) ∧ (u.2.2.2.2.2.2.1 = (F_r_readSeconds m_textEnd m_bad m_badAt m_token m_at m_behind m_number m_letters m_word m_hasSeconds g_tape g_c).2.2.2.2.2.2.1) ∧ (u.2.2.2.2.2.2.2.1 = (F_r_readSeconds m_textEnd m_bad m_badAt m_token m_at m_behind m_number m_letters m_word m_hasSeconds g_tape g_c).2.2.2.2.2.2.2.1) ∧ (u.2.2.2.2.2.2.2.2.1 = (F_r_readSeconds m_textEnd m_bad m_badAt m_token m_at m_behind m_number m_letters m_word m_hasSeconds g_tape g_c).2.2.2.2.2.2.2.2.1) ∧ (u.2.2.2.2.2.2.2.2.2 = (F_r_readSeconds m_textEnd m_bad m_badAt m_token m_at m_behind m_number m_letters m_word m_hasSeconds g_tape g_c).2.2.2.2.2.2.2.2.2) ∧ ((0 ≤ u.1.toInt ∧ u.1.toInt ≤ 9) ∧ (0 ≤ u.2.2.1.toInt ∧ u.2.2.1.toInt ≤ 4) ∧ (0 ≤ u.2.2.2.1.toInt ∧ u.2.2.2.1.toInt ≤ 900) ∧ (0 ≤ u.2.2.2.2.1.toInt ∧ u.2.2.2.2.1.toInt ≤ 900) ∧ (0 ≤ u.2.2.2.2.2.1.toInt ∧ u.2.2.2.2.2.1.toInt ≤ 9999) ∧ (0 ≤ u.2.2.2.2.2.2.1.toInt ∧ u.2.2.2.2.2.2.1.toInt ≤ 900) ∧ (u.2.2.2.2.2.2.2.2.1 = 0 ∨ u.2.2.2.2.2.2.2.2.1 = 1) ∧ (zC u.2.2.2.2.2.2.2.2.2) ∧ (zNw u.2.2.2.2.2.2.2.2.2 g_isOn) ∧ (m_behind.toInt ≤ u.2.2.2.2.1.toInt) ∧ (0 < m_bad.toInt → 0 < u.1.toInt) ∧ (u.1.toInt ≤ 0 → u.2.2.1.toInt = 0 ∨ m_behind.toInt < u.2.2.2.2.1.toInt) ∧ (u.1.toInt ≤ 0 → u.2.2.1.toInt = 3 → u.2.2.2.2.2.1.toInt = 59 → zNf u.2.2.2.2.2.2.2.2.2))) (fun (u : Int32 × Int32 × Int32 × Int32 × Int32 × Int32 × Int32 × Int64 × Int32 × (Nat → Int32)) => [(h0, .inr (12, [.int m_status, .int m_thrown, .long m_above, .long m_under, .ref a_traySort, .ref a_trayMany, .ref a_numbers, .ref a_tape, .int m_taped, .int m_textEnd, .int m_faultKind, .int m_faultAt, .int u.1, .int u.2.1, .int u.2.2.1, .int u.2.2.2.1, .int u.2.2.2.2.1, .int u.2.2.2.2.2.1, .int u.2.2.2.2.2.2.1, .long u.2.2.2.2.2.2.2.1, .ref a_c, .ref a_words, .int m_markMany, .ref a_there, .ref a_tried, .ref a_best, .ref a_found, .int m_thereMany, .int m_foundMany, .int m_orderHow, .int m_orderRing, .int m_orderMany, .int m_hasBest, .long m_bestTop, .long m_bestBy, .ref a_weights, .ref a_shared, .int m_random, .int m_truePlace, .int m_trueWay, .int m_seconds, .int m_done, .int m_feelings, .int m_tries, .int m_leftOver, .int m_playDoor, .int m_playRing, .int m_isOpen, .int m_isOver, .int m_wasTried, .int m_hasPlayed, .ref a_feltNow, .ref a_last, .ref a_kept, .int u.2.2.2.2.2.2.2.2.1, .int m_hasTurned, .int m_hasRound, .ref a_hasFeels, .ref a_isOn, .int m_firstAct, .long m_meanTop, .long m_meanBy, .ref a_order, .int m_rowMany, .int m_newSteps])), (a_tape, .inl (cA.1 2, 900, .inl g_tape)), (a_c, .inl (cA.1 0, 1825, .inl u.2.2.2.2.2.2.2.2.2)), (a_isOn, .inl (cA.1 3, 10, .inl g_isOn))]) 0 0 := by
  have hk_0 : (0 : Int32).toInt = 0 := by decide +kernel
  have hk_1 : (1 : Int32).toInt = 1 := by decide +kernel
  have hk_4 : (4 : Int32).toInt = 4 := by decide +kernel
  have hk_5 : (5 : Int32).toInt = 5 := by decide +kernel
  have hk_11 : (11 : Int32).toInt = 11 := by decide +kernel
  have hk_99 : (99 : Int32).toInt = 99 := by decide +kernel
  have hk_1465 : (1465 : Int32).toInt = 1465 := by decide +kernel
  refine z_start2v (own := RX12) (by decide) (Nat.le_of_ble_eq_true rfl) rfl ?_
  intro p e s m args below meth c A ls Q hx hb hml hts hown hK hE hT hP hD hS hA hl hret
  have hl : lv_has ls 2 [(0, .ref h0)] := hl
  refine lv_aload_n hx hb dX12_readSeconds_0 rfl (lv_at hl 0 rfl) ?_
  refine va_get (D := G) (ci := 12) (v := .int m_hasSeconds) (C := RX12) (T := TX12) (N := 65) hx hb hts inT12 hown hK hP 0 rfl rfl 54 (by decide) (hts _ tw_1937) (fun _ h9 => h9) rfl dX12_readSeconds_1 ?_
  refine lv_if_eq (tgt := 16) hx hb dX12_readSeconds_4 (by decide) (fun c_1 => ?_) (fun c_1 => ?_)
  · have b_2 := z_feqT c_1
    refine lv_aload_n hx hb dX12_readSeconds_16 rfl (lv_at hl 0 rfl) ?_
    refine va_get (D := G) (ci := 12) (v := .int m_bad) (C := RX12) (T := TX12) (N := 65) hx hb hts inT12 hown hK hP 0 rfl rfl 12 (by decide) (hts _ tw_1897) (fun _ h9 => h9) rfl dX12_readSeconds_17 ?_
    refine lv_if_le (tgt := 24) hx hb dX12_readSeconds_20 (by decide) (fun c_3 => ?_) (fun h9 => (z_no (by have h8 := z_fgtF h9; omega)))
    have b_4 := z_fleT c_3
    refine lv_aload_n hx hb dX12_readSeconds_24 rfl (lv_at hl 0 rfl) ?_
    refine lv_iconst (v := 1) hx hb dX12_readSeconds_25 (by decide) ?_
    refine va_put (D := G) (ci := 12) (v := .int 1) (ty := .boolean) (C := RX12) (T := TX12) (N := 65) hx hb hts inT12 tyX12 tyX12_ok nmX12 hown hK hP hD hS 0 rfl rfl 54 (by decide) (hts _ tw_1937) (fun _ h9 => h9) rfl (tyX12_ok 54 (by decide)) rfl rfl (Nat.le_of_ble_eq_true rfl) dX12_readSeconds_26 (fun H locs hP hD hS => ?_)
    refine lv_aload_n hx hb dX12_readSeconds_29 rfl (lv_at hl 0 rfl) ?_
    refine z_callVv (As := []) (rest := []) (wr := [(a_c, .inl (cA.1 0, 1825, .inl g_c)), (a_isOn, .inl (cA.1 3, 10, .inl g_isOn))]) ⟨hx, hb, hml, hown, hts⟩ hK hE hT hP hD hS hA (r_next2 l G cA h0 m_status m_thrown m_above m_under a_traySort a_trayMany a_numbers a_tape m_taped m_textEnd m_faultKind m_faultAt m_bad m_badAt m_token m_at m_behind m_number m_letters m_word a_c a_words m_markMany a_there a_tried a_best a_found m_thereMany m_foundMany m_orderHow m_orderRing m_orderMany m_hasBest m_bestTop m_bestBy a_weights a_shared m_random m_truePlace m_trueWay m_seconds m_done m_feelings m_tries m_leftOver m_playDoor m_playRing m_isOpen m_isOver m_wasTried m_hasPlayed a_feltNow a_last a_kept 1 m_hasTurned m_hasRound a_hasFeels a_isOn m_firstAct m_meanTop m_meanBy a_order m_rowMany m_newSteps g_tape hr_m_textEnd hr_m_at hr_m_behind hr_m_token hr_m_number hr_m_letters) lk_RX12_184 ⟨rfl, rfl⟩ ⟨Nat.le_of_ble_eq_true rfl, Nat.le_of_ble_eq_true rfl⟩ 12 rfl rfl rfl [0, 1] [2, 3] rfl rfl (by decide) rfl hl.1 rfl (lv_room (Nat.le_of_ble_eq_true rfl)) dX12_readSeconds_30 ⟨Nat.le_of_ble_eq_true rfl, Nat.le_of_ble_eq_true rfl⟩ (fun u_12 H locs hw hP hD hS => ?_)
    obtain ⟨n_5, n_6, n_7, n_8, n_9, n_10⟩ := u_12
    try dsimp only at hw
    obtain ⟨he_n_5, he_n_6, he_n_7, he_n_8, he_n_9, he_n_10, hw⟩ := hw
    obtain ⟨hr_n_5, hr_n_6, hr_n_7, hr_n_8, hr_n_9, hf_14, hf_15⟩ := hw
    refine lv_iconst (v := 0) hx hb dX12_readSeconds_33 (by decide) ?_
    refine lv_istore_n (lv' := [(1, .int 0), (0, .ref h0)]) hx hb dX12_readSeconds_34 rfl hl (by decide) rfl (fun ls hl => ?_)
    have hlp_563 : ∀ (n_L35a : Nat) (v_405 : Int32) (g_406 : Nat → Int32) (v_407 : Int32) (v_408 : Int32) (v_409 : Int32) (v_410 : Int32) (v_411 : Int32) (v_412 : Int32) (v_413 : Int32) (v_414 : Int64) (H : Heap) (locs : List Loc) (ls : Array Slot), (2147483647 - v_405.toInt).toNat < n_L35a → (0 ≤ v_405.toInt ∧ v_405.toInt ≤ 4) → (zC g_406) → (0 ≤ v_407.toInt ∧ v_407.toInt ≤ 9) → (0 ≤ v_409.toInt ∧ v_409.toInt ≤ 4) → (0 ≤ v_410.toInt ∧ v_410.toInt ≤ 900) → (0 ≤ v_411.toInt ∧ v_411.toInt ≤ 900) → (0 ≤ v_412.toInt ∧ v_412.toInt ≤ 9999) → (0 ≤ v_413.toInt ∧ v_413.toInt ≤ 900) → (zNw g_406 g_isOn) → (zNf g_406) → (m_behind.toInt ≤ v_411.toInt) → (v_407.toInt ≤ 0 → v_409.toInt = 0 ∨ m_behind.toInt < v_411.toInt) → (F_r_readSeconds m_textEnd m_bad m_badAt m_token m_at m_behind m_number m_letters m_word m_hasSeconds g_tape g_c = F_r_readSeconds_L35a m_textEnd g_tape n_L35a v_405 g_406 v_407 v_408 v_409 v_410 v_411 v_412 v_413 v_414) → va_P G vwCl [(a_c, .inl (cA.1 0, 1825, .inl g_406)), (a_isOn, .inl (cA.1 3, 10, .inl g_isOn)), (h0, .inr (12, [.int m_status, .int m_thrown, .long m_above, .long m_under, .ref a_traySort, .ref a_trayMany, .ref a_numbers, .ref a_tape, .int m_taped, .int m_textEnd, .int m_faultKind, .int m_faultAt, .int v_407, .int v_408, .int v_409, .int v_410, .int v_411, .int v_412, .int v_413, .long v_414, .ref a_c, .ref a_words, .int m_markMany, .ref a_there, .ref a_tried, .ref a_best, .ref a_found, .int m_thereMany, .int m_foundMany, .int m_orderHow, .int m_orderRing, .int m_orderMany, .int m_hasBest, .long m_bestTop, .long m_bestBy, .ref a_weights, .ref a_shared, .int m_random, .int m_truePlace, .int m_trueWay, .int m_seconds, .int m_done, .int m_feelings, .int m_tries, .int m_leftOver, .int m_playDoor, .int m_playRing, .int m_isOpen, .int m_isOver, .int m_wasTried, .int m_hasPlayed, .ref a_feltNow, .ref a_last, .ref a_kept, .int 1, .int m_hasTurned, .int m_hasRound, .ref a_hasFeels, .ref a_isOn, .int m_firstAct, .long m_meanTop, .long m_meanBy, .ref a_order, .int m_rowMany, .int m_newSteps])), (a_tape, .inl (cA.1 2, 900, .inl g_tape))] H → va_D A [(a_c, .inl (cA.1 0, 1825, .inl g_406)), (a_isOn, .inl (cA.1 3, 10, .inl g_isOn)), (h0, .inr (12, [.int m_status, .int m_thrown, .long m_above, .long m_under, .ref a_traySort, .ref a_trayMany, .ref a_numbers, .ref a_tape, .int m_taped, .int m_textEnd, .int m_faultKind, .int m_faultAt, .int v_407, .int v_408, .int v_409, .int v_410, .int v_411, .int v_412, .int v_413, .long v_414, .ref a_c, .ref a_words, .int m_markMany, .ref a_there, .ref a_tried, .ref a_best, .ref a_found, .int m_thereMany, .int m_foundMany, .int m_orderHow, .int m_orderRing, .int m_orderMany, .int m_hasBest, .long m_bestTop, .long m_bestBy, .ref a_weights, .ref a_shared, .int m_random, .int m_truePlace, .int m_trueWay, .int m_seconds, .int m_done, .int m_feelings, .int m_tries, .int m_leftOver, .int m_playDoor, .int m_playRing, .int m_isOpen, .int m_isOver, .int m_wasTried, .int m_hasPlayed, .ref a_feltNow, .ref a_last, .ref a_kept, .int 1, .int m_hasTurned, .int m_hasRound, .ref a_hasFeels, .ref a_isOn, .int m_firstAct, .long m_meanTop, .long m_meanBy, .ref a_order, .int m_rowMany, .int m_newSteps])), (a_tape, .inl (cA.1 2, 900, .inl g_tape))] → va_S A s.heap H locs → lv_has ls 2 [(0, .ref h0), (1, .int v_405)] → W p l e ({ frames := 3, cells := 0, slots := 0, locals := 65 }) s m args below meth c H locs 0 0 Q (F0 m 35 ls []) := by
      intro n_L35a
      induction n_L35a with
      | zero =>
        intro v_405 g_406 v_407 v_408 v_409 v_410 v_411 v_412 v_413 v_414 H locs ls hmu_hlp_563 hr_v_405 hC_g_406 hr_v_407 hr_v_409 hr_v_410 hr_v_411 hr_v_412 hr_v_413 hs_487 hs_488 hi_489 hi_490 hF_L35a hP hD hS hl
        exact absurd hmu_hlp_563 (Nat.not_lt_zero _)
      | succ n_L35a ih_564 =>
        intro v_405 g_406 v_407 v_408 v_409 v_410 v_411 v_412 v_413 v_414 H locs ls hmu_hlp_563 hr_v_405 hC_g_406 hr_v_407 hr_v_409 hr_v_410 hr_v_411 hr_v_412 hr_v_413 hs_487 hs_488 hi_489 hi_490 hF_L35a hP hD hS hl
        refine lv_iload_n hx hb dX12_readSeconds_35 rfl (lv_at hl 1 rfl) ?_
        refine lv_iconst (v := 4) hx hb dX12_readSeconds_36 (by decide) ?_
        refine lv_icmp_ge (tgt := 83) hx hb dX12_readSeconds_37 (by decide) (fun c_565 => ?_) (fun c_565 => ?_)
        · have b_566 := z_fgeT c_565
          have hpost : (0 ≤ v_407.toInt ∧ v_407.toInt ≤ 9) ∧ (0 ≤ v_409.toInt ∧ v_409.toInt ≤ 4) ∧ (0 ≤ v_410.toInt ∧ v_410.toInt ≤ 900) ∧ (0 ≤ v_411.toInt ∧ v_411.toInt ≤ 900) ∧ (0 ≤ v_412.toInt ∧ v_412.toInt ≤ 9999) ∧ (0 ≤ v_413.toInt ∧ v_413.toInt ≤ 900) ∧ ((1 : Int32) = 0 ∨ (1 : Int32) = 1) ∧ (zC g_406) ∧ (zNw g_406 g_isOn) ∧ (m_behind.toInt ≤ v_411.toInt) ∧ (0 < m_bad.toInt → 0 < v_407.toInt) ∧ (v_407.toInt ≤ 0 → v_409.toInt = 0 ∨ m_behind.toInt < v_411.toInt) ∧ (v_407.toInt ≤ 0 → v_409.toInt = 3 → v_412.toInt = 59 → zNf g_406) := ⟨hr_v_407, hr_v_409, hr_v_410, hr_v_411, hr_v_412, hr_v_413, (Or.inr rfl), hC_g_406, hs_487, (by omega), (by omega), (by omega), (fun _ _ _ => hs_488)⟩
          have hX_567 : F_r_readSeconds m_textEnd m_bad m_badAt m_token m_at m_behind m_number m_letters m_word m_hasSeconds g_tape g_c = ((v_407, v_408, v_409, v_410, v_411, v_412, v_413, v_414, (1 : Int32), g_406) : Int32 × Int32 × Int32 × Int32 × Int32 × Int32 × Int32 × Int64 × Int32 × (Nat → Int32)) := by
            refine hF_L35a.trans ?_
            refine (F_r_readSeconds_L35a_s ..).trans ?_
            refine (if_pos c_565).trans ?_
            exact rfl
          exact hret _ _ _ _ _ (v_407, v_408, v_409, v_410, v_411, v_412, v_413, v_414, 1, g_406) [2, 3, 0, 1] hP hD hS rfl (by decide) dX12_readSeconds_83 ⟨(congrArg (fun z9 => z9.1) hX_567).symm, (congrArg (fun z9 => z9.2.1) hX_567).symm, (congrArg (fun z9 => z9.2.2.1) hX_567).symm, (congrArg (fun z9 => z9.2.2.2.1) hX_567).symm, (congrArg (fun z9 => z9.2.2.2.2.1) hX_567).symm, (congrArg (fun z9 => z9.2.2.2.2.2.1) hX_567).symm, (congrArg (fun z9 => z9.2.2.2.2.2.2.1) hX_567).symm, (congrArg (fun z9 => z9.2.2.2.2.2.2.2.1) hX_567).symm, (congrArg (fun z9 => z9.2.2.2.2.2.2.2.2.1) hX_567).symm, (congrArg (fun z9 => z9.2.2.2.2.2.2.2.2.2) hX_567).symm, hpost⟩
        · have b_568 := z_fltF c_565
          refine lv_aload_n hx hb dX12_readSeconds_40 rfl (lv_at hl 0 rfl) ?_
          refine lv_aload_n hx hb dX12_readSeconds_41 rfl (lv_at hl 0 rfl) ?_
          refine z_callVi (As := []) (rest := [.ref h0]) (wr := [(a_c, .inl (cA.1 0, 1825, .inl g_406)), (a_isOn, .inl (cA.1 3, 10, .inl g_isOn)), (a_tape, .inl (cA.1 2, 900, .inl g_tape))]) ⟨hx, hb, hml, hown, hts⟩ hK hE hT hP hD hS hA (r_houseWord l G cA h0 m_status m_thrown m_above m_under a_traySort a_trayMany a_numbers a_tape m_taped m_textEnd m_faultKind m_faultAt v_407 v_408 v_409 v_410 v_411 v_412 v_413 v_414 a_c a_words m_markMany a_there a_tried a_best a_found m_thereMany m_foundMany m_orderHow m_orderRing m_orderMany m_hasBest m_bestTop m_bestBy a_weights a_shared m_random m_truePlace m_trueWay m_seconds m_done m_feelings m_tries m_leftOver m_playDoor m_playRing m_isOpen m_isOver m_wasTried m_hasPlayed a_feltNow a_last a_kept 1 m_hasTurned m_hasRound a_hasFeels a_isOn m_firstAct m_meanTop m_meanBy a_order m_rowMany m_newSteps hr_v_409) lk_RX12_170 ⟨rfl, rfl⟩ ⟨Nat.le_of_ble_eq_true rfl, Nat.le_of_ble_eq_true rfl⟩ 12 rfl rfl rfl [2] [0, 1, 3] rfl rfl (by decide) rfl hl.1 rfl (lv_room (Nat.le_of_ble_eq_true rfl)) dX12_readSeconds_42 ⟨Nat.le_of_ble_eq_true rfl, Nat.le_of_ble_eq_true rfl⟩ (fun r_569 u_570 H locs hw hP hD hS => ?_)
          obtain ⟨he_r_569, hw⟩ := hw
          obtain ⟨hr_r_569, hf_572⟩ := hw
          refine lv_bipush (v := 11) hx hb dX12_readSeconds_45 (by decide) ?_
          refine lv_iload_n hx hb dX12_readSeconds_47 rfl (lv_at hl 1 rfl) ?_
          refine lv_iadd hx hb dX12_readSeconds_48 ?_
          refine lv_topi (fun x_573 he_x_573 => ?_)
          have hq_x_573 := z_addq he_x_573 hk_11 (rfl : v_405.toInt = _) (by omega) (by omega)
          refine lv_icmp_ne (tgt := 56) hx hb dX12_readSeconds_49 (by decide) (fun c_574 => ?_) (fun c_574 => ?_)
          · have b_575 := z_fneT c_574
            refine lv_iconst (v := 0) hx hb dX12_readSeconds_56 (by decide) ?_
            refine z_callVv (As := [.int 0]) (rest := []) (wr := [(a_c, .inl (cA.1 0, 1825, .inl g_406)), (a_isOn, .inl (cA.1 3, 10, .inl g_isOn)), (a_tape, .inl (cA.1 2, 900, .inl g_tape))]) ⟨hx, hb, hml, hown, hts⟩ hK hE hT hP hD hS hA (r_must_0 l G cA h0 m_status m_thrown m_above m_under a_traySort a_trayMany a_numbers a_tape m_taped m_textEnd m_faultKind m_faultAt v_407 v_408 v_409 v_410 v_411 v_412 v_413 v_414 a_c a_words m_markMany a_there a_tried a_best a_found m_thereMany m_foundMany m_orderHow m_orderRing m_orderMany m_hasBest m_bestTop m_bestBy a_weights a_shared m_random m_truePlace m_trueWay m_seconds m_done m_feelings m_tries m_leftOver m_playDoor m_playRing m_isOpen m_isOver m_wasTried m_hasPlayed a_feltNow a_last a_kept 1 m_hasTurned m_hasRound a_hasFeels a_isOn m_firstAct m_meanTop m_meanBy a_order m_rowMany m_newSteps hr_v_410 hr_v_407 hr_v_409) lk_RX12_210 ⟨rfl, rfl⟩ ⟨Nat.le_of_ble_eq_true rfl, Nat.le_of_ble_eq_true rfl⟩ 12 rfl rfl rfl [3] [0, 1, 2] rfl rfl (by decide) rfl hl.1 rfl (lv_room (Nat.le_of_ble_eq_true rfl)) dX12_readSeconds_57 ⟨Nat.le_of_ble_eq_true rfl, Nat.le_of_ble_eq_true rfl⟩ (fun u_579 H locs hw hP hD hS => ?_)
            obtain ⟨n_576, n_577⟩ := u_579
            try dsimp only at hw
            obtain ⟨he_n_576, he_n_577, hw⟩ := hw
            have hr_n_576 := hw
            refine lv_aload_n hx hb dX12_readSeconds_60 rfl (lv_at hl 0 rfl) ?_
            refine va_get (D := G) (ci := 12) (v := .ref a_c) (C := RX12) (T := TX12) (N := 65) hx hb hts inT12 hown hK hP 3 rfl rfl 20 (by decide) (hts _ tw_1905) (fun _ h9 => h9) rfl dX12_readSeconds_61 ?_
            refine lv_sipush (v := 1465) hx hb dX12_readSeconds_64 (by decide) ?_
            refine lv_iload_n hx hb dX12_readSeconds_67 rfl (lv_at hl 1 rfl) ?_
            refine lv_iadd hx hb dX12_readSeconds_68 ?_
            refine lv_topi (fun x_581 he_x_581 => ?_)
            have hq_x_581 := z_addq he_x_581 hk_1465 (rfl : v_405.toInt = _) (by omega) (by omega)
            refine lv_aload_n hx hb dX12_readSeconds_69 rfl (lv_at hl 0 rfl) ?_
            refine lv_iconst (v := 1) hx hb dX12_readSeconds_70 (by decide) ?_
            refine lv_bipush (v := 99) hx hb dX12_readSeconds_71 (by decide) ?_
            refine z_callVi (As := [.int 1, .int 99]) (rest := [.int x_581, .ref a_c]) (wr := [(a_c, .inl (cA.1 0, 1825, .inl g_406)), (a_isOn, .inl (cA.1 3, 10, .inl g_isOn))]) ⟨hx, hb, hml, hown, hts⟩ hK hE hT hP hD hS hA (r_count l G cA h0 m_status m_thrown m_above m_under a_traySort a_trayMany a_numbers a_tape m_taped m_textEnd m_faultKind m_faultAt n_576 n_577 v_409 v_410 v_411 v_412 v_413 v_414 a_c a_words m_markMany a_there a_tried a_best a_found m_thereMany m_foundMany m_orderHow m_orderRing m_orderMany m_hasBest m_bestTop m_bestBy a_weights a_shared m_random m_truePlace m_trueWay m_seconds m_done m_feelings m_tries m_leftOver m_playDoor m_playRing m_isOpen m_isOver m_wasTried m_hasPlayed a_feltNow a_last a_kept 1 m_hasTurned m_hasRound a_hasFeels a_isOn m_firstAct m_meanTop m_meanBy a_order m_rowMany m_newSteps g_tape 1 99 (by decide +kernel) (by decide +kernel) hr_m_textEnd hr_v_410 hr_v_411 (z_rgw hr_n_576 (by decide) (by decide)) hr_v_409 hr_v_412 hr_v_413) lk_RX12_214 ⟨rfl, rfl⟩ ⟨Nat.le_of_ble_eq_true rfl, Nat.le_of_ble_eq_true rfl⟩ 12 rfl rfl rfl [3, 2] [0, 1] rfl rfl (by decide) rfl hl.1 rfl (lv_room (Nat.le_of_ble_eq_true rfl)) dX12_readSeconds_73 ⟨Nat.le_of_ble_eq_true rfl, Nat.le_of_ble_eq_true rfl⟩ (fun r_590 u_591 H locs hw hP hD hS => ?_)
            obtain ⟨n_582, n_583, n_584, n_585, n_586, n_587, n_588, n_589⟩ := u_591
            try dsimp only at hw
            obtain ⟨he_r_590, he_n_582, he_n_583, he_n_584, he_n_585, he_n_586, he_n_587, he_n_588, he_n_589, hw⟩ := hw
            obtain ⟨hr_r_590, hr_n_582, hr_n_584, hr_n_585, hr_n_586, hr_n_587, hr_n_588, hf_593, hf_594, hf_595, hf_596, hf_597, hf_598⟩ := hw
            refine z_iast hx hb hK hP hD hS 0 0 rfl rfl (z_inN (by omega) (by omega)) dX12_readSeconds_76 (fun g_599 hg_g_599 H locs hP hD hS => ?_)
            have hC_g_599 := z_ctU hC_g_406 hg_g_599 (a := 1465) (b := 1468) (lo := 0) (hi := 99) (by decide +kernel) (by decide +kernel) (by omega) (by omega) (by omega)
            have hs_600 : zNw g_599 g_isOn := (zNw_fr hs_487 hg_g_599 (a := 1465) (b := 1468) (by decide +kernel) (by omega) (by omega))
            have hs_601 : zNf g_599 := (zNf_fr hs_488 hg_g_599 (a := 1465) (b := 1468) (by decide +kernel) (by omega) (by omega))
            obtain ⟨x_602, he_x_602⟩ : ∃ z : Int32, z = v_405 + 1 := ⟨_, rfl⟩
            have hq_x_602 := z_addq he_x_602 (rfl : v_405.toInt = _) hk_1 (by omega) (by omega)
            refine lv_iinc (v := x_602) (lv' := [(1, .int x_602), (0, .ref h0)]) hx hb dX12_readSeconds_77 hl (k := 1) rfl ((z_ofi (by decide +kernel)).trans he_x_602.symm) (by decide) rfl (fun ls hl => ?_)
            refine lv_goto (tgt := 35) hx hb dX12_readSeconds_80 (by decide) ?_
            have hX_603 : F_r_readSeconds m_textEnd m_bad m_badAt m_token m_at m_behind m_number m_letters m_word m_hasSeconds g_tape g_c = F_r_readSeconds_L35a m_textEnd g_tape n_L35a x_602 g_599 n_582 n_583 n_584 n_585 n_586 n_587 n_588 n_589 := by
              refine hF_L35a.trans ?_
              refine (F_r_readSeconds_L35a_s ..).trans ?_
              refine (if_neg c_565).trans ?_
              extract_lets -merge -useContext +onlyGivenNames w9 y9; have e9 : r_569 = w9 := he_r_569; clear_value w9; subst e9
              try (extract_lets -merge -useContext +onlyGivenNames y9; have e9 : x_573 = y9 := (by first | exact he_x_573 | exact he_x_573.symm); clear_value y9; subst e9)
              refine (if_neg c_574).trans ?_
              extract_lets -merge -useContext +onlyGivenNames w9 y4_0 y4_1; have e9 : (n_576, n_577) = w9 := ((z_tS he_n_576 he_n_577.symm)).symm; clear_value w9; subst e9
              try (extract_lets -merge -useContext +onlyGivenNames y9; have e9 : x_581 = y9 := (by first | exact he_x_581 | exact he_x_581.symm); clear_value y9; subst e9)
              extract_lets -merge -useContext +onlyGivenNames w9 y6_0 y6_1 y6_2 y6_3 y6_4 y6_5 y6_6 y6_7 y6_8; have e9 : (r_590, n_582, n_583, n_584, n_585, n_586, n_587, n_588, n_589) = w9 := ((z_tS he_r_590 (z_tS he_n_582 (z_tS he_n_583 (z_tS he_n_584 (z_tS he_n_585 (z_tS he_n_586 (z_tS he_n_587 (z_tS he_n_588 he_n_589.symm))))))))).symm; clear_value w9; subst e9
              try (extract_lets -merge -useContext +onlyGivenNames y9; have e9 : g_599 = y9 := (by first | exact hg_g_599 | exact hg_g_599.symm); clear_value y9; subst e9)
              try (extract_lets -merge -useContext +onlyGivenNames y9; have e9 : x_602 = y9 := (by first | exact he_x_602 | exact he_x_602.symm); clear_value y9; subst e9)
              exact rfl
            exact ih_564 x_602 g_599 n_582 n_583 n_584 n_585 n_586 n_587 n_588 n_589 H locs ls (by omega) (by omega) hC_g_599 hr_n_582 hr_n_584 hr_n_585 hr_n_586 hr_n_587 hr_n_588 hs_600 hs_601 (by omega) (by omega) hX_603 hP hD hS (lv_sub hl [1, 0] rfl)
          · have b_604 := z_feqF c_574
            refine lv_iconst (v := 1) hx hb dX12_readSeconds_52 (by decide) ?_
            refine lv_goto (tgt := 57) hx hb dX12_readSeconds_53 (by decide) ?_
            refine z_callVv (As := [.int 1]) (rest := []) (wr := [(a_c, .inl (cA.1 0, 1825, .inl g_406)), (a_isOn, .inl (cA.1 3, 10, .inl g_isOn))]) ⟨hx, hb, hml, hown, hts⟩ hK hE hT hP hD hS hA (r_must_1 l G cA h0 m_status m_thrown m_above m_under a_traySort a_trayMany a_numbers a_tape m_taped m_textEnd m_faultKind m_faultAt v_407 v_408 v_409 v_410 v_411 v_412 v_413 v_414 a_c a_words m_markMany a_there a_tried a_best a_found m_thereMany m_foundMany m_orderHow m_orderRing m_orderMany m_hasBest m_bestTop m_bestBy a_weights a_shared m_random m_truePlace m_trueWay m_seconds m_done m_feelings m_tries m_leftOver m_playDoor m_playRing m_isOpen m_isOver m_wasTried m_hasPlayed a_feltNow a_last a_kept 1 m_hasTurned m_hasRound a_hasFeels a_isOn m_firstAct m_meanTop m_meanBy a_order m_rowMany m_newSteps g_tape hr_m_textEnd hr_v_410 hr_v_411 hr_v_407 hr_v_409 hr_v_412 hr_v_413) lk_RX12_210 ⟨rfl, rfl⟩ ⟨Nat.le_of_ble_eq_true rfl, Nat.le_of_ble_eq_true rfl⟩ 12 rfl rfl rfl [3, 2] [0, 1] rfl rfl (by decide) rfl hl.1 rfl (lv_room (Nat.le_of_ble_eq_true rfl)) dX12_readSeconds_57 ⟨Nat.le_of_ble_eq_true rfl, Nat.le_of_ble_eq_true rfl⟩ (fun u_612 H locs hw hP hD hS => ?_)
            obtain ⟨n_605, n_606, n_607, n_608, n_609, n_610⟩ := u_612
            try dsimp only at hw
            obtain ⟨he_n_605, he_n_606, he_n_607, he_n_608, he_n_609, he_n_610, hw⟩ := hw
            obtain ⟨hr_n_605, hr_n_606, hr_n_607, hr_n_608, hr_n_609, hf_614, hf_615, hf_616⟩ := hw
            refine lv_aload_n hx hb dX12_readSeconds_60 rfl (lv_at hl 0 rfl) ?_
            refine va_get (D := G) (ci := 12) (v := .ref a_c) (C := RX12) (T := TX12) (N := 65) hx hb hts inT12 hown hK hP 2 rfl rfl 20 (by decide) (hts _ tw_1905) (fun _ h9 => h9) rfl dX12_readSeconds_61 ?_
            refine lv_sipush (v := 1465) hx hb dX12_readSeconds_64 (by decide) ?_
            refine lv_iload_n hx hb dX12_readSeconds_67 rfl (lv_at hl 1 rfl) ?_
            refine lv_iadd hx hb dX12_readSeconds_68 ?_
            refine lv_topi (fun x_617 he_x_617 => ?_)
            have hq_x_617 := z_addq he_x_617 hk_1465 (rfl : v_405.toInt = _) (by omega) (by omega)
            refine lv_aload_n hx hb dX12_readSeconds_69 rfl (lv_at hl 0 rfl) ?_
            refine lv_iconst (v := 1) hx hb dX12_readSeconds_70 (by decide) ?_
            refine lv_bipush (v := 99) hx hb dX12_readSeconds_71 (by decide) ?_
            refine z_callVi (As := [.int 1, .int 99]) (rest := [.int x_617, .ref a_c]) (wr := [(a_c, .inl (cA.1 0, 1825, .inl g_406)), (a_isOn, .inl (cA.1 3, 10, .inl g_isOn))]) ⟨hx, hb, hml, hown, hts⟩ hK hE hT hP hD hS hA (r_count l G cA h0 m_status m_thrown m_above m_under a_traySort a_trayMany a_numbers a_tape m_taped m_textEnd m_faultKind m_faultAt v_407 v_408 n_605 n_606 n_607 n_608 n_609 n_610 a_c a_words m_markMany a_there a_tried a_best a_found m_thereMany m_foundMany m_orderHow m_orderRing m_orderMany m_hasBest m_bestTop m_bestBy a_weights a_shared m_random m_truePlace m_trueWay m_seconds m_done m_feelings m_tries m_leftOver m_playDoor m_playRing m_isOpen m_isOver m_wasTried m_hasPlayed a_feltNow a_last a_kept 1 m_hasTurned m_hasRound a_hasFeels a_isOn m_firstAct m_meanTop m_meanBy a_order m_rowMany m_newSteps g_tape 1 99 (by decide +kernel) (by decide +kernel) hr_m_textEnd hr_n_606 hr_n_607 hr_v_407 hr_n_605 hr_n_608 hr_n_609) lk_RX12_214 ⟨rfl, rfl⟩ ⟨Nat.le_of_ble_eq_true rfl, Nat.le_of_ble_eq_true rfl⟩ 12 rfl rfl rfl [2, 3] [0, 1] rfl rfl (by decide) rfl hl.1 rfl (lv_room (Nat.le_of_ble_eq_true rfl)) dX12_readSeconds_73 ⟨Nat.le_of_ble_eq_true rfl, Nat.le_of_ble_eq_true rfl⟩ (fun r_626 u_627 H locs hw hP hD hS => ?_)
            obtain ⟨n_618, n_619, n_620, n_621, n_622, n_623, n_624, n_625⟩ := u_627
            try dsimp only at hw
            obtain ⟨he_r_626, he_n_618, he_n_619, he_n_620, he_n_621, he_n_622, he_n_623, he_n_624, he_n_625, hw⟩ := hw
            obtain ⟨hr_r_626, hr_n_618, hr_n_620, hr_n_621, hr_n_622, hr_n_623, hr_n_624, hf_629, hf_630, hf_631, hf_632, hf_633, hf_634⟩ := hw
            refine z_iast hx hb hK hP hD hS 0 0 rfl rfl (z_inN (by omega) (by omega)) dX12_readSeconds_76 (fun g_635 hg_g_635 H locs hP hD hS => ?_)
            have hC_g_635 := z_ctU hC_g_406 hg_g_635 (a := 1465) (b := 1468) (lo := 0) (hi := 99) (by decide +kernel) (by decide +kernel) (by omega) (by omega) (by omega)
            have hs_636 : zNw g_635 g_isOn := (zNw_fr hs_487 hg_g_635 (a := 1465) (b := 1468) (by decide +kernel) (by omega) (by omega))
            have hs_637 : zNf g_635 := (zNf_fr hs_488 hg_g_635 (a := 1465) (b := 1468) (by decide +kernel) (by omega) (by omega))
            obtain ⟨x_638, he_x_638⟩ : ∃ z : Int32, z = v_405 + 1 := ⟨_, rfl⟩
            have hq_x_638 := z_addq he_x_638 (rfl : v_405.toInt = _) hk_1 (by omega) (by omega)
            refine lv_iinc (v := x_638) (lv' := [(1, .int x_638), (0, .ref h0)]) hx hb dX12_readSeconds_77 hl (k := 1) rfl ((z_ofi (by decide +kernel)).trans he_x_638.symm) (by decide) rfl (fun ls hl => ?_)
            refine lv_goto (tgt := 35) hx hb dX12_readSeconds_80 (by decide) ?_
            have hX_639 : F_r_readSeconds m_textEnd m_bad m_badAt m_token m_at m_behind m_number m_letters m_word m_hasSeconds g_tape g_c = F_r_readSeconds_L35a m_textEnd g_tape n_L35a x_638 g_635 n_618 n_619 n_620 n_621 n_622 n_623 n_624 n_625 := by
              refine hF_L35a.trans ?_
              refine (F_r_readSeconds_L35a_s ..).trans ?_
              refine (if_neg c_565).trans ?_
              extract_lets -merge -useContext +onlyGivenNames w9 y9; have e9 : r_569 = w9 := he_r_569; clear_value w9; subst e9
              try (extract_lets -merge -useContext +onlyGivenNames y9; have e9 : x_573 = y9 := (by first | exact he_x_573 | exact he_x_573.symm); clear_value y9; subst e9)
              refine (if_pos c_574).trans ?_
              extract_lets -merge -useContext +onlyGivenNames w9 y4_0 y4_1 y4_2 y4_3 y4_4 y4_5; have e9 : (n_605, n_606, n_607, n_608, n_609, n_610) = w9 := ((z_tS he_n_605 (z_tS he_n_606 (z_tS he_n_607 (z_tS he_n_608 (z_tS he_n_609 he_n_610.symm)))))).symm; clear_value w9; subst e9
              try (extract_lets -merge -useContext +onlyGivenNames y9; have e9 : x_617 = y9 := (by first | exact he_x_617 | exact he_x_617.symm); clear_value y9; subst e9)
              extract_lets -merge -useContext +onlyGivenNames w9 y6_0 y6_1 y6_2 y6_3 y6_4 y6_5 y6_6 y6_7 y6_8; have e9 : (r_626, n_618, n_619, n_620, n_621, n_622, n_623, n_624, n_625) = w9 := ((z_tS he_r_626 (z_tS he_n_618 (z_tS he_n_619 (z_tS he_n_620 (z_tS he_n_621 (z_tS he_n_622 (z_tS he_n_623 (z_tS he_n_624 he_n_625.symm))))))))).symm; clear_value w9; subst e9
              try (extract_lets -merge -useContext +onlyGivenNames y9; have e9 : g_635 = y9 := (by first | exact hg_g_635 | exact hg_g_635.symm); clear_value y9; subst e9)
              try (extract_lets -merge -useContext +onlyGivenNames y9; have e9 : x_638 = y9 := (by first | exact he_x_638 | exact he_x_638.symm); clear_value y9; subst e9)
              exact rfl
            exact ih_564 x_638 g_635 n_618 n_619 n_620 n_621 n_622 n_623 n_624 n_625 H locs ls (by omega) (by omega) hC_g_635 hr_n_618 hr_n_620 hr_n_621 hr_n_622 hr_n_623 hr_n_624 hs_636 hs_637 (by omega) (by omega) hX_639 hP hD hS (lv_sub hl [1, 0] rfl)
    have hX_640 : F_r_readSeconds m_textEnd m_bad m_badAt m_token m_at m_behind m_number m_letters m_word m_hasSeconds g_tape g_c = F_r_readSeconds_L35a m_textEnd g_tape ((2147483647 - (0 : Int32).toInt).toNat + 1) (0 : Int32) g_c m_bad m_badAt n_5 n_6 n_7 n_8 n_9 n_10 := by
      refine (F_r_readSeconds_s ..).trans ?_
      refine (if_pos c_1).trans ?_
      extract_lets -merge -useContext +onlyGivenNames w9 y1_0 y1_1 y1_2 y1_3 y1_4 y1_5; have e9 : (n_5, n_6, n_7, n_8, n_9, n_10) = w9 := ((z_tS he_n_5 (z_tS he_n_6 (z_tS he_n_7 (z_tS he_n_8 (z_tS he_n_9 he_n_10.symm)))))).symm; clear_value w9; subst e9
      exact rfl
    exact hlp_563 ((2147483647 - (0 : Int32).toInt).toNat + 1) 0 g_c m_bad m_badAt n_5 n_6 n_7 n_8 n_9 n_10 _ _ _ (Nat.lt_succ_self _) (by decide +kernel) hC_g_c (z_rgw hr_m_bad (by decide) (by decide)) hr_n_5 hr_n_6 hr_n_7 hr_n_8 hr_n_9 hNW0 hNF0 (by omega) (by omega) hX_640 hP hD hS (lv_sub hl [1, 0] rfl)
  · have b_641 := z_fneF c_1
    refine lv_aload_n hx hb dX12_readSeconds_7 rfl (lv_at hl 0 rfl) ?_
    refine lv_iconst (v := 5) hx hb dX12_readSeconds_8 (by decide) ?_
    refine lv_aload_n hx hb dX12_readSeconds_9 rfl (lv_at hl 0 rfl) ?_
    refine va_get (D := G) (ci := 12) (v := .int m_at) (C := RX12) (T := TX12) (N := 65) hx hb hts inT12 hown hK hP 0 rfl rfl 15 (by decide) (hts _ tw_1900) (fun _ h9 => h9) rfl dX12_readSeconds_10 ?_
    refine z_callVv (As := [.int 5, .int m_at]) (rest := []) (wr := [(a_tape, .inl (cA.1 2, 900, .inl g_tape)), (a_c, .inl (cA.1 0, 1825, .inl g_c)), (a_isOn, .inl (cA.1 3, 10, .inl g_isOn))]) ⟨hx, hb, hml, hown, hts⟩ hK hE hT hP hD hS hA (r_fail l G cA h0 m_status m_thrown m_above m_under a_traySort a_trayMany a_numbers a_tape m_taped m_textEnd m_faultKind m_faultAt m_bad m_badAt m_token m_at m_behind m_number m_letters m_word a_c a_words m_markMany a_there a_tried a_best a_found m_thereMany m_foundMany m_orderHow m_orderRing m_orderMany m_hasBest m_bestTop m_bestBy a_weights a_shared m_random m_truePlace m_trueWay m_seconds m_done m_feelings m_tries m_leftOver m_playDoor m_playRing m_isOpen m_isOver m_wasTried m_hasPlayed a_feltNow a_last a_kept m_hasSeconds m_hasTurned m_hasRound a_hasFeels a_isOn m_firstAct m_meanTop m_meanBy a_order m_rowMany m_newSteps 5 m_at (by decide +kernel) (z_rgw hr_m_bad (by decide) (by decide))) lk_RX12_180 ⟨rfl, rfl⟩ ⟨Nat.le_of_ble_eq_true rfl, Nat.le_of_ble_eq_true rfl⟩ 12 rfl rfl rfl [0] [1, 2, 3] rfl rfl (by decide) rfl hl.1 rfl (lv_room (Nat.le_of_ble_eq_true rfl)) dX12_readSeconds_13 ⟨Nat.le_of_ble_eq_true rfl, Nat.le_of_ble_eq_true rfl⟩ (fun u_645 H locs hw hP hD hS => ?_)
    obtain ⟨n_642, n_643⟩ := u_645
    try dsimp only at hw
    obtain ⟨he_n_642, he_n_643, hw⟩ := hw
    obtain ⟨hr_n_642, hf_647⟩ := hw
    refine lv_aload_n hx hb dX12_readSeconds_16 rfl (lv_at hl 0 rfl) ?_
    refine va_get (D := G) (ci := 12) (v := .int n_642) (C := RX12) (T := TX12) (N := 65) hx hb hts inT12 hown hK hP 3 rfl rfl 12 (by decide) (hts _ tw_1897) (fun _ h9 => h9) rfl dX12_readSeconds_17 ?_
    refine lv_if_le (tgt := 24) hx hb dX12_readSeconds_20 (by decide) (fun h9 => (z_no (by have h8 := z_fleT h9; omega))) (fun c_648 => ?_)
    have b_649 := z_fgtF c_648
    have hpost : (0 ≤ n_642.toInt ∧ n_642.toInt ≤ 9) ∧ (0 ≤ m_token.toInt ∧ m_token.toInt ≤ 4) ∧ (0 ≤ m_at.toInt ∧ m_at.toInt ≤ 900) ∧ (0 ≤ m_behind.toInt ∧ m_behind.toInt ≤ 900) ∧ (0 ≤ m_number.toInt ∧ m_number.toInt ≤ 9999) ∧ (0 ≤ m_letters.toInt ∧ m_letters.toInt ≤ 900) ∧ (m_hasSeconds = 0 ∨ m_hasSeconds = 1) ∧ (zC g_c) ∧ (zNw g_c g_isOn) ∧ (m_behind.toInt ≤ m_behind.toInt) ∧ (0 < m_bad.toInt → 0 < n_642.toInt) ∧ (n_642.toInt ≤ 0 → m_token.toInt = 0 ∨ m_behind.toInt < m_behind.toInt) ∧ (n_642.toInt ≤ 0 → m_token.toInt = 3 → m_number.toInt = 59 → zNf g_c) := ⟨(z_rgw hr_n_642 (by decide) (by decide)), hr_m_token, hr_m_at, hr_m_behind, hr_m_number, hr_m_letters, hz_m_hasSeconds, hC_g_c, hNW0, (by omega), (by omega), (by omega), (fun _ _ _ => hNF0)⟩
    have hX_650 : F_r_readSeconds m_textEnd m_bad m_badAt m_token m_at m_behind m_number m_letters m_word m_hasSeconds g_tape g_c = ((n_642, n_643, m_token, m_at, m_behind, m_number, m_letters, m_word, m_hasSeconds, g_c) : Int32 × Int32 × Int32 × Int32 × Int32 × Int32 × Int32 × Int64 × Int32 × (Nat → Int32)) := by
      refine (F_r_readSeconds_s ..).trans ?_
      refine (if_neg c_1).trans ?_
      extract_lets -merge -useContext +onlyGivenNames w9 y1_0 y1_1; have e9 : (n_642, n_643) = w9 := ((z_tS he_n_642 he_n_643.symm)).symm; clear_value w9; subst e9
      exact rfl
    exact hret _ _ _ _ _ (n_642, n_643, m_token, m_at, m_behind, m_number, m_letters, m_word, m_hasSeconds, g_c) [3, 0, 1, 2] hP hD hS rfl (by decide) dX12_readSeconds_23 ⟨(congrArg (fun z9 => z9.1) hX_650).symm, (congrArg (fun z9 => z9.2.1) hX_650).symm, (congrArg (fun z9 => z9.2.2.1) hX_650).symm, (congrArg (fun z9 => z9.2.2.2.1) hX_650).symm, (congrArg (fun z9 => z9.2.2.2.2.1) hX_650).symm, (congrArg (fun z9 => z9.2.2.2.2.2.1) hX_650).symm, (congrArg (fun z9 => z9.2.2.2.2.2.2.1) hX_650).symm, (congrArg (fun z9 => z9.2.2.2.2.2.2.2.1) hX_650).symm, (congrArg (fun z9 => z9.2.2.2.2.2.2.2.2.1) hX_650).symm, (congrArg (fun z9 => z9.2.2.2.2.2.2.2.2.2) hX_650).symm, hpost⟩
set_option maxHeartbeats 40000000 in
set_option maxRecDepth 100000 in
theorem r_readTurned (l : Launch) (G : va_G) (cA : zCA) (h0 : Nat) (m_status : Int32) (m_thrown : Int32) (m_above : Int64) (m_under : Int64) (a_traySort : Nat) (a_trayMany : Nat) (a_numbers : Nat) (a_tape : Nat) (m_taped : Int32) (m_textEnd : Int32) (m_faultKind : Int32) (m_faultAt : Int32) (m_bad : Int32) (m_badAt : Int32) (m_token : Int32) (m_at : Int32) (m_behind : Int32) (m_number : Int32) (m_letters : Int32) (m_word : Int64) (a_c : Nat) (a_words : Nat) (m_markMany : Int32) (a_there : Nat) (a_tried : Nat) (a_best : Nat) (a_found : Nat) (m_thereMany : Int32) (m_foundMany : Int32) (m_orderHow : Int32) (m_orderRing : Int32) (m_orderMany : Int32) (m_hasBest : Int32) (m_bestTop : Int64) (m_bestBy : Int64) (a_weights : Nat) (a_shared : Nat) (m_random : Int32) (m_truePlace : Int32) (m_trueWay : Int32) (m_seconds : Int32) (m_done : Int32) (m_feelings : Int32) (m_tries : Int32) (m_leftOver : Int32) (m_playDoor : Int32) (m_playRing : Int32) (m_isOpen : Int32) (m_isOver : Int32) (m_wasTried : Int32) (m_hasPlayed : Int32) (a_feltNow : Nat) (a_last : Nat) (a_kept : Nat) (m_hasSeconds : Int32) (m_hasTurned : Int32) (m_hasRound : Int32) (a_hasFeels : Nat) (a_isOn : Nat) (m_firstAct : Int32) (m_meanTop : Int64) (m_meanBy : Int64) (a_order : Nat) (m_rowMany : Int32) (m_newSteps : Int32) (g_tape : Nat → Int32) (g_c : Nat → Int32) (g_isOn : Nat → Int32) (hr_m_textEnd : 0 ≤ m_textEnd.toInt ∧ m_textEnd.toInt ≤ 900) (hr_m_at : 0 ≤ m_at.toInt ∧ m_at.toInt ≤ 900) (hr_m_behind : 0 ≤ m_behind.toInt ∧ m_behind.toInt ≤ 900) (hr_m_bad : 0 ≤ m_bad.toInt ∧ m_bad.toInt ≤ 0) (hr_m_token : 0 ≤ m_token.toInt ∧ m_token.toInt ≤ 4) (hr_m_number : 0 ≤ m_number.toInt ∧ m_number.toInt ≤ 9999) (hr_m_letters : 0 ≤ m_letters.toInt ∧ m_letters.toInt ≤ 900) (hz_m_hasTurned : m_hasTurned = 0 ∨ m_hasTurned = 1) (hC_g_c : zC g_c) (hC_g_isOn : zRg 10 0 1 g_isOn) (hNW0 : zNw g_c g_isOn) (hNF0 : zNf g_c) : zCv l yX12_readTurned cX12_readTurned 1 none ({ frames := 3, cells := 0, slots := 0, locals := 65 }) G cA [.ref h0] [(h0, .inr (12, [.int m_status, .int m_thrown, .long m_above, .long m_under, .ref a_traySort, .ref a_trayMany, .ref a_numbers, .ref a_tape, .int m_taped, .int m_textEnd, .int m_faultKind, .int m_faultAt, .int m_bad, .int m_badAt, .int m_token, .int m_at, .int m_behind, .int m_number, .int m_letters, .long m_word, .ref a_c, .ref a_words, .int m_markMany, .ref a_there, .ref a_tried, .ref a_best, .ref a_found, .int m_thereMany, .int m_foundMany, .int m_orderHow, .int m_orderRing, .int m_orderMany, .int m_hasBest, .long m_bestTop, .long m_bestBy, .ref a_weights, .ref a_shared, .int m_random, .int m_truePlace, .int m_trueWay, .int m_seconds, .int m_done, .int m_feelings, .int m_tries, .int m_leftOver, .int m_playDoor, .int m_playRing, .int m_isOpen, .int m_isOver, .int m_wasTried, .int m_hasPlayed, .ref a_feltNow, .ref a_last, .ref a_kept, .int m_hasSeconds, .int m_hasTurned, .int m_hasRound, .ref a_hasFeels, .ref a_isOn, .int m_firstAct, .long m_meanTop, .long m_meanBy, .ref a_order, .int m_rowMany, .int m_newSteps])), (a_tape, .inl (cA.1 2, 900, .inl g_tape)), (a_c, .inl (cA.1 0, 1825, .inl g_c)), (a_isOn, .inl (cA.1 3, 10, .inl g_isOn))] (S := Int32 × Int32 × Int32 × Int32 × Int32 × Int32 × Int32 × Int64 × Int32 × (Nat → Int32)) (fun (u : Int32 × Int32 × Int32 × Int32 × Int32 × Int32 × Int32 × Int64 × Int32 × (Nat → Int32)) => (u.1 = (F_r_readTurned m_textEnd m_bad m_badAt m_token m_at m_behind m_number m_letters m_word m_hasTurned g_tape g_c).1) ∧ (u.2.1 = (F_r_readTurned m_textEnd m_bad m_badAt m_token m_at m_behind m_number m_letters m_word m_hasTurned g_tape g_c).2.1) ∧ (u.2.2.1 = (F_r_readTurned m_textEnd m_bad m_badAt m_token m_at m_behind m_number m_letters m_word m_hasTurned g_tape g_c).2.2.1) ∧ (u.2.2.2.1 = (F_r_readTurned m_textEnd m_bad m_badAt m_token m_at m_behind m_number m_letters m_word m_hasTurned g_tape g_c).2.2.2.1) ∧ (u.2.2.2.2.1 = (F_r_readTurned m_textEnd m_bad m_badAt m_token m_at m_behind m_number m_letters m_word m_hasTurned g_tape g_c).2.2.2.2.1) ∧ (u.2.2.2.2.2.1 = (F_r_readTurned m_textEnd m_bad m_badAt m_token m_at m_behind m_number m_letters m_word m_hasTurned g_tape g_c).2.2.2.2.2.1) ∧ (u.2.2.2.2.2.2.1 = (F_r_readTurned m_textEnd m_bad m_badAt m_token m_at m_behind m_number m_letters m_word m_hasTurned g_tape g_c).2.2.2.2.2.2.1) ∧ (u.2.2.2.2.2.2.2.1 = (F_r_readTurned m_textEnd m_bad m_badAt m_token m_at m_behind m_number m_letters m_word m_hasTurned g_tape g_c).2.2.2.2.2.2.2.1) ∧ (u.2.2.2.2.2.2.2.2.1 = (F_r_readTurned m_textEnd m_bad m_badAt m_token m_at m_behind m_number m_letters m_word m_hasTurned g_tape g_c).2.2.2.2.2.2.2.2.1) ∧ (u.2.2.2.2.2.2.2.2.2 = (F_r_readTurned m_textEnd m_bad m_badAt m_token m_at m_behind m_number m_letters m_word m_hasTurned g_tape g_c).2.2.2.2.2.2.2.2.2) ∧ ((0 ≤ u.1.toInt ∧ u.1.toInt ≤ 9) ∧ (0 ≤ u.2.2.1.toInt ∧ u.2.2.1.toInt ≤ 4) ∧ (0 ≤ u.2.2.2.1.toInt ∧ u.2.2.2.1.toInt ≤ 900) ∧ (0 ≤ u.2.2.2.2.1.toInt ∧ u.2.2.2.2.1.toInt ≤ 900) ∧ (0 ≤ u.2.2.2.2.2.1.toInt ∧ u.2.2.2.2.2.1.toInt ≤ 9999) ∧ (0 ≤ u.2.2.2.2.2.2.1.toInt ∧ u.2.2.2.2.2.2.1.toInt ≤ 900) ∧ (u.2.2.2.2.2.2.2.2.1 = 0 ∨ u.2.2.2.2.2.2.2.2.1 = 1) ∧ (zC u.2.2.2.2.2.2.2.2.2) ∧ (zNw u.2.2.2.2.2.2.2.2.2 g_isOn) ∧ (m_behind.toInt ≤ u.2.2.2.2.1.toInt) ∧ (0 < m_bad.toInt → 0 < u.1.toInt) ∧ (u.1.toInt ≤ 0 → u.2.2.1.toInt = 0 ∨ m_behind.toInt < u.2.2.2.2.1.toInt) ∧ (u.1.toInt ≤ 0 → u.2.2.1.toInt = 3 → u.2.2.2.2.2.1.toInt = 59 → zNf u.2.2.2.2.2.2.2.2.2))) (fun (u : Int32 × Int32 × Int32 × Int32 × Int32 × Int32 × Int32 × Int64 × Int32 × (Nat → Int32)) => [(h0, .inr (12, [.int m_status, .int m_thrown, .long m_above, .long m_under, .ref a_traySort, .ref a_trayMany, .ref a_numbers, .ref a_tape, .int m_taped, .int m_textEnd, .int m_faultKind, .int m_faultAt, .int u.1, .int u.2.1, .int u.2.2.1, .int u.2.2.2.1, .int u.2.2.2.2.1, .int u.2.2.2.2.2.1, .int u.2.2.2.2.2.2.1, .long u.2.2.2.2.2.2.2.1, .ref a_c, .ref a_words, .int m_markMany, .ref a_there, .ref a_tried, .ref a_best, .ref a_found, .int m_thereMany, .int m_foundMany, .int m_orderHow, .int m_orderRing, .int m_orderMany, .int m_hasBest, .long m_bestTop, .long m_bestBy, .ref a_weights, .ref a_shared, .int m_random, .int m_truePlace, .int m_trueWay, .int m_seconds, .int m_done, .int m_feelings, .int m_tries, .int m_leftOver, .int m_playDoor, .int m_playRing, .int m_isOpen, .int m_isOver, .int m_wasTried, .int m_hasPlayed, .ref a_feltNow, .ref a_last, .ref a_kept, .int m_hasSeconds, .int u.2.2.2.2.2.2.2.2.1, .int m_hasRound, .ref a_hasFeels, .ref a_isOn, .int m_firstAct, .long m_meanTop, .long m_meanBy, .ref a_order, .int m_rowMany, .int m_newSteps])), (a_tape, .inl (cA.1 2, 900, .inl g_tape)), (a_c, .inl (cA.1 0, 1825, .inl u.2.2.2.2.2.2.2.2.2)), (a_isOn, .inl (cA.1 3, 10, .inl g_isOn))]) 0 0 := by
  have hk_0 : (0 : Int32).toInt = 0 := by decide +kernel
  have hk_5 : (5 : Int32).toInt = 5 := by decide +kernel
  have hk_16 : (16 : Int32).toInt = 16 := by decide +kernel
  refine z_start2v (own := RX12) (by decide) (Nat.le_of_ble_eq_true rfl) rfl ?_
  intro p e s m args below meth c A ls Q hx hb hml hts hown hK hE hT hP hD hS hA hl hret
  have hl : lv_has ls 1 [(0, .ref h0)] := hl
  refine lv_aload_n hx hb dX12_readTurned_0 rfl (lv_at hl 0 rfl) ?_
  refine va_get (D := G) (ci := 12) (v := .int m_hasTurned) (C := RX12) (T := TX12) (N := 65) hx hb hts inT12 hown hK hP 0 rfl rfl 55 (by decide) (hts _ tw_1938) (fun _ h9 => h9) rfl dX12_readTurned_1 ?_
  refine lv_if_eq (tgt := 16) hx hb dX12_readTurned_4 (by decide) (fun c_1 => ?_) (fun c_1 => ?_)
  · have b_2 := z_feqT c_1
    refine lv_aload_n hx hb dX12_readTurned_16 rfl (lv_at hl 0 rfl) ?_
    refine va_get (D := G) (ci := 12) (v := .int m_bad) (C := RX12) (T := TX12) (N := 65) hx hb hts inT12 hown hK hP 0 rfl rfl 12 (by decide) (hts _ tw_1897) (fun _ h9 => h9) rfl dX12_readTurned_17 ?_
    refine lv_if_le (tgt := 24) hx hb dX12_readTurned_20 (by decide) (fun c_3 => ?_) (fun h9 => (z_no (by have h8 := z_fgtF h9; omega)))
    have b_4 := z_fleT c_3
    refine lv_aload_n hx hb dX12_readTurned_24 rfl (lv_at hl 0 rfl) ?_
    refine lv_iconst (v := 1) hx hb dX12_readTurned_25 (by decide) ?_
    refine va_put (D := G) (ci := 12) (v := .int 1) (ty := .boolean) (C := RX12) (T := TX12) (N := 65) hx hb hts inT12 tyX12 tyX12_ok nmX12 hown hK hP hD hS 0 rfl rfl 55 (by decide) (hts _ tw_1938) (fun _ h9 => h9) rfl (tyX12_ok 55 (by decide)) rfl rfl (Nat.le_of_ble_eq_true rfl) dX12_readTurned_26 (fun H locs hP hD hS => ?_)
    refine lv_aload_n hx hb dX12_readTurned_29 rfl (lv_at hl 0 rfl) ?_
    refine z_callVv (As := []) (rest := []) (wr := [(a_c, .inl (cA.1 0, 1825, .inl g_c)), (a_isOn, .inl (cA.1 3, 10, .inl g_isOn))]) ⟨hx, hb, hml, hown, hts⟩ hK hE hT hP hD hS hA (r_next2 l G cA h0 m_status m_thrown m_above m_under a_traySort a_trayMany a_numbers a_tape m_taped m_textEnd m_faultKind m_faultAt m_bad m_badAt m_token m_at m_behind m_number m_letters m_word a_c a_words m_markMany a_there a_tried a_best a_found m_thereMany m_foundMany m_orderHow m_orderRing m_orderMany m_hasBest m_bestTop m_bestBy a_weights a_shared m_random m_truePlace m_trueWay m_seconds m_done m_feelings m_tries m_leftOver m_playDoor m_playRing m_isOpen m_isOver m_wasTried m_hasPlayed a_feltNow a_last a_kept m_hasSeconds 1 m_hasRound a_hasFeels a_isOn m_firstAct m_meanTop m_meanBy a_order m_rowMany m_newSteps g_tape hr_m_textEnd hr_m_at hr_m_behind hr_m_token hr_m_number hr_m_letters) lk_RX12_184 ⟨rfl, rfl⟩ ⟨Nat.le_of_ble_eq_true rfl, Nat.le_of_ble_eq_true rfl⟩ 12 rfl rfl rfl [0, 1] [2, 3] rfl rfl (by decide) rfl hl.1 rfl (lv_room (Nat.le_of_ble_eq_true rfl)) dX12_readTurned_30 ⟨Nat.le_of_ble_eq_true rfl, Nat.le_of_ble_eq_true rfl⟩ (fun u_12 H locs hw hP hD hS => ?_)
    obtain ⟨n_5, n_6, n_7, n_8, n_9, n_10⟩ := u_12
    try dsimp only at hw
    obtain ⟨he_n_5, he_n_6, he_n_7, he_n_8, he_n_9, he_n_10, hw⟩ := hw
    obtain ⟨hr_n_5, hr_n_6, hr_n_7, hr_n_8, hr_n_9, hf_14, hf_15⟩ := hw
    refine lv_aload_n hx hb dX12_readTurned_33 rfl (lv_at hl 0 rfl) ?_
    refine va_get (D := G) (ci := 12) (v := .ref a_c) (C := RX12) (T := TX12) (N := 65) hx hb hts inT12 hown hK hP 2 rfl rfl 20 (by decide) (hts _ tw_1905) (fun _ h9 => h9) rfl dX12_readTurned_34 ?_
    refine lv_sipush (v := 1469) hx hb dX12_readTurned_37 (by decide) ?_
    refine lv_aload_n hx hb dX12_readTurned_40 rfl (lv_at hl 0 rfl) ?_
    refine lv_iconst (v := 0) hx hb dX12_readTurned_41 (by decide) ?_
    refine lv_bipush (v := 16) hx hb dX12_readTurned_42 (by decide) ?_
    refine z_callVi (As := [.int 0, .int 16]) (rest := [.int 1469, .ref a_c]) (wr := [(a_c, .inl (cA.1 0, 1825, .inl g_c)), (a_isOn, .inl (cA.1 3, 10, .inl g_isOn))]) ⟨hx, hb, hml, hown, hts⟩ hK hE hT hP hD hS hA (r_count l G cA h0 m_status m_thrown m_above m_under a_traySort a_trayMany a_numbers a_tape m_taped m_textEnd m_faultKind m_faultAt m_bad m_badAt n_5 n_6 n_7 n_8 n_9 n_10 a_c a_words m_markMany a_there a_tried a_best a_found m_thereMany m_foundMany m_orderHow m_orderRing m_orderMany m_hasBest m_bestTop m_bestBy a_weights a_shared m_random m_truePlace m_trueWay m_seconds m_done m_feelings m_tries m_leftOver m_playDoor m_playRing m_isOpen m_isOver m_wasTried m_hasPlayed a_feltNow a_last a_kept m_hasSeconds 1 m_hasRound a_hasFeels a_isOn m_firstAct m_meanTop m_meanBy a_order m_rowMany m_newSteps g_tape 0 16 (by decide +kernel) (by decide +kernel) hr_m_textEnd hr_n_6 hr_n_7 (z_rgw hr_m_bad (by decide) (by decide)) hr_n_5 hr_n_8 hr_n_9) lk_RX12_214 ⟨rfl, rfl⟩ ⟨Nat.le_of_ble_eq_true rfl, Nat.le_of_ble_eq_true rfl⟩ 12 rfl rfl rfl [2, 3] [0, 1] rfl rfl (by decide) rfl hl.1 rfl (lv_room (Nat.le_of_ble_eq_true rfl)) dX12_readTurned_44 ⟨Nat.le_of_ble_eq_true rfl, Nat.le_of_ble_eq_true rfl⟩ (fun r_24 u_25 H locs hw hP hD hS => ?_)
    obtain ⟨n_16, n_17, n_18, n_19, n_20, n_21, n_22, n_23⟩ := u_25
    try dsimp only at hw
    obtain ⟨he_r_24, he_n_16, he_n_17, he_n_18, he_n_19, he_n_20, he_n_21, he_n_22, he_n_23, hw⟩ := hw
    obtain ⟨hr_r_24, hr_n_16, hr_n_18, hr_n_19, hr_n_20, hr_n_21, hr_n_22, hf_27, hf_28, hf_29, hf_30, hf_31, hf_32⟩ := hw
    refine z_iast hx hb hK hP hD hS 0 0 rfl rfl (z_in (i := 1469) (n := 1825) (by decide +kernel) (by decide +kernel)) dX12_readTurned_47 (fun g_33 hg_g_33 H locs hP hD hS => ?_)
    have hC_g_33 := z_ctUk hC_g_c hg_g_33 (k := 1469) (lo := 0) (hi := 16) (by decide +kernel) (by decide +kernel) (by decide +kernel) (by omega)
    have hs_34 : zNw g_33 g_isOn := (zNw_fr hNW0 hg_g_33 (a := 1469) (b := 1469) (by decide +kernel) (by decide +kernel) (by decide +kernel))
    have hs_35 : zNf g_33 := (zNf_fr hNF0 hg_g_33 (a := 1469) (b := 1469) (by decide +kernel) (by decide +kernel) (by decide +kernel))
    have hpost : (0 ≤ n_16.toInt ∧ n_16.toInt ≤ 9) ∧ (0 ≤ n_18.toInt ∧ n_18.toInt ≤ 4) ∧ (0 ≤ n_19.toInt ∧ n_19.toInt ≤ 900) ∧ (0 ≤ n_20.toInt ∧ n_20.toInt ≤ 900) ∧ (0 ≤ n_21.toInt ∧ n_21.toInt ≤ 9999) ∧ (0 ≤ n_22.toInt ∧ n_22.toInt ≤ 900) ∧ ((1 : Int32) = 0 ∨ (1 : Int32) = 1) ∧ (zC g_33) ∧ (zNw g_33 g_isOn) ∧ (m_behind.toInt ≤ n_20.toInt) ∧ (0 < m_bad.toInt → 0 < n_16.toInt) ∧ (n_16.toInt ≤ 0 → n_18.toInt = 0 ∨ m_behind.toInt < n_20.toInt) ∧ (n_16.toInt ≤ 0 → n_18.toInt = 3 → n_21.toInt = 59 → zNf g_33) := ⟨hr_n_16, hr_n_18, hr_n_19, hr_n_20, hr_n_21, hr_n_22, (Or.inr rfl), hC_g_33, hs_34, (by omega), (by omega), (by omega), (fun _ _ _ => hs_35)⟩
    have hX_36 : F_r_readTurned m_textEnd m_bad m_badAt m_token m_at m_behind m_number m_letters m_word m_hasTurned g_tape g_c = ((n_16, n_17, n_18, n_19, n_20, n_21, n_22, n_23, (1 : Int32), g_33) : Int32 × Int32 × Int32 × Int32 × Int32 × Int32 × Int32 × Int64 × Int32 × (Nat → Int32)) := by
      refine (F_r_readTurned_s ..).trans ?_
      refine (if_pos c_1).trans ?_
      extract_lets -merge -useContext +onlyGivenNames w9 y1_0 y1_1 y1_2 y1_3 y1_4 y1_5; have e9 : (n_5, n_6, n_7, n_8, n_9, n_10) = w9 := ((z_tS he_n_5 (z_tS he_n_6 (z_tS he_n_7 (z_tS he_n_8 (z_tS he_n_9 he_n_10.symm)))))).symm; clear_value w9; subst e9
      extract_lets -merge -useContext +onlyGivenNames w9 y2_0 y2_1 y2_2 y2_3 y2_4 y2_5 y2_6 y2_7 y2_8; have e9 : (r_24, n_16, n_17, n_18, n_19, n_20, n_21, n_22, n_23) = w9 := ((z_tS he_r_24 (z_tS he_n_16 (z_tS he_n_17 (z_tS he_n_18 (z_tS he_n_19 (z_tS he_n_20 (z_tS he_n_21 (z_tS he_n_22 he_n_23.symm))))))))).symm; clear_value w9; subst e9
      try (extract_lets -merge -useContext +onlyGivenNames y9; have e9 : g_33 = y9 := (by first | exact hg_g_33 | exact hg_g_33.symm); clear_value y9; subst e9)
      exact rfl
    exact hret _ _ _ _ _ (n_16, n_17, n_18, n_19, n_20, n_21, n_22, n_23, 1, g_33) [2, 3, 0, 1] hP hD hS rfl (by decide) dX12_readTurned_48 ⟨(congrArg (fun z9 => z9.1) hX_36).symm, (congrArg (fun z9 => z9.2.1) hX_36).symm, (congrArg (fun z9 => z9.2.2.1) hX_36).symm, (congrArg (fun z9 => z9.2.2.2.1) hX_36).symm, (congrArg (fun z9 => z9.2.2.2.2.1) hX_36).symm, (congrArg (fun z9 => z9.2.2.2.2.2.1) hX_36).symm, (congrArg (fun z9 => z9.2.2.2.2.2.2.1) hX_36).symm, (congrArg (fun z9 => z9.2.2.2.2.2.2.2.1) hX_36).symm, (congrArg (fun z9 => z9.2.2.2.2.2.2.2.2.1) hX_36).symm, (congrArg (fun z9 => z9.2.2.2.2.2.2.2.2.2) hX_36).symm, hpost⟩
  · have b_37 := z_fneF c_1
    refine lv_aload_n hx hb dX12_readTurned_7 rfl (lv_at hl 0 rfl) ?_
    refine lv_iconst (v := 5) hx hb dX12_readTurned_8 (by decide) ?_
    refine lv_aload_n hx hb dX12_readTurned_9 rfl (lv_at hl 0 rfl) ?_
    refine va_get (D := G) (ci := 12) (v := .int m_at) (C := RX12) (T := TX12) (N := 65) hx hb hts inT12 hown hK hP 0 rfl rfl 15 (by decide) (hts _ tw_1900) (fun _ h9 => h9) rfl dX12_readTurned_10 ?_
    refine z_callVv (As := [.int 5, .int m_at]) (rest := []) (wr := [(a_tape, .inl (cA.1 2, 900, .inl g_tape)), (a_c, .inl (cA.1 0, 1825, .inl g_c)), (a_isOn, .inl (cA.1 3, 10, .inl g_isOn))]) ⟨hx, hb, hml, hown, hts⟩ hK hE hT hP hD hS hA (r_fail l G cA h0 m_status m_thrown m_above m_under a_traySort a_trayMany a_numbers a_tape m_taped m_textEnd m_faultKind m_faultAt m_bad m_badAt m_token m_at m_behind m_number m_letters m_word a_c a_words m_markMany a_there a_tried a_best a_found m_thereMany m_foundMany m_orderHow m_orderRing m_orderMany m_hasBest m_bestTop m_bestBy a_weights a_shared m_random m_truePlace m_trueWay m_seconds m_done m_feelings m_tries m_leftOver m_playDoor m_playRing m_isOpen m_isOver m_wasTried m_hasPlayed a_feltNow a_last a_kept m_hasSeconds m_hasTurned m_hasRound a_hasFeels a_isOn m_firstAct m_meanTop m_meanBy a_order m_rowMany m_newSteps 5 m_at (by decide +kernel) (z_rgw hr_m_bad (by decide) (by decide))) lk_RX12_180 ⟨rfl, rfl⟩ ⟨Nat.le_of_ble_eq_true rfl, Nat.le_of_ble_eq_true rfl⟩ 12 rfl rfl rfl [0] [1, 2, 3] rfl rfl (by decide) rfl hl.1 rfl (lv_room (Nat.le_of_ble_eq_true rfl)) dX12_readTurned_13 ⟨Nat.le_of_ble_eq_true rfl, Nat.le_of_ble_eq_true rfl⟩ (fun u_41 H locs hw hP hD hS => ?_)
    obtain ⟨n_38, n_39⟩ := u_41
    try dsimp only at hw
    obtain ⟨he_n_38, he_n_39, hw⟩ := hw
    obtain ⟨hr_n_38, hf_43⟩ := hw
    refine lv_aload_n hx hb dX12_readTurned_16 rfl (lv_at hl 0 rfl) ?_
    refine va_get (D := G) (ci := 12) (v := .int n_38) (C := RX12) (T := TX12) (N := 65) hx hb hts inT12 hown hK hP 3 rfl rfl 12 (by decide) (hts _ tw_1897) (fun _ h9 => h9) rfl dX12_readTurned_17 ?_
    refine lv_if_le (tgt := 24) hx hb dX12_readTurned_20 (by decide) (fun h9 => (z_no (by have h8 := z_fleT h9; omega))) (fun c_44 => ?_)
    have b_45 := z_fgtF c_44
    have hpost : (0 ≤ n_38.toInt ∧ n_38.toInt ≤ 9) ∧ (0 ≤ m_token.toInt ∧ m_token.toInt ≤ 4) ∧ (0 ≤ m_at.toInt ∧ m_at.toInt ≤ 900) ∧ (0 ≤ m_behind.toInt ∧ m_behind.toInt ≤ 900) ∧ (0 ≤ m_number.toInt ∧ m_number.toInt ≤ 9999) ∧ (0 ≤ m_letters.toInt ∧ m_letters.toInt ≤ 900) ∧ (m_hasTurned = 0 ∨ m_hasTurned = 1) ∧ (zC g_c) ∧ (zNw g_c g_isOn) ∧ (m_behind.toInt ≤ m_behind.toInt) ∧ (0 < m_bad.toInt → 0 < n_38.toInt) ∧ (n_38.toInt ≤ 0 → m_token.toInt = 0 ∨ m_behind.toInt < m_behind.toInt) ∧ (n_38.toInt ≤ 0 → m_token.toInt = 3 → m_number.toInt = 59 → zNf g_c) := ⟨(z_rgw hr_n_38 (by decide) (by decide)), hr_m_token, hr_m_at, hr_m_behind, hr_m_number, hr_m_letters, hz_m_hasTurned, hC_g_c, hNW0, (by omega), (by omega), (by omega), (fun _ _ _ => hNF0)⟩
    have hX_46 : F_r_readTurned m_textEnd m_bad m_badAt m_token m_at m_behind m_number m_letters m_word m_hasTurned g_tape g_c = ((n_38, n_39, m_token, m_at, m_behind, m_number, m_letters, m_word, m_hasTurned, g_c) : Int32 × Int32 × Int32 × Int32 × Int32 × Int32 × Int32 × Int64 × Int32 × (Nat → Int32)) := by
      refine (F_r_readTurned_s ..).trans ?_
      refine (if_neg c_1).trans ?_
      extract_lets -merge -useContext +onlyGivenNames w9 y1_0 y1_1; have e9 : (n_38, n_39) = w9 := ((z_tS he_n_38 he_n_39.symm)).symm; clear_value w9; subst e9
      exact rfl
    exact hret _ _ _ _ _ (n_38, n_39, m_token, m_at, m_behind, m_number, m_letters, m_word, m_hasTurned, g_c) [3, 0, 1, 2] hP hD hS rfl (by decide) dX12_readTurned_23 ⟨(congrArg (fun z9 => z9.1) hX_46).symm, (congrArg (fun z9 => z9.2.1) hX_46).symm, (congrArg (fun z9 => z9.2.2.1) hX_46).symm, (congrArg (fun z9 => z9.2.2.2.1) hX_46).symm, (congrArg (fun z9 => z9.2.2.2.2.1) hX_46).symm, (congrArg (fun z9 => z9.2.2.2.2.2.1) hX_46).symm, (congrArg (fun z9 => z9.2.2.2.2.2.2.1) hX_46).symm, (congrArg (fun z9 => z9.2.2.2.2.2.2.2.1) hX_46).symm, (congrArg (fun z9 => z9.2.2.2.2.2.2.2.2.1) hX_46).symm, (congrArg (fun z9 => z9.2.2.2.2.2.2.2.2.2) hX_46).symm, hpost⟩
set_option maxHeartbeats 40000000 in
set_option maxRecDepth 100000 in
theorem r_readRound (l : Launch) (G : va_G) (cA : zCA) (h0 : Nat) (m_status : Int32) (m_thrown : Int32) (m_above : Int64) (m_under : Int64) (a_traySort : Nat) (a_trayMany : Nat) (a_numbers : Nat) (a_tape : Nat) (m_taped : Int32) (m_textEnd : Int32) (m_faultKind : Int32) (m_faultAt : Int32) (m_bad : Int32) (m_badAt : Int32) (m_token : Int32) (m_at : Int32) (m_behind : Int32) (m_number : Int32) (m_letters : Int32) (m_word : Int64) (a_c : Nat) (a_words : Nat) (m_markMany : Int32) (a_there : Nat) (a_tried : Nat) (a_best : Nat) (a_found : Nat) (m_thereMany : Int32) (m_foundMany : Int32) (m_orderHow : Int32) (m_orderRing : Int32) (m_orderMany : Int32) (m_hasBest : Int32) (m_bestTop : Int64) (m_bestBy : Int64) (a_weights : Nat) (a_shared : Nat) (m_random : Int32) (m_truePlace : Int32) (m_trueWay : Int32) (m_seconds : Int32) (m_done : Int32) (m_feelings : Int32) (m_tries : Int32) (m_leftOver : Int32) (m_playDoor : Int32) (m_playRing : Int32) (m_isOpen : Int32) (m_isOver : Int32) (m_wasTried : Int32) (m_hasPlayed : Int32) (a_feltNow : Nat) (a_last : Nat) (a_kept : Nat) (m_hasSeconds : Int32) (m_hasTurned : Int32) (m_hasRound : Int32) (a_hasFeels : Nat) (a_isOn : Nat) (m_firstAct : Int32) (m_meanTop : Int64) (m_meanBy : Int64) (a_order : Nat) (m_rowMany : Int32) (m_newSteps : Int32) (g_tape : Nat → Int32) (g_c : Nat → Int32) (g_words : Nat → Int64) (g_isOn : Nat → Int32) (hr_m_textEnd : 0 ≤ m_textEnd.toInt ∧ m_textEnd.toInt ≤ 900) (hr_m_at : 0 ≤ m_at.toInt ∧ m_at.toInt ≤ 900) (hr_m_behind : 0 ≤ m_behind.toInt ∧ m_behind.toInt ≤ 900) (hr_m_bad : 0 ≤ m_bad.toInt ∧ m_bad.toInt ≤ 0) (hr_m_token : 0 ≤ m_token.toInt ∧ m_token.toInt ≤ 4) (hr_m_number : 0 ≤ m_number.toInt ∧ m_number.toInt ≤ 9999) (hr_m_letters : 0 ≤ m_letters.toInt ∧ m_letters.toInt ≤ 900) (hz_m_hasRound : m_hasRound = 0 ∨ m_hasRound = 1) (hC_g_c : zC g_c) (hC_g_isOn : zRg 10 0 1 g_isOn) (hNW0 : zNw g_c g_isOn) (hNF0 : zNf g_c) : zCv l yX12_readRound cX12_readRound 3 none ({ frames := 4, cells := 0, slots := 0, locals := 90 }) G cA [.ref h0] [(h0, .inr (12, [.int m_status, .int m_thrown, .long m_above, .long m_under, .ref a_traySort, .ref a_trayMany, .ref a_numbers, .ref a_tape, .int m_taped, .int m_textEnd, .int m_faultKind, .int m_faultAt, .int m_bad, .int m_badAt, .int m_token, .int m_at, .int m_behind, .int m_number, .int m_letters, .long m_word, .ref a_c, .ref a_words, .int m_markMany, .ref a_there, .ref a_tried, .ref a_best, .ref a_found, .int m_thereMany, .int m_foundMany, .int m_orderHow, .int m_orderRing, .int m_orderMany, .int m_hasBest, .long m_bestTop, .long m_bestBy, .ref a_weights, .ref a_shared, .int m_random, .int m_truePlace, .int m_trueWay, .int m_seconds, .int m_done, .int m_feelings, .int m_tries, .int m_leftOver, .int m_playDoor, .int m_playRing, .int m_isOpen, .int m_isOver, .int m_wasTried, .int m_hasPlayed, .ref a_feltNow, .ref a_last, .ref a_kept, .int m_hasSeconds, .int m_hasTurned, .int m_hasRound, .ref a_hasFeels, .ref a_isOn, .int m_firstAct, .long m_meanTop, .long m_meanBy, .ref a_order, .int m_rowMany, .int m_newSteps])), (a_tape, .inl (cA.1 2, 900, .inl g_tape)), (a_c, .inl (cA.1 0, 1825, .inl g_c)), (a_words, .inl (cA.1 1, 105, .inr (.inl g_words))), (a_isOn, .inl (cA.1 3, 10, .inl g_isOn))] (S := Int32 × Int32 × Int32 × Int32 × Int32 × Int32 × Int32 × Int64 × Int32 × (Nat → Int32)) (fun (u : Int32 × Int32 × Int32 × Int32 × Int32 × Int32 × Int32 × Int64 × Int32 × (Nat → Int32)) => (u.1 = (F_r_readRound m_textEnd m_bad m_badAt m_token m_at m_behind m_number m_letters m_word m_hasRound g_tape g_c g_words).1) ∧ (u.2.1 = (F_r_readRound m_textEnd m_bad m_badAt m_token m_at m_behind m_number m_letters m_word m_hasRound g_tape g_c g_words).2.1) ∧ (u.2.2.1 = (F_r_readRound m_textEnd m_bad m_badAt m_token m_at m_behind m_number m_letters m_word m_hasRound g_tape g_c g_words).2.2.1) ∧ (u.2.2.2.1 = (F_r_readRound m_textEnd m_bad m_badAt m_token m_at m_behind m_number m_letters m_word m_hasRound g_tape g_c g_words).2.2.2.1) ∧ (u.2.2.2.2.1 = (F_r_readRound m_textEnd m_bad m_badAt m_token m_at m_behind m_number m_letters m_word m_hasRound g_tape g_c g_words).2.2.2.2.1) ∧ (u.2.2.2.2.2.1 = (F_r_readRound m_textEnd m_bad m_badAt m_token m_at m_behind m_number m_letters m_word m_hasRound g_tape g_c g_words).2.2.2.2.2.1) ∧ (u.2.2.2.2.2.2.1 = (F_r_readRound m_textEnd m_bad m_badAt m_token m_at m_behind m_number m_letters m_word m_hasRound g_tape g_c g_words).2.2.2.2.2.2.1) ∧ (u.2.2.2.2.2.2.2.1 = (F_r_readRound m_textEnd m_bad m_badAt m_token m_at m_behind m_number m_letters m_word m_hasRound g_tape g_c g_words).2.2.2.2.2.2.2.1) ∧ (u.2.2.2.2.2.2.2.2.1 = (F_r_readRound m_textEnd m_bad m_badAt m_token m_at m_behind m_number m_letters m_word m_hasRound g_tape g_c g_words).2.2.2.2.2.2.2.2.1) ∧ (u.2.2.2.2.2.2.2.2.2 = (F_r_readRound m_textEnd m_bad m_badAt m_token m_at m_behind m_number m_letters m_word m_hasRound g_tape g_c g_words).2.2.2.2.2.2.2.2.2) ∧ ((0 ≤ u.1.toInt ∧ u.1.toInt ≤ 9) ∧ (0 ≤ u.2.2.1.toInt ∧ u.2.2.1.toInt ≤ 4) ∧ (0 ≤ u.2.2.2.1.toInt ∧ u.2.2.2.1.toInt ≤ 900) ∧ (0 ≤ u.2.2.2.2.1.toInt ∧ u.2.2.2.2.1.toInt ≤ 900) ∧ (0 ≤ u.2.2.2.2.2.1.toInt ∧ u.2.2.2.2.2.1.toInt ≤ 9999) ∧ (0 ≤ u.2.2.2.2.2.2.1.toInt ∧ u.2.2.2.2.2.2.1.toInt ≤ 900) ∧ (u.2.2.2.2.2.2.2.2.1 = 0 ∨ u.2.2.2.2.2.2.2.2.1 = 1) ∧ (zC u.2.2.2.2.2.2.2.2.2) ∧ (zNw u.2.2.2.2.2.2.2.2.2 g_isOn) ∧ (m_behind.toInt ≤ u.2.2.2.2.1.toInt) ∧ (0 < m_bad.toInt → 0 < u.1.toInt) ∧ (u.1.toInt ≤ 0 → u.2.2.1.toInt = 0 ∨ m_behind.toInt < u.2.2.2.2.1.toInt) ∧ (u.1.toInt ≤ 0 → u.2.2.1.toInt = 3 → u.2.2.2.2.2.1.toInt = 59 → zNf u.2.2.2.2.2.2.2.2.2))) (fun (u : Int32 × Int32 × Int32 × Int32 × Int32 × Int32 × Int32 × Int64 × Int32 × (Nat → Int32)) => [(h0, .inr (12, [.int m_status, .int m_thrown, .long m_above, .long m_under, .ref a_traySort, .ref a_trayMany, .ref a_numbers, .ref a_tape, .int m_taped, .int m_textEnd, .int m_faultKind, .int m_faultAt, .int u.1, .int u.2.1, .int u.2.2.1, .int u.2.2.2.1, .int u.2.2.2.2.1, .int u.2.2.2.2.2.1, .int u.2.2.2.2.2.2.1, .long u.2.2.2.2.2.2.2.1, .ref a_c, .ref a_words, .int m_markMany, .ref a_there, .ref a_tried, .ref a_best, .ref a_found, .int m_thereMany, .int m_foundMany, .int m_orderHow, .int m_orderRing, .int m_orderMany, .int m_hasBest, .long m_bestTop, .long m_bestBy, .ref a_weights, .ref a_shared, .int m_random, .int m_truePlace, .int m_trueWay, .int m_seconds, .int m_done, .int m_feelings, .int m_tries, .int m_leftOver, .int m_playDoor, .int m_playRing, .int m_isOpen, .int m_isOver, .int m_wasTried, .int m_hasPlayed, .ref a_feltNow, .ref a_last, .ref a_kept, .int m_hasSeconds, .int m_hasTurned, .int u.2.2.2.2.2.2.2.2.1, .ref a_hasFeels, .ref a_isOn, .int m_firstAct, .long m_meanTop, .long m_meanBy, .ref a_order, .int m_rowMany, .int m_newSteps])), (a_tape, .inl (cA.1 2, 900, .inl g_tape)), (a_c, .inl (cA.1 0, 1825, .inl u.2.2.2.2.2.2.2.2.2)), (a_words, .inl (cA.1 1, 105, .inr (.inl g_words))), (a_isOn, .inl (cA.1 3, 10, .inl g_isOn))]) 0 0 := by
  have hk_0 : (0 : Int32).toInt = 0 := by decide +kernel
  have hk_1 : (1 : Int32).toInt = 1 := by decide +kernel
  have hk_3 : (3 : Int32).toInt = 3 := by decide +kernel
  have hk_5 : (5 : Int32).toInt = 5 := by decide +kernel
  have hk_6 : (6 : Int32).toInt = 6 := by decide +kernel
  have hk_12 : (12 : Int32).toInt = 12 := by decide +kernel
  have hk_16 : (16 : Int32).toInt = 16 := by decide +kernel
  have hk_1598 : (1598 : Int32).toInt = 1598 := by decide +kernel
  refine z_start2v (own := RX12) (by decide) (Nat.le_of_ble_eq_true rfl) rfl ?_
  intro p e s m args below meth c A ls Q hx hb hml hts hown hK hE hT hP hD hS hA hl hret
  have hl : lv_has ls 3 [(0, .ref h0)] := hl
  refine lv_aload_n hx hb dX12_readRound_0 rfl (lv_at hl 0 rfl) ?_
  refine va_get (D := G) (ci := 12) (v := .int m_hasRound) (C := RX12) (T := TX12) (N := 65) hx hb hts inT12 hown hK hP 0 rfl rfl 56 (by decide) (hts _ tw_1939) (fun _ h9 => h9) rfl dX12_readRound_1 ?_
  refine lv_if_eq (tgt := 16) hx hb dX12_readRound_4 (by decide) (fun c_1 => ?_) (fun c_1 => ?_)
  · have b_2 := z_feqT c_1
    refine lv_aload_n hx hb dX12_readRound_16 rfl (lv_at hl 0 rfl) ?_
    refine va_get (D := G) (ci := 12) (v := .int m_bad) (C := RX12) (T := TX12) (N := 65) hx hb hts inT12 hown hK hP 0 rfl rfl 12 (by decide) (hts _ tw_1897) (fun _ h9 => h9) rfl dX12_readRound_17 ?_
    refine lv_if_le (tgt := 24) hx hb dX12_readRound_20 (by decide) (fun c_3 => ?_) (fun h9 => (z_no (by have h8 := z_fgtF h9; omega)))
    have b_4 := z_fleT c_3
    refine lv_aload_n hx hb dX12_readRound_24 rfl (lv_at hl 0 rfl) ?_
    refine lv_iconst (v := 1) hx hb dX12_readRound_25 (by decide) ?_
    refine va_put (D := G) (ci := 12) (v := .int 1) (ty := .boolean) (C := RX12) (T := TX12) (N := 65) hx hb hts inT12 tyX12 tyX12_ok nmX12 hown hK hP hD hS 0 rfl rfl 56 (by decide) (hts _ tw_1939) (fun _ h9 => h9) rfl (tyX12_ok 56 (by decide)) rfl rfl (Nat.le_of_ble_eq_true rfl) dX12_readRound_26 (fun H locs hP hD hS => ?_)
    refine lv_aload_n hx hb dX12_readRound_29 rfl (lv_at hl 0 rfl) ?_
    refine z_callVv (As := []) (rest := []) (wr := [(a_c, .inl (cA.1 0, 1825, .inl g_c)), (a_words, .inl (cA.1 1, 105, .inr (.inl g_words))), (a_isOn, .inl (cA.1 3, 10, .inl g_isOn))]) ⟨hx, hb, hml, hown, hts⟩ hK hE hT hP hD hS hA (r_next2 l G cA h0 m_status m_thrown m_above m_under a_traySort a_trayMany a_numbers a_tape m_taped m_textEnd m_faultKind m_faultAt m_bad m_badAt m_token m_at m_behind m_number m_letters m_word a_c a_words m_markMany a_there a_tried a_best a_found m_thereMany m_foundMany m_orderHow m_orderRing m_orderMany m_hasBest m_bestTop m_bestBy a_weights a_shared m_random m_truePlace m_trueWay m_seconds m_done m_feelings m_tries m_leftOver m_playDoor m_playRing m_isOpen m_isOver m_wasTried m_hasPlayed a_feltNow a_last a_kept m_hasSeconds m_hasTurned 1 a_hasFeels a_isOn m_firstAct m_meanTop m_meanBy a_order m_rowMany m_newSteps g_tape hr_m_textEnd hr_m_at hr_m_behind hr_m_token hr_m_number hr_m_letters) lk_RX12_184 ⟨rfl, rfl⟩ ⟨Nat.le_of_ble_eq_true rfl, Nat.le_of_ble_eq_true rfl⟩ 12 rfl rfl rfl [0, 1] [2, 3, 4] rfl rfl (by decide) rfl hl.1 rfl (lv_room (Nat.le_of_ble_eq_true rfl)) dX12_readRound_30 ⟨Nat.le_of_ble_eq_true rfl, Nat.le_of_ble_eq_true rfl⟩ (fun u_12 H locs hw hP hD hS => ?_)
    obtain ⟨n_5, n_6, n_7, n_8, n_9, n_10⟩ := u_12
    try dsimp only at hw
    obtain ⟨he_n_5, he_n_6, he_n_7, he_n_8, he_n_9, he_n_10, hw⟩ := hw
    obtain ⟨hr_n_5, hr_n_6, hr_n_7, hr_n_8, hr_n_9, hf_14, hf_15⟩ := hw
    refine lv_iconst (v := 1) hx hb dX12_readRound_33 (by decide) ?_
    refine lv_istore_n (lv' := [(1, .int 1), (0, .ref h0)]) hx hb dX12_readRound_34 rfl hl (by decide) rfl (fun ls hl => ?_)
    have hlp_261 : ∀ (n_L35a : Nat) (v_135 : Int32) (g_136 : Nat → Int32) (v_137 : Int32) (v_138 : Int32) (v_139 : Int32) (v_140 : Int32) (v_141 : Int32) (v_142 : Int32) (v_143 : Int32) (v_144 : Int64) (H : Heap) (locs : List Loc) (ls : Array Slot), (900 - v_141.toInt + v_135.toInt).toNat < n_L35a → (0 ≤ v_135.toInt ∧ v_135.toInt ≤ 1) → (zC g_136) → (0 ≤ v_137.toInt ∧ v_137.toInt ≤ 0) → (0 ≤ v_139.toInt ∧ v_139.toInt ≤ 4) → (0 ≤ v_140.toInt ∧ v_140.toInt ≤ 900) → (0 ≤ v_141.toInt ∧ v_141.toInt ≤ 900) → (0 ≤ v_142.toInt ∧ v_142.toInt ≤ 9999) → (0 ≤ v_143.toInt ∧ v_143.toInt ≤ 900) → (zNw g_136 g_isOn) → (zNf g_136) → (m_behind.toInt ≤ v_141.toInt) → (v_137.toInt ≤ 0 → v_139.toInt = 0 ∨ m_behind.toInt < v_141.toInt) → (F_r_readRound m_textEnd m_bad m_badAt m_token m_at m_behind m_number m_letters m_word m_hasRound g_tape g_c g_words = F_r_readRound_L35a m_textEnd g_tape g_words n_L35a v_135 g_136 v_137 v_138 v_139 v_140 v_141 v_142 v_143 v_144) → va_P G vwCl [(a_c, .inl (cA.1 0, 1825, .inl g_136)), (a_words, .inl (cA.1 1, 105, .inr (.inl g_words))), (a_isOn, .inl (cA.1 3, 10, .inl g_isOn)), (h0, .inr (12, [.int m_status, .int m_thrown, .long m_above, .long m_under, .ref a_traySort, .ref a_trayMany, .ref a_numbers, .ref a_tape, .int m_taped, .int m_textEnd, .int m_faultKind, .int m_faultAt, .int v_137, .int v_138, .int v_139, .int v_140, .int v_141, .int v_142, .int v_143, .long v_144, .ref a_c, .ref a_words, .int m_markMany, .ref a_there, .ref a_tried, .ref a_best, .ref a_found, .int m_thereMany, .int m_foundMany, .int m_orderHow, .int m_orderRing, .int m_orderMany, .int m_hasBest, .long m_bestTop, .long m_bestBy, .ref a_weights, .ref a_shared, .int m_random, .int m_truePlace, .int m_trueWay, .int m_seconds, .int m_done, .int m_feelings, .int m_tries, .int m_leftOver, .int m_playDoor, .int m_playRing, .int m_isOpen, .int m_isOver, .int m_wasTried, .int m_hasPlayed, .ref a_feltNow, .ref a_last, .ref a_kept, .int m_hasSeconds, .int m_hasTurned, .int 1, .ref a_hasFeels, .ref a_isOn, .int m_firstAct, .long m_meanTop, .long m_meanBy, .ref a_order, .int m_rowMany, .int m_newSteps])), (a_tape, .inl (cA.1 2, 900, .inl g_tape))] H → va_D A [(a_c, .inl (cA.1 0, 1825, .inl g_136)), (a_words, .inl (cA.1 1, 105, .inr (.inl g_words))), (a_isOn, .inl (cA.1 3, 10, .inl g_isOn)), (h0, .inr (12, [.int m_status, .int m_thrown, .long m_above, .long m_under, .ref a_traySort, .ref a_trayMany, .ref a_numbers, .ref a_tape, .int m_taped, .int m_textEnd, .int m_faultKind, .int m_faultAt, .int v_137, .int v_138, .int v_139, .int v_140, .int v_141, .int v_142, .int v_143, .long v_144, .ref a_c, .ref a_words, .int m_markMany, .ref a_there, .ref a_tried, .ref a_best, .ref a_found, .int m_thereMany, .int m_foundMany, .int m_orderHow, .int m_orderRing, .int m_orderMany, .int m_hasBest, .long m_bestTop, .long m_bestBy, .ref a_weights, .ref a_shared, .int m_random, .int m_truePlace, .int m_trueWay, .int m_seconds, .int m_done, .int m_feelings, .int m_tries, .int m_leftOver, .int m_playDoor, .int m_playRing, .int m_isOpen, .int m_isOver, .int m_wasTried, .int m_hasPlayed, .ref a_feltNow, .ref a_last, .ref a_kept, .int m_hasSeconds, .int m_hasTurned, .int 1, .ref a_hasFeels, .ref a_isOn, .int m_firstAct, .long m_meanTop, .long m_meanBy, .ref a_order, .int m_rowMany, .int m_newSteps])), (a_tape, .inl (cA.1 2, 900, .inl g_tape))] → va_S A s.heap H locs → lv_has ls 3 [(0, .ref h0), (1, .int v_135)] → W p l e ({ frames := 4, cells := 0, slots := 0, locals := 90 }) s m args below meth c H locs 0 0 Q (F0 m 35 ls []) := by
      intro n_L35a
      induction n_L35a with
      | zero =>
        intro v_135 g_136 v_137 v_138 v_139 v_140 v_141 v_142 v_143 v_144 H locs ls hmu_hlp_261 hr_v_135 hC_g_136 hr_v_137 hr_v_139 hr_v_140 hr_v_141 hr_v_142 hr_v_143 hs_201 hs_202 hi_203 hi_204 hF_L35a hP hD hS hl
        exact absurd hmu_hlp_261 (Nat.not_lt_zero _)
      | succ n_L35a ih_262 =>
        intro v_135 g_136 v_137 v_138 v_139 v_140 v_141 v_142 v_143 v_144 H locs ls hmu_hlp_261 hr_v_135 hC_g_136 hr_v_137 hr_v_139 hr_v_140 hr_v_141 hr_v_142 hr_v_143 hs_201 hs_202 hi_203 hi_204 hF_L35a hP hD hS hl
        refine lv_iload_n hx hb dX12_readRound_35 rfl (lv_at hl 1 rfl) ?_
        refine lv_if_eq (tgt := 143) hx hb dX12_readRound_36 (by decide) (fun c_263 => ?_) (fun c_263 => ?_)
        · have b_264 := z_feqT c_263
          have hpost : (0 ≤ v_137.toInt ∧ v_137.toInt ≤ 9) ∧ (0 ≤ v_139.toInt ∧ v_139.toInt ≤ 4) ∧ (0 ≤ v_140.toInt ∧ v_140.toInt ≤ 900) ∧ (0 ≤ v_141.toInt ∧ v_141.toInt ≤ 900) ∧ (0 ≤ v_142.toInt ∧ v_142.toInt ≤ 9999) ∧ (0 ≤ v_143.toInt ∧ v_143.toInt ≤ 900) ∧ ((1 : Int32) = 0 ∨ (1 : Int32) = 1) ∧ (zC g_136) ∧ (zNw g_136 g_isOn) ∧ (m_behind.toInt ≤ v_141.toInt) ∧ (0 < m_bad.toInt → 0 < v_137.toInt) ∧ (v_137.toInt ≤ 0 → v_139.toInt = 0 ∨ m_behind.toInt < v_141.toInt) ∧ (v_137.toInt ≤ 0 → v_139.toInt = 3 → v_142.toInt = 59 → zNf g_136) := ⟨(z_rgw hr_v_137 (by decide) (by decide)), hr_v_139, hr_v_140, hr_v_141, hr_v_142, hr_v_143, (Or.inr rfl), hC_g_136, hs_201, (by omega), (by omega), (by omega), (fun _ _ _ => hs_202)⟩
          have hX_265 : F_r_readRound m_textEnd m_bad m_badAt m_token m_at m_behind m_number m_letters m_word m_hasRound g_tape g_c g_words = ((v_137, v_138, v_139, v_140, v_141, v_142, v_143, v_144, (1 : Int32), g_136) : Int32 × Int32 × Int32 × Int32 × Int32 × Int32 × Int32 × Int64 × Int32 × (Nat → Int32)) := by
            refine hF_L35a.trans ?_
            refine (F_r_readRound_L35a_s ..).trans ?_
            refine (if_pos c_263).trans ?_
            exact rfl
          exact hret _ _ _ _ _ (v_137, v_138, v_139, v_140, v_141, v_142, v_143, v_144, 1, g_136) [3, 4, 0, 1, 2] hP hD hS rfl (by decide) dX12_readRound_143 ⟨(congrArg (fun z9 => z9.1) hX_265).symm, (congrArg (fun z9 => z9.2.1) hX_265).symm, (congrArg (fun z9 => z9.2.2.1) hX_265).symm, (congrArg (fun z9 => z9.2.2.2.1) hX_265).symm, (congrArg (fun z9 => z9.2.2.2.2.1) hX_265).symm, (congrArg (fun z9 => z9.2.2.2.2.2.1) hX_265).symm, (congrArg (fun z9 => z9.2.2.2.2.2.2.1) hX_265).symm, (congrArg (fun z9 => z9.2.2.2.2.2.2.2.1) hX_265).symm, (congrArg (fun z9 => z9.2.2.2.2.2.2.2.2.1) hX_265).symm, (congrArg (fun z9 => z9.2.2.2.2.2.2.2.2.2) hX_265).symm, hpost⟩
        · have b_266 := z_fneF c_263
          refine lv_aload_n hx hb dX12_readRound_39 rfl (lv_at hl 0 rfl) ?_
          refine va_get (D := G) (ci := 12) (v := .int v_137) (C := RX12) (T := TX12) (N := 65) hx hb hts inT12 hown hK hP 3 rfl rfl 12 (by decide) (hts _ tw_1897) (fun _ h9 => h9) rfl dX12_readRound_40 ?_
          refine lv_if_ne (tgt := 143) hx hb dX12_readRound_43 (by decide) (fun h9 => (z_no (by have h8 := z_fneT h9; omega))) (fun c_267 => ?_)
          have b_268 := z_feqF c_267
          refine lv_aload_n hx hb dX12_readRound_46 rfl (lv_at hl 0 rfl) ?_
          refine lv_iconst (v := 3) hx hb dX12_readRound_47 (by decide) ?_
          refine lv_bipush (v := 16) hx hb dX12_readRound_48 (by decide) ?_
          refine z_callVi (As := [.int 3, .int 16]) (rest := []) (wr := [(a_isOn, .inl (cA.1 3, 10, .inl g_isOn)), (a_tape, .inl (cA.1 2, 900, .inl g_tape))]) ⟨hx, hb, hml, hown, hts⟩ hK hE hT hP hD hS hA (r_readOld_3 l G cA h0 m_status m_thrown m_above m_under a_traySort a_trayMany a_numbers a_tape m_taped m_textEnd m_faultKind m_faultAt v_137 v_138 v_139 v_140 v_141 v_142 v_143 v_144 a_c a_words m_markMany a_there a_tried a_best a_found m_thereMany m_foundMany m_orderHow m_orderRing m_orderMany m_hasBest m_bestTop m_bestBy a_weights a_shared m_random m_truePlace m_trueWay m_seconds m_done m_feelings m_tries m_leftOver m_playDoor m_playRing m_isOpen m_isOver m_wasTried m_hasPlayed a_feltNow a_last a_kept m_hasSeconds m_hasTurned 1 a_hasFeels a_isOn m_firstAct m_meanTop m_meanBy a_order m_rowMany m_newSteps g_136 g_words hr_v_140 (z_rgw hr_v_137 (by decide) (by decide)) hr_v_139 hr_v_143 hC_g_136) lk_RX12_217 ⟨rfl, rfl⟩ ⟨Nat.le_of_ble_eq_true rfl, Nat.le_of_ble_eq_true rfl⟩ 12 rfl rfl rfl [3, 0, 1] [2, 4] rfl rfl (by decide) rfl hl.1 rfl (lv_room (Nat.le_of_ble_eq_true rfl)) dX12_readRound_50 ⟨Nat.le_of_ble_eq_true rfl, Nat.le_of_ble_eq_true rfl⟩ (fun r_271 u_272 H locs hw hP hD hS => ?_)
          obtain ⟨n_269, n_270⟩ := u_272
          try dsimp only at hw
          obtain ⟨he_r_271, he_n_269, he_n_270, hw⟩ := hw
          obtain ⟨hr_r_271, hr_n_269, hf_274, hf_275, hf_276⟩ := hw
          refine lv_istore_n (lv' := [(2, .int r_271), (0, .ref h0), (1, .int v_135)]) hx hb dX12_readRound_53 rfl hl (by decide) rfl (fun ls hl => ?_)
          refine lv_aload_n hx hb dX12_readRound_54 rfl (lv_at hl 1 rfl) ?_
          refine va_get (D := G) (ci := 12) (v := .int n_269) (C := RX12) (T := TX12) (N := 65) hx hb hts inT12 hown hK hP 2 rfl rfl 12 (by decide) (hts _ tw_1897) (fun _ h9 => h9) rfl dX12_readRound_55 ?_
          refine lv_if_ne (tgt := 84) hx hb dX12_readRound_58 (by decide) (fun c_277 => ?_) (fun c_277 => ?_)
          · have b_278 := z_fneT c_277
            refine lv_aload_n hx hb dX12_readRound_84 rfl (lv_at hl 1 rfl) ?_
            refine va_get (D := G) (ci := 12) (v := .int n_269) (C := RX12) (T := TX12) (N := 65) hx hb hts inT12 hown hK hP 2 rfl rfl 12 (by decide) (hts _ tw_1897) (fun _ h9 => h9) rfl dX12_readRound_85 ?_
            refine lv_if_le (tgt := 92) hx hb dX12_readRound_88 (by decide) (fun h9 => (z_no (by have h8 := z_fleT h9; omega))) (fun c_279 => ?_)
            have b_280 := z_fgtF c_279
            have hpost : (0 ≤ n_269.toInt ∧ n_269.toInt ≤ 9) ∧ (0 ≤ v_139.toInt ∧ v_139.toInt ≤ 4) ∧ (0 ≤ v_140.toInt ∧ v_140.toInt ≤ 900) ∧ (0 ≤ v_141.toInt ∧ v_141.toInt ≤ 900) ∧ (0 ≤ v_142.toInt ∧ v_142.toInt ≤ 9999) ∧ (0 ≤ v_143.toInt ∧ v_143.toInt ≤ 900) ∧ ((1 : Int32) = 0 ∨ (1 : Int32) = 1) ∧ (zC g_136) ∧ (zNw g_136 g_isOn) ∧ (m_behind.toInt ≤ v_141.toInt) ∧ (0 < m_bad.toInt → 0 < n_269.toInt) ∧ (n_269.toInt ≤ 0 → v_139.toInt = 0 ∨ m_behind.toInt < v_141.toInt) ∧ (n_269.toInt ≤ 0 → v_139.toInt = 3 → v_142.toInt = 59 → zNf g_136) := ⟨hr_n_269, hr_v_139, hr_v_140, hr_v_141, hr_v_142, hr_v_143, (Or.inr rfl), hC_g_136, hs_201, (by omega), (by omega), (by omega), (fun _ _ _ => hs_202)⟩
            have hX_281 : F_r_readRound m_textEnd m_bad m_badAt m_token m_at m_behind m_number m_letters m_word m_hasRound g_tape g_c g_words = ((n_269, n_270, v_139, v_140, v_141, v_142, v_143, v_144, (1 : Int32), g_136) : Int32 × Int32 × Int32 × Int32 × Int32 × Int32 × Int32 × Int64 × Int32 × (Nat → Int32)) := by
              refine hF_L35a.trans ?_
              refine (F_r_readRound_L35a_s ..).trans ?_
              refine (if_neg c_263).trans ?_
              extract_lets -merge -useContext +onlyGivenNames w9 y1_0 y1_1 y1_2; have e9 : (r_271, n_269, n_270) = w9 := ((z_tS he_r_271 (z_tS he_n_269 he_n_270.symm))).symm; clear_value w9; subst e9
              refine (if_neg c_277).trans ?_
              exact rfl
            exact hret _ _ _ _ _ (n_269, n_270, v_139, v_140, v_141, v_142, v_143, v_144, 1, g_136) [2, 1, 3, 4, 0] hP hD hS rfl (by decide) dX12_readRound_91 ⟨(congrArg (fun z9 => z9.1) hX_281).symm, (congrArg (fun z9 => z9.2.1) hX_281).symm, (congrArg (fun z9 => z9.2.2.1) hX_281).symm, (congrArg (fun z9 => z9.2.2.2.1) hX_281).symm, (congrArg (fun z9 => z9.2.2.2.2.1) hX_281).symm, (congrArg (fun z9 => z9.2.2.2.2.2.1) hX_281).symm, (congrArg (fun z9 => z9.2.2.2.2.2.2.1) hX_281).symm, (congrArg (fun z9 => z9.2.2.2.2.2.2.2.1) hX_281).symm, (congrArg (fun z9 => z9.2.2.2.2.2.2.2.2.1) hX_281).symm, (congrArg (fun z9 => z9.2.2.2.2.2.2.2.2.2) hX_281).symm, hpost⟩
          · have b_282 := z_feqF c_277
            refine lv_aload_n hx hb dX12_readRound_61 rfl (lv_at hl 1 rfl) ?_
            refine va_get (D := G) (ci := 12) (v := .ref a_c) (C := RX12) (T := TX12) (N := 65) hx hb hts inT12 hown hK hP 2 rfl rfl 20 (by decide) (hts _ tw_1905) (fun _ h9 => h9) rfl dX12_readRound_62 ?_
            refine lv_sipush (v := 1464) hx hb dX12_readRound_65 (by decide) ?_
            refine va_iald hx hb hK hP 3 0 rfl rfl (z_in (i := 1464) (n := 1825) (by decide +kernel) (by decide +kernel)) dX12_readRound_68 ?_
            refine lv_topi (fun x_283 he_x_283 => ?_)
            have hr_x_283 := z_ctk hC_g_136 he_x_283 (k := 1464) (lo := 0) (hi := 12) (by decide +kernel) (by decide +kernel) (by decide +kernel)
            have hv_x_283 := z_cv he_x_283 (k := 1464) (by decide +kernel)
            refine lv_bipush (v := 12) hx hb dX12_readRound_69 (by decide) ?_
            refine lv_icmp_ne (tgt := 84) hx hb dX12_readRound_71 (by decide) (fun c_284 => ?_) (fun c_284 => ?_)
            · have b_285 := z_fneT c_284
              refine lv_aload_n hx hb dX12_readRound_84 rfl (lv_at hl 1 rfl) ?_
              refine va_get (D := G) (ci := 12) (v := .int n_269) (C := RX12) (T := TX12) (N := 65) hx hb hts inT12 hown hK hP 2 rfl rfl 12 (by decide) (hts _ tw_1897) (fun _ h9 => h9) rfl dX12_readRound_85 ?_
              refine lv_if_le (tgt := 92) hx hb dX12_readRound_88 (by decide) (fun c_286 => ?_) (fun h9 => (z_no (by have h8 := z_fgtF h9; omega)))
              have b_287 := z_fleT c_286
              refine lv_aload_n hx hb dX12_readRound_92 rfl (lv_at hl 1 rfl) ?_
              refine va_get (D := G) (ci := 12) (v := .ref a_c) (C := RX12) (T := TX12) (N := 65) hx hb hts inT12 hown hK hP 2 rfl rfl 20 (by decide) (hts _ tw_1905) (fun _ h9 => h9) rfl dX12_readRound_93 ?_
              refine lv_sipush (v := 1598) hx hb dX12_readRound_96 (by decide) ?_
              refine lv_aload_n hx hb dX12_readRound_99 rfl (lv_at hl 1 rfl) ?_
              refine va_get (D := G) (ci := 12) (v := .ref a_c) (C := RX12) (T := TX12) (N := 65) hx hb hts inT12 hown hK hP 2 rfl rfl 20 (by decide) (hts _ tw_1905) (fun _ h9 => h9) rfl dX12_readRound_100 ?_
              refine lv_sipush (v := 1464) hx hb dX12_readRound_103 (by decide) ?_
              refine va_iald hx hb hK hP 3 0 rfl rfl (z_in (i := 1464) (n := 1825) (by decide +kernel) (by decide +kernel)) dX12_readRound_106 ?_
              refine lv_topi (fun x_288 he_x_288 => ?_)
              have hr_x_288 := z_ctk hC_g_136 he_x_288 (k := 1464) (lo := 0) (hi := 12) (by decide +kernel) (by decide +kernel) (by decide +kernel)
              have hv_x_288 := z_cv he_x_288 (k := 1464) (by decide +kernel)
              refine lv_iadd hx hb dX12_readRound_107 ?_
              refine lv_topi (fun x_289 he_x_289 => ?_)
              have hq_x_289 := z_addq he_x_289 hk_1598 (rfl : x_288.toInt = _) (by omega) (by omega)
              refine lv_iload_n hx hb dX12_readRound_108 rfl (lv_at hl 0 rfl) ?_
              refine z_iast hx hb hK hP hD hS 3 0 rfl rfl (z_inN (by omega) (by omega)) dX12_readRound_109 (fun g_290 hg_g_290 H locs hP hD hS => ?_)
              have hC_g_290 := z_ctU hC_g_136 hg_g_290 (a := 1598) (b := 1609) (lo := 0) (hi := 4) (by decide +kernel) (by decide +kernel) (by omega) (by omega) (by omega)
              have hw_g_290_1463 := z_cwo hg_g_290 (k := 1463) (by omega) (by omega)
              have hw_g_290_1464 := z_cwo hg_g_290 (k := 1464) (by omega) (by omega)
              have hs_291 : zNw g_290 g_isOn := (zNw_fr hs_201 hg_g_290 (a := 1598) (b := 1609) (by decide +kernel) (by omega) (by omega))
              have hs_292 : zNf g_290 := (zNf_fr hs_202 hg_g_290 (a := 1598) (b := 1609) (by decide +kernel) (by omega) (by omega))
              refine lv_aload_n hx hb dX12_readRound_110 rfl (lv_at hl 1 rfl) ?_
              refine va_get (D := G) (ci := 12) (v := .ref a_c) (C := RX12) (T := TX12) (N := 65) hx hb hts inT12 hown hK hP 2 rfl rfl 20 (by decide) (hts _ tw_1905) (fun _ h9 => h9) rfl dX12_readRound_111 ?_
              refine lv_sipush (v := 1464) hx hb dX12_readRound_114 (by decide) ?_
              refine lv_dup2_11 hx hb dX12_readRound_117 rfl rfl ?_
              refine va_iald hx hb hK hP 3 0 rfl rfl (z_in (i := 1464) (n := 1825) (by decide +kernel) (by decide +kernel)) dX12_readRound_118 ?_
              refine lv_topi (fun x_293 he_x_293 => ?_)
              have hr_x_293 := z_ctk hC_g_290 he_x_293 (k := 1464) (lo := 0) (hi := 12) (by decide +kernel) (by decide +kernel) (by decide +kernel)
              have hv_x_293 := z_cv he_x_293 (k := 1464) (by decide +kernel)
              refine lv_iconst (v := 1) hx hb dX12_readRound_119 (by decide) ?_
              refine lv_iadd hx hb dX12_readRound_120 ?_
              refine lv_topi (fun x_294 he_x_294 => ?_)
              have hq_x_294 := z_addq he_x_294 (rfl : x_293.toInt = _) hk_1 (by omega) (by omega)
              refine z_iast hx hb hK hP hD hS 3 0 rfl rfl (z_in (i := 1464) (n := 1825) (by decide +kernel) (by decide +kernel)) dX12_readRound_121 (fun g_295 hg_g_295 H locs hP hD hS => ?_)
              have hC_g_295 := z_ctUk hC_g_290 hg_g_295 (k := 1464) (lo := 0) (hi := 12) (by decide +kernel) (by decide +kernel) (by decide +kernel) (by omega)
              have hw_g_295_1463 := z_cwo hg_g_295 (k := 1463) (by decide +kernel) (by decide +kernel)
              have hw_g_295_1464 := z_cwk hg_g_295 (k := 1464) (by decide +kernel)
              have hs_296 : zNw g_295 g_isOn := (zNw_fr hs_291 hg_g_295 (a := 1464) (b := 1464) (by decide +kernel) (by decide +kernel) (by decide +kernel))
              have hs_297 : zNf g_295 := (zNf_fr hs_292 hg_g_295 (a := 1464) (b := 1464) (by decide +kernel) (by decide +kernel) (by decide +kernel))
              refine lv_aload_n hx hb dX12_readRound_122 rfl (lv_at hl 1 rfl) ?_
              refine z_callVv (As := []) (rest := []) (wr := [(a_isOn, .inl (cA.1 3, 10, .inl g_isOn)), (a_c, .inl (cA.1 0, 1825, .inl g_295)), (a_words, .inl (cA.1 1, 105, .inr (.inl g_words)))]) ⟨hx, hb, hml, hown, hts⟩ hK hE hT hP hD hS hA (r_next2 l G cA h0 m_status m_thrown m_above m_under a_traySort a_trayMany a_numbers a_tape m_taped m_textEnd m_faultKind m_faultAt n_269 n_270 v_139 v_140 v_141 v_142 v_143 v_144 a_c a_words m_markMany a_there a_tried a_best a_found m_thereMany m_foundMany m_orderHow m_orderRing m_orderMany m_hasBest m_bestTop m_bestBy a_weights a_shared m_random m_truePlace m_trueWay m_seconds m_done m_feelings m_tries m_leftOver m_playDoor m_playRing m_isOpen m_isOver m_wasTried m_hasPlayed a_feltNow a_last a_kept m_hasSeconds m_hasTurned 1 a_hasFeels a_isOn m_firstAct m_meanTop m_meanBy a_order m_rowMany m_newSteps g_tape hr_m_textEnd hr_v_140 hr_v_141 hr_v_139 hr_v_142 hr_v_143) lk_RX12_184 ⟨rfl, rfl⟩ ⟨Nat.le_of_ble_eq_true rfl, Nat.le_of_ble_eq_true rfl⟩ 12 rfl rfl rfl [2, 1] [0, 3, 4] rfl rfl (by decide) rfl hl.1 rfl (lv_room (Nat.le_of_ble_eq_true rfl)) dX12_readRound_123 ⟨Nat.le_of_ble_eq_true rfl, Nat.le_of_ble_eq_true rfl⟩ (fun u_305 H locs hw hP hD hS => ?_)
              obtain ⟨n_298, n_299, n_300, n_301, n_302, n_303⟩ := u_305
              try dsimp only at hw
              obtain ⟨he_n_298, he_n_299, he_n_300, he_n_301, he_n_302, he_n_303, hw⟩ := hw
              obtain ⟨hr_n_298, hr_n_299, hr_n_300, hr_n_301, hr_n_302, hf_307, hf_308⟩ := hw
              refine lv_aload_n hx hb dX12_readRound_126 rfl (lv_at hl 1 rfl) ?_
              refine va_get (D := G) (ci := 12) (v := .int n_298) (C := RX12) (T := TX12) (N := 65) hx hb hts inT12 hown hK hP 3 rfl rfl 14 (by decide) (hts _ tw_1899) (fun _ h9 => h9) rfl dX12_readRound_127 ?_
              refine lv_iconst (v := 1) hx hb dX12_readRound_130 (by decide) ?_
              refine lv_icmp_ne (tgt := 138) hx hb dX12_readRound_131 (by decide) (fun c_309 => ?_) (fun c_309 => ?_)
              · have b_310 := z_fneT c_309
                refine lv_iconst (v := 0) hx hb dX12_readRound_138 (by decide) ?_
                refine lv_istore_n (lv' := [(1, .int 0), (2, .int r_271), (0, .ref h0)]) hx hb dX12_readRound_139 rfl hl (by decide) rfl (fun ls hl => ?_)
                refine lv_goto (tgt := 35) hx hb dX12_readRound_140 (by decide) ?_
                have hX_311 : F_r_readRound m_textEnd m_bad m_badAt m_token m_at m_behind m_number m_letters m_word m_hasRound g_tape g_c g_words = F_r_readRound_L35a m_textEnd g_tape g_words n_L35a (0 : Int32) g_295 n_269 n_270 n_298 n_299 n_300 n_301 n_302 n_303 := by
                  refine hF_L35a.trans ?_
                  refine (F_r_readRound_L35a_s ..).trans ?_
                  refine (if_neg c_263).trans ?_
                  extract_lets -merge -useContext +onlyGivenNames w9 y1_0 y1_1 y1_2; have e9 : (r_271, n_269, n_270) = w9 := ((z_tS he_r_271 (z_tS he_n_269 he_n_270.symm))).symm; clear_value w9; subst e9
                  refine (if_pos c_277).trans ?_
                  try (extract_lets -merge -useContext +onlyGivenNames y9; have e9 : x_283 = y9 := (by first | exact he_x_283 | exact he_x_283.symm); clear_value y9; subst e9)
                  refine (if_neg c_284).trans ?_
                  try (extract_lets -merge -useContext +onlyGivenNames y9; have e9 : x_288 = y9 := (by first | exact he_x_288 | exact he_x_288.symm); clear_value y9; subst e9)
                  try (extract_lets -merge -useContext +onlyGivenNames y9; have e9 : x_289 = y9 := (by first | exact he_x_289 | exact he_x_289.symm); clear_value y9; subst e9)
                  try (extract_lets -merge -useContext +onlyGivenNames y9; have e9 : g_290 = y9 := (by first | exact hg_g_290 | exact hg_g_290.symm); clear_value y9; subst e9)
                  try (extract_lets -merge -useContext +onlyGivenNames y9; have e9 : x_293 = y9 := (by first | exact he_x_293 | exact he_x_293.symm); clear_value y9; subst e9)
                  try (extract_lets -merge -useContext +onlyGivenNames y9; have e9 : x_294 = y9 := (by first | exact he_x_294 | exact he_x_294.symm); clear_value y9; subst e9)
                  try (extract_lets -merge -useContext +onlyGivenNames y9; have e9 : g_295 = y9 := (by first | exact hg_g_295 | exact hg_g_295.symm); clear_value y9; subst e9)
                  extract_lets -merge -useContext +onlyGivenNames w9 y11_0 y11_1 y11_2 y11_3 y11_4 y11_5; have e9 : (n_298, n_299, n_300, n_301, n_302, n_303) = w9 := ((z_tS he_n_298 (z_tS he_n_299 (z_tS he_n_300 (z_tS he_n_301 (z_tS he_n_302 he_n_303.symm)))))).symm; clear_value w9; subst e9
                  refine (if_neg c_309).trans ?_
                  exact rfl
                have hP := hP.sub (ws' := [(a_c, .inl (cA.1 0, 1825, .inl g_295)), (a_words, .inl (cA.1 1, 105, .inr (.inl g_words))), (a_isOn, .inl (cA.1 3, 10, .inl g_isOn)), (h0, .inr (12, [.int m_status, .int m_thrown, .long m_above, .long m_under, .ref a_traySort, .ref a_trayMany, .ref a_numbers, .ref a_tape, .int m_taped, .int m_textEnd, .int m_faultKind, .int m_faultAt, .int n_269, .int n_270, .int n_298, .int n_299, .int n_300, .int n_301, .int n_302, .long n_303, .ref a_c, .ref a_words, .int m_markMany, .ref a_there, .ref a_tried, .ref a_best, .ref a_found, .int m_thereMany, .int m_foundMany, .int m_orderHow, .int m_orderRing, .int m_orderMany, .int m_hasBest, .long m_bestTop, .long m_bestBy, .ref a_weights, .ref a_shared, .int m_random, .int m_truePlace, .int m_trueWay, .int m_seconds, .int m_done, .int m_feelings, .int m_tries, .int m_leftOver, .int m_playDoor, .int m_playRing, .int m_isOpen, .int m_isOver, .int m_wasTried, .int m_hasPlayed, .ref a_feltNow, .ref a_last, .ref a_kept, .int m_hasSeconds, .int m_hasTurned, .int 1, .ref a_hasFeels, .ref a_isOn, .int m_firstAct, .long m_meanTop, .long m_meanBy, .ref a_order, .int m_rowMany, .int m_newSteps])), (a_tape, .inl (cA.1 2, 900, .inl g_tape))]) [1, 2, 0, 3, 4] rfl
                have hD := hD.sub (ws' := [(a_c, .inl (cA.1 0, 1825, .inl g_295)), (a_words, .inl (cA.1 1, 105, .inr (.inl g_words))), (a_isOn, .inl (cA.1 3, 10, .inl g_isOn)), (h0, .inr (12, [.int m_status, .int m_thrown, .long m_above, .long m_under, .ref a_traySort, .ref a_trayMany, .ref a_numbers, .ref a_tape, .int m_taped, .int m_textEnd, .int m_faultKind, .int m_faultAt, .int n_269, .int n_270, .int n_298, .int n_299, .int n_300, .int n_301, .int n_302, .long n_303, .ref a_c, .ref a_words, .int m_markMany, .ref a_there, .ref a_tried, .ref a_best, .ref a_found, .int m_thereMany, .int m_foundMany, .int m_orderHow, .int m_orderRing, .int m_orderMany, .int m_hasBest, .long m_bestTop, .long m_bestBy, .ref a_weights, .ref a_shared, .int m_random, .int m_truePlace, .int m_trueWay, .int m_seconds, .int m_done, .int m_feelings, .int m_tries, .int m_leftOver, .int m_playDoor, .int m_playRing, .int m_isOpen, .int m_isOver, .int m_wasTried, .int m_hasPlayed, .ref a_feltNow, .ref a_last, .ref a_kept, .int m_hasSeconds, .int m_hasTurned, .int 1, .ref a_hasFeels, .ref a_isOn, .int m_firstAct, .long m_meanTop, .long m_meanBy, .ref a_order, .int m_rowMany, .int m_newSteps])), (a_tape, .inl (cA.1 2, 900, .inl g_tape))]) [1, 2, 0, 3, 4] (by decide) rfl
                exact ih_262 0 g_295 n_269 n_270 n_298 n_299 n_300 n_301 n_302 n_303 H locs ls (by omega) (by decide +kernel) hC_g_295 (by omega) hr_n_298 hr_n_299 hr_n_300 hr_n_301 hr_n_302 hs_296 hs_297 (by omega) (by omega) hX_311 hP hD hS (lv_sub hl [2, 0] rfl)
              · have b_312 := z_feqF c_309
                refine lv_iconst (v := 1) hx hb dX12_readRound_134 (by decide) ?_
                refine lv_goto (tgt := 139) hx hb dX12_readRound_135 (by decide) ?_
                refine lv_istore_n (lv' := [(1, .int 1), (2, .int r_271), (0, .ref h0)]) hx hb dX12_readRound_139 rfl hl (by decide) rfl (fun ls hl => ?_)
                refine lv_goto (tgt := 35) hx hb dX12_readRound_140 (by decide) ?_
                have hX_313 : F_r_readRound m_textEnd m_bad m_badAt m_token m_at m_behind m_number m_letters m_word m_hasRound g_tape g_c g_words = F_r_readRound_L35a m_textEnd g_tape g_words n_L35a (1 : Int32) g_295 n_269 n_270 n_298 n_299 n_300 n_301 n_302 n_303 := by
                  refine hF_L35a.trans ?_
                  refine (F_r_readRound_L35a_s ..).trans ?_
                  refine (if_neg c_263).trans ?_
                  extract_lets -merge -useContext +onlyGivenNames w9 y1_0 y1_1 y1_2; have e9 : (r_271, n_269, n_270) = w9 := ((z_tS he_r_271 (z_tS he_n_269 he_n_270.symm))).symm; clear_value w9; subst e9
                  refine (if_pos c_277).trans ?_
                  try (extract_lets -merge -useContext +onlyGivenNames y9; have e9 : x_283 = y9 := (by first | exact he_x_283 | exact he_x_283.symm); clear_value y9; subst e9)
                  refine (if_neg c_284).trans ?_
                  try (extract_lets -merge -useContext +onlyGivenNames y9; have e9 : x_288 = y9 := (by first | exact he_x_288 | exact he_x_288.symm); clear_value y9; subst e9)
                  try (extract_lets -merge -useContext +onlyGivenNames y9; have e9 : x_289 = y9 := (by first | exact he_x_289 | exact he_x_289.symm); clear_value y9; subst e9)
                  try (extract_lets -merge -useContext +onlyGivenNames y9; have e9 : g_290 = y9 := (by first | exact hg_g_290 | exact hg_g_290.symm); clear_value y9; subst e9)
                  try (extract_lets -merge -useContext +onlyGivenNames y9; have e9 : x_293 = y9 := (by first | exact he_x_293 | exact he_x_293.symm); clear_value y9; subst e9)
                  try (extract_lets -merge -useContext +onlyGivenNames y9; have e9 : x_294 = y9 := (by first | exact he_x_294 | exact he_x_294.symm); clear_value y9; subst e9)
                  try (extract_lets -merge -useContext +onlyGivenNames y9; have e9 : g_295 = y9 := (by first | exact hg_g_295 | exact hg_g_295.symm); clear_value y9; subst e9)
                  extract_lets -merge -useContext +onlyGivenNames w9 y11_0 y11_1 y11_2 y11_3 y11_4 y11_5; have e9 : (n_298, n_299, n_300, n_301, n_302, n_303) = w9 := ((z_tS he_n_298 (z_tS he_n_299 (z_tS he_n_300 (z_tS he_n_301 (z_tS he_n_302 he_n_303.symm)))))).symm; clear_value w9; subst e9
                  refine (if_pos c_309).trans ?_
                  exact rfl
                have hP := hP.sub (ws' := [(a_c, .inl (cA.1 0, 1825, .inl g_295)), (a_words, .inl (cA.1 1, 105, .inr (.inl g_words))), (a_isOn, .inl (cA.1 3, 10, .inl g_isOn)), (h0, .inr (12, [.int m_status, .int m_thrown, .long m_above, .long m_under, .ref a_traySort, .ref a_trayMany, .ref a_numbers, .ref a_tape, .int m_taped, .int m_textEnd, .int m_faultKind, .int m_faultAt, .int n_269, .int n_270, .int n_298, .int n_299, .int n_300, .int n_301, .int n_302, .long n_303, .ref a_c, .ref a_words, .int m_markMany, .ref a_there, .ref a_tried, .ref a_best, .ref a_found, .int m_thereMany, .int m_foundMany, .int m_orderHow, .int m_orderRing, .int m_orderMany, .int m_hasBest, .long m_bestTop, .long m_bestBy, .ref a_weights, .ref a_shared, .int m_random, .int m_truePlace, .int m_trueWay, .int m_seconds, .int m_done, .int m_feelings, .int m_tries, .int m_leftOver, .int m_playDoor, .int m_playRing, .int m_isOpen, .int m_isOver, .int m_wasTried, .int m_hasPlayed, .ref a_feltNow, .ref a_last, .ref a_kept, .int m_hasSeconds, .int m_hasTurned, .int 1, .ref a_hasFeels, .ref a_isOn, .int m_firstAct, .long m_meanTop, .long m_meanBy, .ref a_order, .int m_rowMany, .int m_newSteps])), (a_tape, .inl (cA.1 2, 900, .inl g_tape))]) [1, 2, 0, 3, 4] rfl
                have hD := hD.sub (ws' := [(a_c, .inl (cA.1 0, 1825, .inl g_295)), (a_words, .inl (cA.1 1, 105, .inr (.inl g_words))), (a_isOn, .inl (cA.1 3, 10, .inl g_isOn)), (h0, .inr (12, [.int m_status, .int m_thrown, .long m_above, .long m_under, .ref a_traySort, .ref a_trayMany, .ref a_numbers, .ref a_tape, .int m_taped, .int m_textEnd, .int m_faultKind, .int m_faultAt, .int n_269, .int n_270, .int n_298, .int n_299, .int n_300, .int n_301, .int n_302, .long n_303, .ref a_c, .ref a_words, .int m_markMany, .ref a_there, .ref a_tried, .ref a_best, .ref a_found, .int m_thereMany, .int m_foundMany, .int m_orderHow, .int m_orderRing, .int m_orderMany, .int m_hasBest, .long m_bestTop, .long m_bestBy, .ref a_weights, .ref a_shared, .int m_random, .int m_truePlace, .int m_trueWay, .int m_seconds, .int m_done, .int m_feelings, .int m_tries, .int m_leftOver, .int m_playDoor, .int m_playRing, .int m_isOpen, .int m_isOver, .int m_wasTried, .int m_hasPlayed, .ref a_feltNow, .ref a_last, .ref a_kept, .int m_hasSeconds, .int m_hasTurned, .int 1, .ref a_hasFeels, .ref a_isOn, .int m_firstAct, .long m_meanTop, .long m_meanBy, .ref a_order, .int m_rowMany, .int m_newSteps])), (a_tape, .inl (cA.1 2, 900, .inl g_tape))]) [1, 2, 0, 3, 4] (by decide) rfl
                exact ih_262 1 g_295 n_269 n_270 n_298 n_299 n_300 n_301 n_302 n_303 H locs ls (by omega) (by decide +kernel) hC_g_295 (by omega) hr_n_298 hr_n_299 hr_n_300 hr_n_301 hr_n_302 hs_296 hs_297 (by omega) (by omega) hX_313 hP hD hS (lv_sub hl [2, 0] rfl)
            · have b_314 := z_feqF c_284
              refine lv_aload_n hx hb dX12_readRound_74 rfl (lv_at hl 1 rfl) ?_
              refine lv_bipush (v := 6) hx hb dX12_readRound_75 (by decide) ?_
              refine lv_aload_n hx hb dX12_readRound_77 rfl (lv_at hl 1 rfl) ?_
              refine va_get (D := G) (ci := 12) (v := .int v_140) (C := RX12) (T := TX12) (N := 65) hx hb hts inT12 hown hK hP 2 rfl rfl 15 (by decide) (hts _ tw_1900) (fun _ h9 => h9) rfl dX12_readRound_78 ?_
              refine z_callVv (As := [.int 6, .int v_140]) (rest := []) (wr := [(a_isOn, .inl (cA.1 3, 10, .inl g_isOn)), (a_tape, .inl (cA.1 2, 900, .inl g_tape)), (a_c, .inl (cA.1 0, 1825, .inl g_136)), (a_words, .inl (cA.1 1, 105, .inr (.inl g_words)))]) ⟨hx, hb, hml, hown, hts⟩ hK hE hT hP hD hS hA (r_fail l G cA h0 m_status m_thrown m_above m_under a_traySort a_trayMany a_numbers a_tape m_taped m_textEnd m_faultKind m_faultAt n_269 n_270 v_139 v_140 v_141 v_142 v_143 v_144 a_c a_words m_markMany a_there a_tried a_best a_found m_thereMany m_foundMany m_orderHow m_orderRing m_orderMany m_hasBest m_bestTop m_bestBy a_weights a_shared m_random m_truePlace m_trueWay m_seconds m_done m_feelings m_tries m_leftOver m_playDoor m_playRing m_isOpen m_isOver m_wasTried m_hasPlayed a_feltNow a_last a_kept m_hasSeconds m_hasTurned 1 a_hasFeels a_isOn m_firstAct m_meanTop m_meanBy a_order m_rowMany m_newSteps 6 v_140 (by decide +kernel) hr_n_269) lk_RX12_180 ⟨rfl, rfl⟩ ⟨Nat.le_of_ble_eq_true rfl, Nat.le_of_ble_eq_true rfl⟩ 12 rfl rfl rfl [2] [0, 1, 3, 4] rfl rfl (by decide) rfl hl.1 rfl (lv_room (Nat.le_of_ble_eq_true rfl)) dX12_readRound_81 ⟨Nat.le_of_ble_eq_true rfl, Nat.le_of_ble_eq_true rfl⟩ (fun u_318 H locs hw hP hD hS => ?_)
              obtain ⟨n_315, n_316⟩ := u_318
              try dsimp only at hw
              obtain ⟨he_n_315, he_n_316, hw⟩ := hw
              obtain ⟨hr_n_315, hf_320⟩ := hw
              refine lv_aload_n hx hb dX12_readRound_84 rfl (lv_at hl 1 rfl) ?_
              refine va_get (D := G) (ci := 12) (v := .int n_315) (C := RX12) (T := TX12) (N := 65) hx hb hts inT12 hown hK hP 4 rfl rfl 12 (by decide) (hts _ tw_1897) (fun _ h9 => h9) rfl dX12_readRound_85 ?_
              refine lv_if_le (tgt := 92) hx hb dX12_readRound_88 (by decide) (fun h9 => (z_no (by have h8 := z_fleT h9; omega))) (fun c_321 => ?_)
              have b_322 := z_fgtF c_321
              have hpost : (0 ≤ n_315.toInt ∧ n_315.toInt ≤ 9) ∧ (0 ≤ v_139.toInt ∧ v_139.toInt ≤ 4) ∧ (0 ≤ v_140.toInt ∧ v_140.toInt ≤ 900) ∧ (0 ≤ v_141.toInt ∧ v_141.toInt ≤ 900) ∧ (0 ≤ v_142.toInt ∧ v_142.toInt ≤ 9999) ∧ (0 ≤ v_143.toInt ∧ v_143.toInt ≤ 900) ∧ ((1 : Int32) = 0 ∨ (1 : Int32) = 1) ∧ (zC g_136) ∧ (zNw g_136 g_isOn) ∧ (m_behind.toInt ≤ v_141.toInt) ∧ (0 < m_bad.toInt → 0 < n_315.toInt) ∧ (n_315.toInt ≤ 0 → v_139.toInt = 0 ∨ m_behind.toInt < v_141.toInt) ∧ (n_315.toInt ≤ 0 → v_139.toInt = 3 → v_142.toInt = 59 → zNf g_136) := ⟨(z_rgw hr_n_315 (by decide) (by decide)), hr_v_139, hr_v_140, hr_v_141, hr_v_142, hr_v_143, (Or.inr rfl), hC_g_136, hs_201, (by omega), (by omega), (by omega), (fun _ _ _ => hs_202)⟩
              have hX_323 : F_r_readRound m_textEnd m_bad m_badAt m_token m_at m_behind m_number m_letters m_word m_hasRound g_tape g_c g_words = ((n_315, n_316, v_139, v_140, v_141, v_142, v_143, v_144, (1 : Int32), g_136) : Int32 × Int32 × Int32 × Int32 × Int32 × Int32 × Int32 × Int64 × Int32 × (Nat → Int32)) := by
                refine hF_L35a.trans ?_
                refine (F_r_readRound_L35a_s ..).trans ?_
                refine (if_neg c_263).trans ?_
                extract_lets -merge -useContext +onlyGivenNames w9 y1_0 y1_1 y1_2; have e9 : (r_271, n_269, n_270) = w9 := ((z_tS he_r_271 (z_tS he_n_269 he_n_270.symm))).symm; clear_value w9; subst e9
                refine (if_pos c_277).trans ?_
                try (extract_lets -merge -useContext +onlyGivenNames y9; have e9 : x_283 = y9 := (by first | exact he_x_283 | exact he_x_283.symm); clear_value y9; subst e9)
                refine (if_pos c_284).trans ?_
                extract_lets -merge -useContext +onlyGivenNames w9 y5_0 y5_1; have e9 : (n_315, n_316) = w9 := ((z_tS he_n_315 he_n_316.symm)).symm; clear_value w9; subst e9
                exact rfl
              exact hret _ _ _ _ _ (n_315, n_316, v_139, v_140, v_141, v_142, v_143, v_144, 1, g_136) [4, 1, 2, 3, 0] hP hD hS rfl (by decide) dX12_readRound_91 ⟨(congrArg (fun z9 => z9.1) hX_323).symm, (congrArg (fun z9 => z9.2.1) hX_323).symm, (congrArg (fun z9 => z9.2.2.1) hX_323).symm, (congrArg (fun z9 => z9.2.2.2.1) hX_323).symm, (congrArg (fun z9 => z9.2.2.2.2.1) hX_323).symm, (congrArg (fun z9 => z9.2.2.2.2.2.1) hX_323).symm, (congrArg (fun z9 => z9.2.2.2.2.2.2.1) hX_323).symm, (congrArg (fun z9 => z9.2.2.2.2.2.2.2.1) hX_323).symm, (congrArg (fun z9 => z9.2.2.2.2.2.2.2.2.1) hX_323).symm, (congrArg (fun z9 => z9.2.2.2.2.2.2.2.2.2) hX_323).symm, hpost⟩
    have hX_324 : F_r_readRound m_textEnd m_bad m_badAt m_token m_at m_behind m_number m_letters m_word m_hasRound g_tape g_c g_words = F_r_readRound_L35a m_textEnd g_tape g_words ((900 - n_7.toInt + (1 : Int32).toInt).toNat + 1) (1 : Int32) g_c m_bad m_badAt n_5 n_6 n_7 n_8 n_9 n_10 := by
      refine (F_r_readRound_s ..).trans ?_
      refine (if_pos c_1).trans ?_
      extract_lets -merge -useContext +onlyGivenNames w9 y1_0 y1_1 y1_2 y1_3 y1_4 y1_5; have e9 : (n_5, n_6, n_7, n_8, n_9, n_10) = w9 := ((z_tS he_n_5 (z_tS he_n_6 (z_tS he_n_7 (z_tS he_n_8 (z_tS he_n_9 he_n_10.symm)))))).symm; clear_value w9; subst e9
      exact rfl
    exact hlp_261 ((900 - n_7.toInt + (1 : Int32).toInt).toNat + 1) 1 g_c m_bad m_badAt n_5 n_6 n_7 n_8 n_9 n_10 _ _ _ (Nat.lt_succ_self _) (by decide +kernel) hC_g_c hr_m_bad hr_n_5 hr_n_6 hr_n_7 hr_n_8 hr_n_9 hNW0 hNF0 (by omega) (by omega) hX_324 hP hD hS (lv_sub hl [1, 0] rfl)
  · have b_325 := z_fneF c_1
    refine lv_aload_n hx hb dX12_readRound_7 rfl (lv_at hl 0 rfl) ?_
    refine lv_iconst (v := 5) hx hb dX12_readRound_8 (by decide) ?_
    refine lv_aload_n hx hb dX12_readRound_9 rfl (lv_at hl 0 rfl) ?_
    refine va_get (D := G) (ci := 12) (v := .int m_at) (C := RX12) (T := TX12) (N := 65) hx hb hts inT12 hown hK hP 0 rfl rfl 15 (by decide) (hts _ tw_1900) (fun _ h9 => h9) rfl dX12_readRound_10 ?_
    refine z_callVv (As := [.int 5, .int m_at]) (rest := []) (wr := [(a_tape, .inl (cA.1 2, 900, .inl g_tape)), (a_c, .inl (cA.1 0, 1825, .inl g_c)), (a_words, .inl (cA.1 1, 105, .inr (.inl g_words))), (a_isOn, .inl (cA.1 3, 10, .inl g_isOn))]) ⟨hx, hb, hml, hown, hts⟩ hK hE hT hP hD hS hA (r_fail l G cA h0 m_status m_thrown m_above m_under a_traySort a_trayMany a_numbers a_tape m_taped m_textEnd m_faultKind m_faultAt m_bad m_badAt m_token m_at m_behind m_number m_letters m_word a_c a_words m_markMany a_there a_tried a_best a_found m_thereMany m_foundMany m_orderHow m_orderRing m_orderMany m_hasBest m_bestTop m_bestBy a_weights a_shared m_random m_truePlace m_trueWay m_seconds m_done m_feelings m_tries m_leftOver m_playDoor m_playRing m_isOpen m_isOver m_wasTried m_hasPlayed a_feltNow a_last a_kept m_hasSeconds m_hasTurned m_hasRound a_hasFeels a_isOn m_firstAct m_meanTop m_meanBy a_order m_rowMany m_newSteps 5 m_at (by decide +kernel) (z_rgw hr_m_bad (by decide) (by decide))) lk_RX12_180 ⟨rfl, rfl⟩ ⟨Nat.le_of_ble_eq_true rfl, Nat.le_of_ble_eq_true rfl⟩ 12 rfl rfl rfl [0] [1, 2, 3, 4] rfl rfl (by decide) rfl hl.1 rfl (lv_room (Nat.le_of_ble_eq_true rfl)) dX12_readRound_13 ⟨Nat.le_of_ble_eq_true rfl, Nat.le_of_ble_eq_true rfl⟩ (fun u_329 H locs hw hP hD hS => ?_)
    obtain ⟨n_326, n_327⟩ := u_329
    try dsimp only at hw
    obtain ⟨he_n_326, he_n_327, hw⟩ := hw
    obtain ⟨hr_n_326, hf_331⟩ := hw
    refine lv_aload_n hx hb dX12_readRound_16 rfl (lv_at hl 0 rfl) ?_
    refine va_get (D := G) (ci := 12) (v := .int n_326) (C := RX12) (T := TX12) (N := 65) hx hb hts inT12 hown hK hP 4 rfl rfl 12 (by decide) (hts _ tw_1897) (fun _ h9 => h9) rfl dX12_readRound_17 ?_
    refine lv_if_le (tgt := 24) hx hb dX12_readRound_20 (by decide) (fun h9 => (z_no (by have h8 := z_fleT h9; omega))) (fun c_332 => ?_)
    have b_333 := z_fgtF c_332
    have hpost : (0 ≤ n_326.toInt ∧ n_326.toInt ≤ 9) ∧ (0 ≤ m_token.toInt ∧ m_token.toInt ≤ 4) ∧ (0 ≤ m_at.toInt ∧ m_at.toInt ≤ 900) ∧ (0 ≤ m_behind.toInt ∧ m_behind.toInt ≤ 900) ∧ (0 ≤ m_number.toInt ∧ m_number.toInt ≤ 9999) ∧ (0 ≤ m_letters.toInt ∧ m_letters.toInt ≤ 900) ∧ (m_hasRound = 0 ∨ m_hasRound = 1) ∧ (zC g_c) ∧ (zNw g_c g_isOn) ∧ (m_behind.toInt ≤ m_behind.toInt) ∧ (0 < m_bad.toInt → 0 < n_326.toInt) ∧ (n_326.toInt ≤ 0 → m_token.toInt = 0 ∨ m_behind.toInt < m_behind.toInt) ∧ (n_326.toInt ≤ 0 → m_token.toInt = 3 → m_number.toInt = 59 → zNf g_c) := ⟨(z_rgw hr_n_326 (by decide) (by decide)), hr_m_token, hr_m_at, hr_m_behind, hr_m_number, hr_m_letters, hz_m_hasRound, hC_g_c, hNW0, (by omega), (by omega), (by omega), (fun _ _ _ => hNF0)⟩
    have hX_334 : F_r_readRound m_textEnd m_bad m_badAt m_token m_at m_behind m_number m_letters m_word m_hasRound g_tape g_c g_words = ((n_326, n_327, m_token, m_at, m_behind, m_number, m_letters, m_word, m_hasRound, g_c) : Int32 × Int32 × Int32 × Int32 × Int32 × Int32 × Int32 × Int64 × Int32 × (Nat → Int32)) := by
      refine (F_r_readRound_s ..).trans ?_
      refine (if_neg c_1).trans ?_
      extract_lets -merge -useContext +onlyGivenNames w9 y1_0 y1_1; have e9 : (n_326, n_327) = w9 := ((z_tS he_n_326 he_n_327.symm)).symm; clear_value w9; subst e9
      exact rfl
    exact hret _ _ _ _ _ (n_326, n_327, m_token, m_at, m_behind, m_number, m_letters, m_word, m_hasRound, g_c) [4, 0, 1, 2, 3] hP hD hS rfl (by decide) dX12_readRound_23 ⟨(congrArg (fun z9 => z9.1) hX_334).symm, (congrArg (fun z9 => z9.2.1) hX_334).symm, (congrArg (fun z9 => z9.2.2.1) hX_334).symm, (congrArg (fun z9 => z9.2.2.2.1) hX_334).symm, (congrArg (fun z9 => z9.2.2.2.2.1) hX_334).symm, (congrArg (fun z9 => z9.2.2.2.2.2.1) hX_334).symm, (congrArg (fun z9 => z9.2.2.2.2.2.2.1) hX_334).symm, (congrArg (fun z9 => z9.2.2.2.2.2.2.2.1) hX_334).symm, (congrArg (fun z9 => z9.2.2.2.2.2.2.2.2.1) hX_334).symm, (congrArg (fun z9 => z9.2.2.2.2.2.2.2.2.2) hX_334).symm, hpost⟩
set_option maxHeartbeats 40000000 in
set_option maxRecDepth 100000 in
theorem r_isTurn (l : Launch) (G : va_G) (cA : zCA) (h0 : Nat) (m_status : Int32) (m_thrown : Int32) (m_above : Int64) (m_under : Int64) (a_traySort : Nat) (a_trayMany : Nat) (a_numbers : Nat) (a_tape : Nat) (m_taped : Int32) (m_textEnd : Int32) (m_faultKind : Int32) (m_faultAt : Int32) (m_bad : Int32) (m_badAt : Int32) (m_token : Int32) (m_at : Int32) (m_behind : Int32) (m_number : Int32) (m_letters : Int32) (m_word : Int64) (a_c : Nat) (a_words : Nat) (m_markMany : Int32) (a_there : Nat) (a_tried : Nat) (a_best : Nat) (a_found : Nat) (m_thereMany : Int32) (m_foundMany : Int32) (m_orderHow : Int32) (m_orderRing : Int32) (m_orderMany : Int32) (m_hasBest : Int32) (m_bestTop : Int64) (m_bestBy : Int64) (a_weights : Nat) (a_shared : Nat) (m_random : Int32) (m_truePlace : Int32) (m_trueWay : Int32) (m_seconds : Int32) (m_done : Int32) (m_feelings : Int32) (m_tries : Int32) (m_leftOver : Int32) (m_playDoor : Int32) (m_playRing : Int32) (m_isOpen : Int32) (m_isOver : Int32) (m_wasTried : Int32) (m_hasPlayed : Int32) (a_feltNow : Nat) (a_last : Nat) (a_kept : Nat) (m_hasSeconds : Int32) (m_hasTurned : Int32) (m_hasRound : Int32) (a_hasFeels : Nat) (a_isOn : Nat) (m_firstAct : Int32) (m_meanTop : Int64) (m_meanBy : Int64) (a_order : Nat) (m_rowMany : Int32) (m_newSteps : Int32) (hr_m_token : 0 ≤ m_token.toInt ∧ m_token.toInt ≤ 4) : zCi l yX12_isTurn cX12_isTurn 1 (some .boolean) ({ frames := 1, cells := 0, slots := 0, locals := 27 }) G cA [.ref h0] [(h0, .inr (12, [.int m_status, .int m_thrown, .long m_above, .long m_under, .ref a_traySort, .ref a_trayMany, .ref a_numbers, .ref a_tape, .int m_taped, .int m_textEnd, .int m_faultKind, .int m_faultAt, .int m_bad, .int m_badAt, .int m_token, .int m_at, .int m_behind, .int m_number, .int m_letters, .long m_word, .ref a_c, .ref a_words, .int m_markMany, .ref a_there, .ref a_tried, .ref a_best, .ref a_found, .int m_thereMany, .int m_foundMany, .int m_orderHow, .int m_orderRing, .int m_orderMany, .int m_hasBest, .long m_bestTop, .long m_bestBy, .ref a_weights, .ref a_shared, .int m_random, .int m_truePlace, .int m_trueWay, .int m_seconds, .int m_done, .int m_feelings, .int m_tries, .int m_leftOver, .int m_playDoor, .int m_playRing, .int m_isOpen, .int m_isOver, .int m_wasTried, .int m_hasPlayed, .ref a_feltNow, .ref a_last, .ref a_kept, .int m_hasSeconds, .int m_hasTurned, .int m_hasRound, .ref a_hasFeels, .ref a_isOn, .int m_firstAct, .long m_meanTop, .long m_meanBy, .ref a_order, .int m_rowMany, .int m_newSteps]))] (S := Unit) (fun (r : Int32) (u : Unit) => (r = (F_r_isTurn m_token m_word)) ∧ ((r = 0 ∧ True) ∨ (r = 1 ∧ (m_token.toInt = 1)))) (fun (u : Unit) => [(h0, .inr (12, [.int m_status, .int m_thrown, .long m_above, .long m_under, .ref a_traySort, .ref a_trayMany, .ref a_numbers, .ref a_tape, .int m_taped, .int m_textEnd, .int m_faultKind, .int m_faultAt, .int m_bad, .int m_badAt, .int m_token, .int m_at, .int m_behind, .int m_number, .int m_letters, .long m_word, .ref a_c, .ref a_words, .int m_markMany, .ref a_there, .ref a_tried, .ref a_best, .ref a_found, .int m_thereMany, .int m_foundMany, .int m_orderHow, .int m_orderRing, .int m_orderMany, .int m_hasBest, .long m_bestTop, .long m_bestBy, .ref a_weights, .ref a_shared, .int m_random, .int m_truePlace, .int m_trueWay, .int m_seconds, .int m_done, .int m_feelings, .int m_tries, .int m_leftOver, .int m_playDoor, .int m_playRing, .int m_isOpen, .int m_isOver, .int m_wasTried, .int m_hasPlayed, .ref a_feltNow, .ref a_last, .ref a_kept, .int m_hasSeconds, .int m_hasTurned, .int m_hasRound, .ref a_hasFeels, .ref a_isOn, .int m_firstAct, .long m_meanTop, .long m_meanBy, .ref a_order, .int m_rowMany, .int m_newSteps]))]) 0 0 := by
  have hk_0 : (0 : Int32).toInt = 0 := by decide +kernel
  have hk_110 : (110 : Int32).toInt = 110 := by decide +kernel
  have hk_114 : (114 : Int32).toInt = 114 := by decide +kernel
  have hk_116 : (116 : Int32).toInt = 116 := by decide +kernel
  have hk_117 : (117 : Int32).toInt = 117 := by decide +kernel
  refine z_start2z (own := RX12) (by decide) (Nat.le_of_ble_eq_true rfl) rfl ?_
  intro p e s m args below meth c A ls Q hx hb hml hts hown hK hE hT hP hD hS hA hl hret
  have hl : lv_has ls 1 [(0, .ref h0)] := hl
  refine lv_aload_n hx hb dX12_isTurn_0 rfl (lv_at hl 0 rfl) ?_
  refine lv_bipush (v := 116) hx hb dX12_isTurn_1 (by decide) ?_
  refine lv_bipush (v := 117) hx hb dX12_isTurn_3 (by decide) ?_
  refine lv_bipush (v := 114) hx hb dX12_isTurn_5 (by decide) ?_
  refine lv_bipush (v := 110) hx hb dX12_isTurn_7 (by decide) ?_
  refine lv_iconst (v := 0) hx hb dX12_isTurn_9 (by decide) ?_
  refine lv_iconst (v := 0) hx hb dX12_isTurn_10 (by decide) ?_
  refine z_callSl (As := [.int 116, .int 117, .int 114, .int 110, .int 0, .int 0]) (rest := [.ref h0]) (wr := [(h0, .inr (12, [.int m_status, .int m_thrown, .long m_above, .long m_under, .ref a_traySort, .ref a_trayMany, .ref a_numbers, .ref a_tape, .int m_taped, .int m_textEnd, .int m_faultKind, .int m_faultAt, .int m_bad, .int m_badAt, .int m_token, .int m_at, .int m_behind, .int m_number, .int m_letters, .long m_word, .ref a_c, .ref a_words, .int m_markMany, .ref a_there, .ref a_tried, .ref a_best, .ref a_found, .int m_thereMany, .int m_foundMany, .int m_orderHow, .int m_orderRing, .int m_orderMany, .int m_hasBest, .long m_bestTop, .long m_bestBy, .ref a_weights, .ref a_shared, .int m_random, .int m_truePlace, .int m_trueWay, .int m_seconds, .int m_done, .int m_feelings, .int m_tries, .int m_leftOver, .int m_playDoor, .int m_playRing, .int m_isOpen, .int m_isOver, .int m_wasTried, .int m_hasPlayed, .ref a_feltNow, .ref a_last, .ref a_kept, .int m_hasSeconds, .int m_hasTurned, .int m_hasRound, .ref a_hasFeels, .ref a_isOn, .int m_firstAct, .long m_meanTop, .long m_meanBy, .ref a_order, .int m_rowMany, .int m_newSteps]))]) ⟨hx, hb, hml, hown, hts⟩ hK hE hT hP hD hS hA (r_spelled l G cA 116 117 114 110 0 0 (by decide +kernel) (by decide +kernel) (by decide +kernel) (by decide +kernel) (by decide +kernel) (by decide +kernel)) lk_RX12_158 ⟨rfl, rfl⟩ ⟨Nat.le_of_ble_eq_true rfl, Nat.le_of_ble_eq_true rfl⟩ [] [0] rfl rfl (by decide) rfl hl.1 rfl (lv_room (Nat.le_of_ble_eq_true rfl)) dX12_isTurn_11 ⟨Nat.le_of_ble_eq_true rfl, Nat.le_of_ble_eq_true rfl⟩ (fun r_1 u_2 H locs hw hP hD hS => ?_)
  obtain ⟨he_r_1, hw⟩ := hw
  have hr_r_1 := hw
  refine z_callVi (As := [.long r_1]) (rest := []) (wr := []) ⟨hx, hb, hml, hown, hts⟩ hK hE hT hP hD hS hA (r_isWord l G cA h0 m_status m_thrown m_above m_under a_traySort a_trayMany a_numbers a_tape m_taped m_textEnd m_faultKind m_faultAt m_bad m_badAt m_token m_at m_behind m_number m_letters m_word a_c a_words m_markMany a_there a_tried a_best a_found m_thereMany m_foundMany m_orderHow m_orderRing m_orderMany m_hasBest m_bestTop m_bestBy a_weights a_shared m_random m_truePlace m_trueWay m_seconds m_done m_feelings m_tries m_leftOver m_playDoor m_playRing m_isOpen m_isOver m_wasTried m_hasPlayed a_feltNow a_last a_kept m_hasSeconds m_hasTurned m_hasRound a_hasFeels a_isOn m_firstAct m_meanTop m_meanBy a_order m_rowMany m_newSteps r_1 hr_m_token) lk_RX12_164 ⟨rfl, rfl⟩ ⟨Nat.le_of_ble_eq_true rfl, Nat.le_of_ble_eq_true rfl⟩ 12 rfl rfl rfl [0] [] rfl rfl (by decide) rfl hl.1 rfl (lv_room (Nat.le_of_ble_eq_true rfl)) dX12_isTurn_14 ⟨Nat.le_of_ble_eq_true rfl, Nat.le_of_ble_eq_true rfl⟩ (fun r_4 u_5 H locs hw hP hD hS => ?_)
  obtain ⟨he_r_4, hw⟩ := hw
  rcases hw with ⟨rfl, -⟩ | ⟨rfl, hf_7⟩
  · skip
    have hpost : ((0 : Int32) = 0 ∧ True) ∨ ((0 : Int32) = 1 ∧ (m_token.toInt = 1)) := (Or.inl ⟨rfl, trivial⟩)
    have hX_8 : F_r_isTurn m_token m_word = ((0 : Int32) : Int32) := by
      refine (F_r_isTurn_s ..).trans ?_
      extract_lets -merge -useContext +onlyGivenNames w9 y9; have e9 : r_1 = w9 := he_r_1; clear_value w9; subst e9
      extract_lets -merge -useContext +onlyGivenNames w9 y9; have e9 : (0 : Int32) = w9 := he_r_4; clear_value w9; subst e9
      refine (if_pos rfl).trans ?_
      exact rfl
    exact hret _ _ _ _ _ _ () [0] hP hD hS rfl (by decide) dX12_isTurn_17 (Or.inl rfl) ⟨(congrArg (fun z9 => z9) hX_8).symm, hpost⟩
  · skip
    have hpost : ((1 : Int32) = 0 ∧ True) ∨ ((1 : Int32) = 1 ∧ (m_token.toInt = 1)) := (Or.inr ⟨rfl, (by omega)⟩)
    have hX_9 : F_r_isTurn m_token m_word = ((1 : Int32) : Int32) := by
      refine (F_r_isTurn_s ..).trans ?_
      extract_lets -merge -useContext +onlyGivenNames w9 y9; have e9 : r_1 = w9 := he_r_1; clear_value w9; subst e9
      extract_lets -merge -useContext +onlyGivenNames w9 y9; have e9 : (1 : Int32) = w9 := he_r_4; clear_value w9; subst e9
      refine (if_neg (show ¬ (1 : Int32) = 0 by decide)).trans ?_
      exact rfl
    exact hret _ _ _ _ _ _ () [0] hP hD hS rfl (by decide) dX12_isTurn_17 (Or.inr rfl) ⟨(congrArg (fun z9 => z9) hX_9).symm, hpost⟩
set_option maxHeartbeats 40000000 in
set_option maxRecDepth 100000 in
theorem r_isStop (l : Launch) (G : va_G) (cA : zCA) (h0 : Nat) (m_status : Int32) (m_thrown : Int32) (m_above : Int64) (m_under : Int64) (a_traySort : Nat) (a_trayMany : Nat) (a_numbers : Nat) (a_tape : Nat) (m_taped : Int32) (m_textEnd : Int32) (m_faultKind : Int32) (m_faultAt : Int32) (m_bad : Int32) (m_badAt : Int32) (m_token : Int32) (m_at : Int32) (m_behind : Int32) (m_number : Int32) (m_letters : Int32) (m_word : Int64) (a_c : Nat) (a_words : Nat) (m_markMany : Int32) (a_there : Nat) (a_tried : Nat) (a_best : Nat) (a_found : Nat) (m_thereMany : Int32) (m_foundMany : Int32) (m_orderHow : Int32) (m_orderRing : Int32) (m_orderMany : Int32) (m_hasBest : Int32) (m_bestTop : Int64) (m_bestBy : Int64) (a_weights : Nat) (a_shared : Nat) (m_random : Int32) (m_truePlace : Int32) (m_trueWay : Int32) (m_seconds : Int32) (m_done : Int32) (m_feelings : Int32) (m_tries : Int32) (m_leftOver : Int32) (m_playDoor : Int32) (m_playRing : Int32) (m_isOpen : Int32) (m_isOver : Int32) (m_wasTried : Int32) (m_hasPlayed : Int32) (a_feltNow : Nat) (a_last : Nat) (a_kept : Nat) (m_hasSeconds : Int32) (m_hasTurned : Int32) (m_hasRound : Int32) (a_hasFeels : Nat) (a_isOn : Nat) (m_firstAct : Int32) (m_meanTop : Int64) (m_meanBy : Int64) (a_order : Nat) (m_rowMany : Int32) (m_newSteps : Int32) (hr_m_token : 0 ≤ m_token.toInt ∧ m_token.toInt ≤ 4) : zCi l yX12_isStop cX12_isStop 1 (some .boolean) ({ frames := 1, cells := 0, slots := 0, locals := 27 }) G cA [.ref h0] [(h0, .inr (12, [.int m_status, .int m_thrown, .long m_above, .long m_under, .ref a_traySort, .ref a_trayMany, .ref a_numbers, .ref a_tape, .int m_taped, .int m_textEnd, .int m_faultKind, .int m_faultAt, .int m_bad, .int m_badAt, .int m_token, .int m_at, .int m_behind, .int m_number, .int m_letters, .long m_word, .ref a_c, .ref a_words, .int m_markMany, .ref a_there, .ref a_tried, .ref a_best, .ref a_found, .int m_thereMany, .int m_foundMany, .int m_orderHow, .int m_orderRing, .int m_orderMany, .int m_hasBest, .long m_bestTop, .long m_bestBy, .ref a_weights, .ref a_shared, .int m_random, .int m_truePlace, .int m_trueWay, .int m_seconds, .int m_done, .int m_feelings, .int m_tries, .int m_leftOver, .int m_playDoor, .int m_playRing, .int m_isOpen, .int m_isOver, .int m_wasTried, .int m_hasPlayed, .ref a_feltNow, .ref a_last, .ref a_kept, .int m_hasSeconds, .int m_hasTurned, .int m_hasRound, .ref a_hasFeels, .ref a_isOn, .int m_firstAct, .long m_meanTop, .long m_meanBy, .ref a_order, .int m_rowMany, .int m_newSteps]))] (S := Unit) (fun (r : Int32) (u : Unit) => (r = (F_r_isStop m_token m_word)) ∧ ((r = 0 ∧ True) ∨ (r = 1 ∧ (m_token.toInt = 1)))) (fun (u : Unit) => [(h0, .inr (12, [.int m_status, .int m_thrown, .long m_above, .long m_under, .ref a_traySort, .ref a_trayMany, .ref a_numbers, .ref a_tape, .int m_taped, .int m_textEnd, .int m_faultKind, .int m_faultAt, .int m_bad, .int m_badAt, .int m_token, .int m_at, .int m_behind, .int m_number, .int m_letters, .long m_word, .ref a_c, .ref a_words, .int m_markMany, .ref a_there, .ref a_tried, .ref a_best, .ref a_found, .int m_thereMany, .int m_foundMany, .int m_orderHow, .int m_orderRing, .int m_orderMany, .int m_hasBest, .long m_bestTop, .long m_bestBy, .ref a_weights, .ref a_shared, .int m_random, .int m_truePlace, .int m_trueWay, .int m_seconds, .int m_done, .int m_feelings, .int m_tries, .int m_leftOver, .int m_playDoor, .int m_playRing, .int m_isOpen, .int m_isOver, .int m_wasTried, .int m_hasPlayed, .ref a_feltNow, .ref a_last, .ref a_kept, .int m_hasSeconds, .int m_hasTurned, .int m_hasRound, .ref a_hasFeels, .ref a_isOn, .int m_firstAct, .long m_meanTop, .long m_meanBy, .ref a_order, .int m_rowMany, .int m_newSteps]))]) 0 0 := by
  have hk_0 : (0 : Int32).toInt = 0 := by decide +kernel
  have hk_111 : (111 : Int32).toInt = 111 := by decide +kernel
  have hk_112 : (112 : Int32).toInt = 112 := by decide +kernel
  have hk_115 : (115 : Int32).toInt = 115 := by decide +kernel
  have hk_116 : (116 : Int32).toInt = 116 := by decide +kernel
  refine z_start2z (own := RX12) (by decide) (Nat.le_of_ble_eq_true rfl) rfl ?_
  intro p e s m args below meth c A ls Q hx hb hml hts hown hK hE hT hP hD hS hA hl hret
  have hl : lv_has ls 1 [(0, .ref h0)] := hl
  refine lv_aload_n hx hb dX12_isStop_0 rfl (lv_at hl 0 rfl) ?_
  refine lv_bipush (v := 115) hx hb dX12_isStop_1 (by decide) ?_
  refine lv_bipush (v := 116) hx hb dX12_isStop_3 (by decide) ?_
  refine lv_bipush (v := 111) hx hb dX12_isStop_5 (by decide) ?_
  refine lv_bipush (v := 112) hx hb dX12_isStop_7 (by decide) ?_
  refine lv_iconst (v := 0) hx hb dX12_isStop_9 (by decide) ?_
  refine lv_iconst (v := 0) hx hb dX12_isStop_10 (by decide) ?_
  refine z_callSl (As := [.int 115, .int 116, .int 111, .int 112, .int 0, .int 0]) (rest := [.ref h0]) (wr := [(h0, .inr (12, [.int m_status, .int m_thrown, .long m_above, .long m_under, .ref a_traySort, .ref a_trayMany, .ref a_numbers, .ref a_tape, .int m_taped, .int m_textEnd, .int m_faultKind, .int m_faultAt, .int m_bad, .int m_badAt, .int m_token, .int m_at, .int m_behind, .int m_number, .int m_letters, .long m_word, .ref a_c, .ref a_words, .int m_markMany, .ref a_there, .ref a_tried, .ref a_best, .ref a_found, .int m_thereMany, .int m_foundMany, .int m_orderHow, .int m_orderRing, .int m_orderMany, .int m_hasBest, .long m_bestTop, .long m_bestBy, .ref a_weights, .ref a_shared, .int m_random, .int m_truePlace, .int m_trueWay, .int m_seconds, .int m_done, .int m_feelings, .int m_tries, .int m_leftOver, .int m_playDoor, .int m_playRing, .int m_isOpen, .int m_isOver, .int m_wasTried, .int m_hasPlayed, .ref a_feltNow, .ref a_last, .ref a_kept, .int m_hasSeconds, .int m_hasTurned, .int m_hasRound, .ref a_hasFeels, .ref a_isOn, .int m_firstAct, .long m_meanTop, .long m_meanBy, .ref a_order, .int m_rowMany, .int m_newSteps]))]) ⟨hx, hb, hml, hown, hts⟩ hK hE hT hP hD hS hA (r_spelled l G cA 115 116 111 112 0 0 (by decide +kernel) (by decide +kernel) (by decide +kernel) (by decide +kernel) (by decide +kernel) (by decide +kernel)) lk_RX12_158 ⟨rfl, rfl⟩ ⟨Nat.le_of_ble_eq_true rfl, Nat.le_of_ble_eq_true rfl⟩ [] [0] rfl rfl (by decide) rfl hl.1 rfl (lv_room (Nat.le_of_ble_eq_true rfl)) dX12_isStop_11 ⟨Nat.le_of_ble_eq_true rfl, Nat.le_of_ble_eq_true rfl⟩ (fun r_1 u_2 H locs hw hP hD hS => ?_)
  obtain ⟨he_r_1, hw⟩ := hw
  have hr_r_1 := hw
  refine z_callVi (As := [.long r_1]) (rest := []) (wr := []) ⟨hx, hb, hml, hown, hts⟩ hK hE hT hP hD hS hA (r_isWord l G cA h0 m_status m_thrown m_above m_under a_traySort a_trayMany a_numbers a_tape m_taped m_textEnd m_faultKind m_faultAt m_bad m_badAt m_token m_at m_behind m_number m_letters m_word a_c a_words m_markMany a_there a_tried a_best a_found m_thereMany m_foundMany m_orderHow m_orderRing m_orderMany m_hasBest m_bestTop m_bestBy a_weights a_shared m_random m_truePlace m_trueWay m_seconds m_done m_feelings m_tries m_leftOver m_playDoor m_playRing m_isOpen m_isOver m_wasTried m_hasPlayed a_feltNow a_last a_kept m_hasSeconds m_hasTurned m_hasRound a_hasFeels a_isOn m_firstAct m_meanTop m_meanBy a_order m_rowMany m_newSteps r_1 hr_m_token) lk_RX12_164 ⟨rfl, rfl⟩ ⟨Nat.le_of_ble_eq_true rfl, Nat.le_of_ble_eq_true rfl⟩ 12 rfl rfl rfl [0] [] rfl rfl (by decide) rfl hl.1 rfl (lv_room (Nat.le_of_ble_eq_true rfl)) dX12_isStop_14 ⟨Nat.le_of_ble_eq_true rfl, Nat.le_of_ble_eq_true rfl⟩ (fun r_4 u_5 H locs hw hP hD hS => ?_)
  obtain ⟨he_r_4, hw⟩ := hw
  rcases hw with ⟨rfl, -⟩ | ⟨rfl, hf_7⟩
  · skip
    have hpost : ((0 : Int32) = 0 ∧ True) ∨ ((0 : Int32) = 1 ∧ (m_token.toInt = 1)) := (Or.inl ⟨rfl, trivial⟩)
    have hX_8 : F_r_isStop m_token m_word = ((0 : Int32) : Int32) := by
      refine (F_r_isStop_s ..).trans ?_
      extract_lets -merge -useContext +onlyGivenNames w9 y9; have e9 : r_1 = w9 := he_r_1; clear_value w9; subst e9
      extract_lets -merge -useContext +onlyGivenNames w9 y9; have e9 : (0 : Int32) = w9 := he_r_4; clear_value w9; subst e9
      refine (if_pos rfl).trans ?_
      exact rfl
    exact hret _ _ _ _ _ _ () [0] hP hD hS rfl (by decide) dX12_isStop_17 (Or.inl rfl) ⟨(congrArg (fun z9 => z9) hX_8).symm, hpost⟩
  · skip
    have hpost : ((1 : Int32) = 0 ∧ True) ∨ ((1 : Int32) = 1 ∧ (m_token.toInt = 1)) := (Or.inr ⟨rfl, (by omega)⟩)
    have hX_9 : F_r_isStop m_token m_word = ((1 : Int32) : Int32) := by
      refine (F_r_isStop_s ..).trans ?_
      extract_lets -merge -useContext +onlyGivenNames w9 y9; have e9 : r_1 = w9 := he_r_1; clear_value w9; subst e9
      extract_lets -merge -useContext +onlyGivenNames w9 y9; have e9 : (1 : Int32) = w9 := he_r_4; clear_value w9; subst e9
      refine (if_neg (show ¬ (1 : Int32) = 0 by decide)).trans ?_
      exact rfl
    exact hret _ _ _ _ _ _ () [0] hP hD hS rfl (by decide) dX12_isStop_17 (Or.inr rfl) ⟨(congrArg (fun z9 => z9) hX_9).symm, hpost⟩
set_option maxHeartbeats 40000000 in
set_option maxRecDepth 100000 in
theorem r_isWhen (l : Launch) (G : va_G) (cA : zCA) (h0 : Nat) (m_status : Int32) (m_thrown : Int32) (m_above : Int64) (m_under : Int64) (a_traySort : Nat) (a_trayMany : Nat) (a_numbers : Nat) (a_tape : Nat) (m_taped : Int32) (m_textEnd : Int32) (m_faultKind : Int32) (m_faultAt : Int32) (m_bad : Int32) (m_badAt : Int32) (m_token : Int32) (m_at : Int32) (m_behind : Int32) (m_number : Int32) (m_letters : Int32) (m_word : Int64) (a_c : Nat) (a_words : Nat) (m_markMany : Int32) (a_there : Nat) (a_tried : Nat) (a_best : Nat) (a_found : Nat) (m_thereMany : Int32) (m_foundMany : Int32) (m_orderHow : Int32) (m_orderRing : Int32) (m_orderMany : Int32) (m_hasBest : Int32) (m_bestTop : Int64) (m_bestBy : Int64) (a_weights : Nat) (a_shared : Nat) (m_random : Int32) (m_truePlace : Int32) (m_trueWay : Int32) (m_seconds : Int32) (m_done : Int32) (m_feelings : Int32) (m_tries : Int32) (m_leftOver : Int32) (m_playDoor : Int32) (m_playRing : Int32) (m_isOpen : Int32) (m_isOver : Int32) (m_wasTried : Int32) (m_hasPlayed : Int32) (a_feltNow : Nat) (a_last : Nat) (a_kept : Nat) (m_hasSeconds : Int32) (m_hasTurned : Int32) (m_hasRound : Int32) (a_hasFeels : Nat) (a_isOn : Nat) (m_firstAct : Int32) (m_meanTop : Int64) (m_meanBy : Int64) (a_order : Nat) (m_rowMany : Int32) (m_newSteps : Int32) (hr_m_token : 0 ≤ m_token.toInt ∧ m_token.toInt ≤ 4) : zCi l yX12_isWhen cX12_isWhen 1 (some .boolean) ({ frames := 1, cells := 0, slots := 0, locals := 27 }) G cA [.ref h0] [(h0, .inr (12, [.int m_status, .int m_thrown, .long m_above, .long m_under, .ref a_traySort, .ref a_trayMany, .ref a_numbers, .ref a_tape, .int m_taped, .int m_textEnd, .int m_faultKind, .int m_faultAt, .int m_bad, .int m_badAt, .int m_token, .int m_at, .int m_behind, .int m_number, .int m_letters, .long m_word, .ref a_c, .ref a_words, .int m_markMany, .ref a_there, .ref a_tried, .ref a_best, .ref a_found, .int m_thereMany, .int m_foundMany, .int m_orderHow, .int m_orderRing, .int m_orderMany, .int m_hasBest, .long m_bestTop, .long m_bestBy, .ref a_weights, .ref a_shared, .int m_random, .int m_truePlace, .int m_trueWay, .int m_seconds, .int m_done, .int m_feelings, .int m_tries, .int m_leftOver, .int m_playDoor, .int m_playRing, .int m_isOpen, .int m_isOver, .int m_wasTried, .int m_hasPlayed, .ref a_feltNow, .ref a_last, .ref a_kept, .int m_hasSeconds, .int m_hasTurned, .int m_hasRound, .ref a_hasFeels, .ref a_isOn, .int m_firstAct, .long m_meanTop, .long m_meanBy, .ref a_order, .int m_rowMany, .int m_newSteps]))] (S := Unit) (fun (r : Int32) (u : Unit) => (r = (F_r_isWhen m_token m_word)) ∧ ((r = 0 ∧ True) ∨ (r = 1 ∧ (m_token.toInt = 1)))) (fun (u : Unit) => [(h0, .inr (12, [.int m_status, .int m_thrown, .long m_above, .long m_under, .ref a_traySort, .ref a_trayMany, .ref a_numbers, .ref a_tape, .int m_taped, .int m_textEnd, .int m_faultKind, .int m_faultAt, .int m_bad, .int m_badAt, .int m_token, .int m_at, .int m_behind, .int m_number, .int m_letters, .long m_word, .ref a_c, .ref a_words, .int m_markMany, .ref a_there, .ref a_tried, .ref a_best, .ref a_found, .int m_thereMany, .int m_foundMany, .int m_orderHow, .int m_orderRing, .int m_orderMany, .int m_hasBest, .long m_bestTop, .long m_bestBy, .ref a_weights, .ref a_shared, .int m_random, .int m_truePlace, .int m_trueWay, .int m_seconds, .int m_done, .int m_feelings, .int m_tries, .int m_leftOver, .int m_playDoor, .int m_playRing, .int m_isOpen, .int m_isOver, .int m_wasTried, .int m_hasPlayed, .ref a_feltNow, .ref a_last, .ref a_kept, .int m_hasSeconds, .int m_hasTurned, .int m_hasRound, .ref a_hasFeels, .ref a_isOn, .int m_firstAct, .long m_meanTop, .long m_meanBy, .ref a_order, .int m_rowMany, .int m_newSteps]))]) 0 0 := by
  have hk_0 : (0 : Int32).toInt = 0 := by decide +kernel
  have hk_101 : (101 : Int32).toInt = 101 := by decide +kernel
  have hk_104 : (104 : Int32).toInt = 104 := by decide +kernel
  have hk_110 : (110 : Int32).toInt = 110 := by decide +kernel
  have hk_119 : (119 : Int32).toInt = 119 := by decide +kernel
  refine z_start2z (own := RX12) (by decide) (Nat.le_of_ble_eq_true rfl) rfl ?_
  intro p e s m args below meth c A ls Q hx hb hml hts hown hK hE hT hP hD hS hA hl hret
  have hl : lv_has ls 1 [(0, .ref h0)] := hl
  refine lv_aload_n hx hb dX12_isWhen_0 rfl (lv_at hl 0 rfl) ?_
  refine lv_bipush (v := 119) hx hb dX12_isWhen_1 (by decide) ?_
  refine lv_bipush (v := 104) hx hb dX12_isWhen_3 (by decide) ?_
  refine lv_bipush (v := 101) hx hb dX12_isWhen_5 (by decide) ?_
  refine lv_bipush (v := 110) hx hb dX12_isWhen_7 (by decide) ?_
  refine lv_iconst (v := 0) hx hb dX12_isWhen_9 (by decide) ?_
  refine lv_iconst (v := 0) hx hb dX12_isWhen_10 (by decide) ?_
  refine z_callSl (As := [.int 119, .int 104, .int 101, .int 110, .int 0, .int 0]) (rest := [.ref h0]) (wr := [(h0, .inr (12, [.int m_status, .int m_thrown, .long m_above, .long m_under, .ref a_traySort, .ref a_trayMany, .ref a_numbers, .ref a_tape, .int m_taped, .int m_textEnd, .int m_faultKind, .int m_faultAt, .int m_bad, .int m_badAt, .int m_token, .int m_at, .int m_behind, .int m_number, .int m_letters, .long m_word, .ref a_c, .ref a_words, .int m_markMany, .ref a_there, .ref a_tried, .ref a_best, .ref a_found, .int m_thereMany, .int m_foundMany, .int m_orderHow, .int m_orderRing, .int m_orderMany, .int m_hasBest, .long m_bestTop, .long m_bestBy, .ref a_weights, .ref a_shared, .int m_random, .int m_truePlace, .int m_trueWay, .int m_seconds, .int m_done, .int m_feelings, .int m_tries, .int m_leftOver, .int m_playDoor, .int m_playRing, .int m_isOpen, .int m_isOver, .int m_wasTried, .int m_hasPlayed, .ref a_feltNow, .ref a_last, .ref a_kept, .int m_hasSeconds, .int m_hasTurned, .int m_hasRound, .ref a_hasFeels, .ref a_isOn, .int m_firstAct, .long m_meanTop, .long m_meanBy, .ref a_order, .int m_rowMany, .int m_newSteps]))]) ⟨hx, hb, hml, hown, hts⟩ hK hE hT hP hD hS hA (r_spelled l G cA 119 104 101 110 0 0 (by decide +kernel) (by decide +kernel) (by decide +kernel) (by decide +kernel) (by decide +kernel) (by decide +kernel)) lk_RX12_158 ⟨rfl, rfl⟩ ⟨Nat.le_of_ble_eq_true rfl, Nat.le_of_ble_eq_true rfl⟩ [] [0] rfl rfl (by decide) rfl hl.1 rfl (lv_room (Nat.le_of_ble_eq_true rfl)) dX12_isWhen_11 ⟨Nat.le_of_ble_eq_true rfl, Nat.le_of_ble_eq_true rfl⟩ (fun r_1 u_2 H locs hw hP hD hS => ?_)
  obtain ⟨he_r_1, hw⟩ := hw
  have hr_r_1 := hw
  refine z_callVi (As := [.long r_1]) (rest := []) (wr := []) ⟨hx, hb, hml, hown, hts⟩ hK hE hT hP hD hS hA (r_isWord l G cA h0 m_status m_thrown m_above m_under a_traySort a_trayMany a_numbers a_tape m_taped m_textEnd m_faultKind m_faultAt m_bad m_badAt m_token m_at m_behind m_number m_letters m_word a_c a_words m_markMany a_there a_tried a_best a_found m_thereMany m_foundMany m_orderHow m_orderRing m_orderMany m_hasBest m_bestTop m_bestBy a_weights a_shared m_random m_truePlace m_trueWay m_seconds m_done m_feelings m_tries m_leftOver m_playDoor m_playRing m_isOpen m_isOver m_wasTried m_hasPlayed a_feltNow a_last a_kept m_hasSeconds m_hasTurned m_hasRound a_hasFeels a_isOn m_firstAct m_meanTop m_meanBy a_order m_rowMany m_newSteps r_1 hr_m_token) lk_RX12_164 ⟨rfl, rfl⟩ ⟨Nat.le_of_ble_eq_true rfl, Nat.le_of_ble_eq_true rfl⟩ 12 rfl rfl rfl [0] [] rfl rfl (by decide) rfl hl.1 rfl (lv_room (Nat.le_of_ble_eq_true rfl)) dX12_isWhen_14 ⟨Nat.le_of_ble_eq_true rfl, Nat.le_of_ble_eq_true rfl⟩ (fun r_4 u_5 H locs hw hP hD hS => ?_)
  obtain ⟨he_r_4, hw⟩ := hw
  rcases hw with ⟨rfl, -⟩ | ⟨rfl, hf_7⟩
  · skip
    have hpost : ((0 : Int32) = 0 ∧ True) ∨ ((0 : Int32) = 1 ∧ (m_token.toInt = 1)) := (Or.inl ⟨rfl, trivial⟩)
    have hX_8 : F_r_isWhen m_token m_word = ((0 : Int32) : Int32) := by
      refine (F_r_isWhen_s ..).trans ?_
      extract_lets -merge -useContext +onlyGivenNames w9 y9; have e9 : r_1 = w9 := he_r_1; clear_value w9; subst e9
      extract_lets -merge -useContext +onlyGivenNames w9 y9; have e9 : (0 : Int32) = w9 := he_r_4; clear_value w9; subst e9
      refine (if_pos rfl).trans ?_
      exact rfl
    exact hret _ _ _ _ _ _ () [0] hP hD hS rfl (by decide) dX12_isWhen_17 (Or.inl rfl) ⟨(congrArg (fun z9 => z9) hX_8).symm, hpost⟩
  · skip
    have hpost : ((1 : Int32) = 0 ∧ True) ∨ ((1 : Int32) = 1 ∧ (m_token.toInt = 1)) := (Or.inr ⟨rfl, (by omega)⟩)
    have hX_9 : F_r_isWhen m_token m_word = ((1 : Int32) : Int32) := by
      refine (F_r_isWhen_s ..).trans ?_
      extract_lets -merge -useContext +onlyGivenNames w9 y9; have e9 : r_1 = w9 := he_r_1; clear_value w9; subst e9
      extract_lets -merge -useContext +onlyGivenNames w9 y9; have e9 : (1 : Int32) = w9 := he_r_4; clear_value w9; subst e9
      refine (if_neg (show ¬ (1 : Int32) = 0 by decide)).trans ?_
      exact rfl
    exact hret _ _ _ _ _ _ () [0] hP hD hS rfl (by decide) dX12_isWhen_17 (Or.inr rfl) ⟨(congrArg (fun z9 => z9) hX_9).symm, hpost⟩
set_option maxHeartbeats 40000000 in
set_option maxRecDepth 100000 in
theorem r_isLoop (l : Launch) (G : va_G) (cA : zCA) (h0 : Nat) (m_status : Int32) (m_thrown : Int32) (m_above : Int64) (m_under : Int64) (a_traySort : Nat) (a_trayMany : Nat) (a_numbers : Nat) (a_tape : Nat) (m_taped : Int32) (m_textEnd : Int32) (m_faultKind : Int32) (m_faultAt : Int32) (m_bad : Int32) (m_badAt : Int32) (m_token : Int32) (m_at : Int32) (m_behind : Int32) (m_number : Int32) (m_letters : Int32) (m_word : Int64) (a_c : Nat) (a_words : Nat) (m_markMany : Int32) (a_there : Nat) (a_tried : Nat) (a_best : Nat) (a_found : Nat) (m_thereMany : Int32) (m_foundMany : Int32) (m_orderHow : Int32) (m_orderRing : Int32) (m_orderMany : Int32) (m_hasBest : Int32) (m_bestTop : Int64) (m_bestBy : Int64) (a_weights : Nat) (a_shared : Nat) (m_random : Int32) (m_truePlace : Int32) (m_trueWay : Int32) (m_seconds : Int32) (m_done : Int32) (m_feelings : Int32) (m_tries : Int32) (m_leftOver : Int32) (m_playDoor : Int32) (m_playRing : Int32) (m_isOpen : Int32) (m_isOver : Int32) (m_wasTried : Int32) (m_hasPlayed : Int32) (a_feltNow : Nat) (a_last : Nat) (a_kept : Nat) (m_hasSeconds : Int32) (m_hasTurned : Int32) (m_hasRound : Int32) (a_hasFeels : Nat) (a_isOn : Nat) (m_firstAct : Int32) (m_meanTop : Int64) (m_meanBy : Int64) (a_order : Nat) (m_rowMany : Int32) (m_newSteps : Int32) (hr_m_token : 0 ≤ m_token.toInt ∧ m_token.toInt ≤ 4) : zCi l yX12_isLoop cX12_isLoop 1 (some .boolean) ({ frames := 1, cells := 0, slots := 0, locals := 27 }) G cA [.ref h0] [(h0, .inr (12, [.int m_status, .int m_thrown, .long m_above, .long m_under, .ref a_traySort, .ref a_trayMany, .ref a_numbers, .ref a_tape, .int m_taped, .int m_textEnd, .int m_faultKind, .int m_faultAt, .int m_bad, .int m_badAt, .int m_token, .int m_at, .int m_behind, .int m_number, .int m_letters, .long m_word, .ref a_c, .ref a_words, .int m_markMany, .ref a_there, .ref a_tried, .ref a_best, .ref a_found, .int m_thereMany, .int m_foundMany, .int m_orderHow, .int m_orderRing, .int m_orderMany, .int m_hasBest, .long m_bestTop, .long m_bestBy, .ref a_weights, .ref a_shared, .int m_random, .int m_truePlace, .int m_trueWay, .int m_seconds, .int m_done, .int m_feelings, .int m_tries, .int m_leftOver, .int m_playDoor, .int m_playRing, .int m_isOpen, .int m_isOver, .int m_wasTried, .int m_hasPlayed, .ref a_feltNow, .ref a_last, .ref a_kept, .int m_hasSeconds, .int m_hasTurned, .int m_hasRound, .ref a_hasFeels, .ref a_isOn, .int m_firstAct, .long m_meanTop, .long m_meanBy, .ref a_order, .int m_rowMany, .int m_newSteps]))] (S := Unit) (fun (r : Int32) (u : Unit) => (r = (F_r_isLoop m_token m_word)) ∧ ((r = 0 ∧ True) ∨ (r = 1 ∧ (m_token.toInt = 1)))) (fun (u : Unit) => [(h0, .inr (12, [.int m_status, .int m_thrown, .long m_above, .long m_under, .ref a_traySort, .ref a_trayMany, .ref a_numbers, .ref a_tape, .int m_taped, .int m_textEnd, .int m_faultKind, .int m_faultAt, .int m_bad, .int m_badAt, .int m_token, .int m_at, .int m_behind, .int m_number, .int m_letters, .long m_word, .ref a_c, .ref a_words, .int m_markMany, .ref a_there, .ref a_tried, .ref a_best, .ref a_found, .int m_thereMany, .int m_foundMany, .int m_orderHow, .int m_orderRing, .int m_orderMany, .int m_hasBest, .long m_bestTop, .long m_bestBy, .ref a_weights, .ref a_shared, .int m_random, .int m_truePlace, .int m_trueWay, .int m_seconds, .int m_done, .int m_feelings, .int m_tries, .int m_leftOver, .int m_playDoor, .int m_playRing, .int m_isOpen, .int m_isOver, .int m_wasTried, .int m_hasPlayed, .ref a_feltNow, .ref a_last, .ref a_kept, .int m_hasSeconds, .int m_hasTurned, .int m_hasRound, .ref a_hasFeels, .ref a_isOn, .int m_firstAct, .long m_meanTop, .long m_meanBy, .ref a_order, .int m_rowMany, .int m_newSteps]))]) 0 0 := by
  have hk_0 : (0 : Int32).toInt = 0 := by decide +kernel
  have hk_108 : (108 : Int32).toInt = 108 := by decide +kernel
  have hk_111 : (111 : Int32).toInt = 111 := by decide +kernel
  have hk_112 : (112 : Int32).toInt = 112 := by decide +kernel
  refine z_start2z (own := RX12) (by decide) (Nat.le_of_ble_eq_true rfl) rfl ?_
  intro p e s m args below meth c A ls Q hx hb hml hts hown hK hE hT hP hD hS hA hl hret
  have hl : lv_has ls 1 [(0, .ref h0)] := hl
  refine lv_aload_n hx hb dX12_isLoop_0 rfl (lv_at hl 0 rfl) ?_
  refine lv_bipush (v := 108) hx hb dX12_isLoop_1 (by decide) ?_
  refine lv_bipush (v := 111) hx hb dX12_isLoop_3 (by decide) ?_
  refine lv_bipush (v := 111) hx hb dX12_isLoop_5 (by decide) ?_
  refine lv_bipush (v := 112) hx hb dX12_isLoop_7 (by decide) ?_
  refine lv_iconst (v := 0) hx hb dX12_isLoop_9 (by decide) ?_
  refine lv_iconst (v := 0) hx hb dX12_isLoop_10 (by decide) ?_
  refine z_callSl (As := [.int 108, .int 111, .int 111, .int 112, .int 0, .int 0]) (rest := [.ref h0]) (wr := [(h0, .inr (12, [.int m_status, .int m_thrown, .long m_above, .long m_under, .ref a_traySort, .ref a_trayMany, .ref a_numbers, .ref a_tape, .int m_taped, .int m_textEnd, .int m_faultKind, .int m_faultAt, .int m_bad, .int m_badAt, .int m_token, .int m_at, .int m_behind, .int m_number, .int m_letters, .long m_word, .ref a_c, .ref a_words, .int m_markMany, .ref a_there, .ref a_tried, .ref a_best, .ref a_found, .int m_thereMany, .int m_foundMany, .int m_orderHow, .int m_orderRing, .int m_orderMany, .int m_hasBest, .long m_bestTop, .long m_bestBy, .ref a_weights, .ref a_shared, .int m_random, .int m_truePlace, .int m_trueWay, .int m_seconds, .int m_done, .int m_feelings, .int m_tries, .int m_leftOver, .int m_playDoor, .int m_playRing, .int m_isOpen, .int m_isOver, .int m_wasTried, .int m_hasPlayed, .ref a_feltNow, .ref a_last, .ref a_kept, .int m_hasSeconds, .int m_hasTurned, .int m_hasRound, .ref a_hasFeels, .ref a_isOn, .int m_firstAct, .long m_meanTop, .long m_meanBy, .ref a_order, .int m_rowMany, .int m_newSteps]))]) ⟨hx, hb, hml, hown, hts⟩ hK hE hT hP hD hS hA (r_spelled l G cA 108 111 111 112 0 0 (by decide +kernel) (by decide +kernel) (by decide +kernel) (by decide +kernel) (by decide +kernel) (by decide +kernel)) lk_RX12_158 ⟨rfl, rfl⟩ ⟨Nat.le_of_ble_eq_true rfl, Nat.le_of_ble_eq_true rfl⟩ [] [0] rfl rfl (by decide) rfl hl.1 rfl (lv_room (Nat.le_of_ble_eq_true rfl)) dX12_isLoop_11 ⟨Nat.le_of_ble_eq_true rfl, Nat.le_of_ble_eq_true rfl⟩ (fun r_1 u_2 H locs hw hP hD hS => ?_)
  obtain ⟨he_r_1, hw⟩ := hw
  have hr_r_1 := hw
  refine z_callVi (As := [.long r_1]) (rest := []) (wr := []) ⟨hx, hb, hml, hown, hts⟩ hK hE hT hP hD hS hA (r_isWord l G cA h0 m_status m_thrown m_above m_under a_traySort a_trayMany a_numbers a_tape m_taped m_textEnd m_faultKind m_faultAt m_bad m_badAt m_token m_at m_behind m_number m_letters m_word a_c a_words m_markMany a_there a_tried a_best a_found m_thereMany m_foundMany m_orderHow m_orderRing m_orderMany m_hasBest m_bestTop m_bestBy a_weights a_shared m_random m_truePlace m_trueWay m_seconds m_done m_feelings m_tries m_leftOver m_playDoor m_playRing m_isOpen m_isOver m_wasTried m_hasPlayed a_feltNow a_last a_kept m_hasSeconds m_hasTurned m_hasRound a_hasFeels a_isOn m_firstAct m_meanTop m_meanBy a_order m_rowMany m_newSteps r_1 hr_m_token) lk_RX12_164 ⟨rfl, rfl⟩ ⟨Nat.le_of_ble_eq_true rfl, Nat.le_of_ble_eq_true rfl⟩ 12 rfl rfl rfl [0] [] rfl rfl (by decide) rfl hl.1 rfl (lv_room (Nat.le_of_ble_eq_true rfl)) dX12_isLoop_14 ⟨Nat.le_of_ble_eq_true rfl, Nat.le_of_ble_eq_true rfl⟩ (fun r_4 u_5 H locs hw hP hD hS => ?_)
  obtain ⟨he_r_4, hw⟩ := hw
  rcases hw with ⟨rfl, -⟩ | ⟨rfl, hf_7⟩
  · skip
    have hpost : ((0 : Int32) = 0 ∧ True) ∨ ((0 : Int32) = 1 ∧ (m_token.toInt = 1)) := (Or.inl ⟨rfl, trivial⟩)
    have hX_8 : F_r_isLoop m_token m_word = ((0 : Int32) : Int32) := by
      refine (F_r_isLoop_s ..).trans ?_
      extract_lets -merge -useContext +onlyGivenNames w9 y9; have e9 : r_1 = w9 := he_r_1; clear_value w9; subst e9
      extract_lets -merge -useContext +onlyGivenNames w9 y9; have e9 : (0 : Int32) = w9 := he_r_4; clear_value w9; subst e9
      refine (if_pos rfl).trans ?_
      exact rfl
    exact hret _ _ _ _ _ _ () [0] hP hD hS rfl (by decide) dX12_isLoop_17 (Or.inl rfl) ⟨(congrArg (fun z9 => z9) hX_8).symm, hpost⟩
  · skip
    have hpost : ((1 : Int32) = 0 ∧ True) ∨ ((1 : Int32) = 1 ∧ (m_token.toInt = 1)) := (Or.inr ⟨rfl, (by omega)⟩)
    have hX_9 : F_r_isLoop m_token m_word = ((1 : Int32) : Int32) := by
      refine (F_r_isLoop_s ..).trans ?_
      extract_lets -merge -useContext +onlyGivenNames w9 y9; have e9 : r_1 = w9 := he_r_1; clear_value w9; subst e9
      extract_lets -merge -useContext +onlyGivenNames w9 y9; have e9 : (1 : Int32) = w9 := he_r_4; clear_value w9; subst e9
      refine (if_neg (show ¬ (1 : Int32) = 0 by decide)).trans ?_
      exact rfl
    exact hret _ _ _ _ _ _ () [0] hP hD hS rfl (by decide) dX12_isLoop_17 (Or.inr rfl) ⟨(congrArg (fun z9 => z9) hX_9).symm, hpost⟩
set_option maxHeartbeats 40000000 in
set_option maxRecDepth 100000 in
theorem r_isEnd (l : Launch) (G : va_G) (cA : zCA) (h0 : Nat) (m_status : Int32) (m_thrown : Int32) (m_above : Int64) (m_under : Int64) (a_traySort : Nat) (a_trayMany : Nat) (a_numbers : Nat) (a_tape : Nat) (m_taped : Int32) (m_textEnd : Int32) (m_faultKind : Int32) (m_faultAt : Int32) (m_bad : Int32) (m_badAt : Int32) (m_token : Int32) (m_at : Int32) (m_behind : Int32) (m_number : Int32) (m_letters : Int32) (m_word : Int64) (a_c : Nat) (a_words : Nat) (m_markMany : Int32) (a_there : Nat) (a_tried : Nat) (a_best : Nat) (a_found : Nat) (m_thereMany : Int32) (m_foundMany : Int32) (m_orderHow : Int32) (m_orderRing : Int32) (m_orderMany : Int32) (m_hasBest : Int32) (m_bestTop : Int64) (m_bestBy : Int64) (a_weights : Nat) (a_shared : Nat) (m_random : Int32) (m_truePlace : Int32) (m_trueWay : Int32) (m_seconds : Int32) (m_done : Int32) (m_feelings : Int32) (m_tries : Int32) (m_leftOver : Int32) (m_playDoor : Int32) (m_playRing : Int32) (m_isOpen : Int32) (m_isOver : Int32) (m_wasTried : Int32) (m_hasPlayed : Int32) (a_feltNow : Nat) (a_last : Nat) (a_kept : Nat) (m_hasSeconds : Int32) (m_hasTurned : Int32) (m_hasRound : Int32) (a_hasFeels : Nat) (a_isOn : Nat) (m_firstAct : Int32) (m_meanTop : Int64) (m_meanBy : Int64) (a_order : Nat) (m_rowMany : Int32) (m_newSteps : Int32) (hr_m_token : 0 ≤ m_token.toInt ∧ m_token.toInt ≤ 4) : zCi l yX12_isEnd cX12_isEnd 1 (some .boolean) ({ frames := 1, cells := 0, slots := 0, locals := 27 }) G cA [.ref h0] [(h0, .inr (12, [.int m_status, .int m_thrown, .long m_above, .long m_under, .ref a_traySort, .ref a_trayMany, .ref a_numbers, .ref a_tape, .int m_taped, .int m_textEnd, .int m_faultKind, .int m_faultAt, .int m_bad, .int m_badAt, .int m_token, .int m_at, .int m_behind, .int m_number, .int m_letters, .long m_word, .ref a_c, .ref a_words, .int m_markMany, .ref a_there, .ref a_tried, .ref a_best, .ref a_found, .int m_thereMany, .int m_foundMany, .int m_orderHow, .int m_orderRing, .int m_orderMany, .int m_hasBest, .long m_bestTop, .long m_bestBy, .ref a_weights, .ref a_shared, .int m_random, .int m_truePlace, .int m_trueWay, .int m_seconds, .int m_done, .int m_feelings, .int m_tries, .int m_leftOver, .int m_playDoor, .int m_playRing, .int m_isOpen, .int m_isOver, .int m_wasTried, .int m_hasPlayed, .ref a_feltNow, .ref a_last, .ref a_kept, .int m_hasSeconds, .int m_hasTurned, .int m_hasRound, .ref a_hasFeels, .ref a_isOn, .int m_firstAct, .long m_meanTop, .long m_meanBy, .ref a_order, .int m_rowMany, .int m_newSteps]))] (S := Unit) (fun (r : Int32) (u : Unit) => (r = (F_r_isEnd m_token m_word)) ∧ ((r = 0 ∧ True) ∨ (r = 1 ∧ (m_token.toInt = 1)))) (fun (u : Unit) => [(h0, .inr (12, [.int m_status, .int m_thrown, .long m_above, .long m_under, .ref a_traySort, .ref a_trayMany, .ref a_numbers, .ref a_tape, .int m_taped, .int m_textEnd, .int m_faultKind, .int m_faultAt, .int m_bad, .int m_badAt, .int m_token, .int m_at, .int m_behind, .int m_number, .int m_letters, .long m_word, .ref a_c, .ref a_words, .int m_markMany, .ref a_there, .ref a_tried, .ref a_best, .ref a_found, .int m_thereMany, .int m_foundMany, .int m_orderHow, .int m_orderRing, .int m_orderMany, .int m_hasBest, .long m_bestTop, .long m_bestBy, .ref a_weights, .ref a_shared, .int m_random, .int m_truePlace, .int m_trueWay, .int m_seconds, .int m_done, .int m_feelings, .int m_tries, .int m_leftOver, .int m_playDoor, .int m_playRing, .int m_isOpen, .int m_isOver, .int m_wasTried, .int m_hasPlayed, .ref a_feltNow, .ref a_last, .ref a_kept, .int m_hasSeconds, .int m_hasTurned, .int m_hasRound, .ref a_hasFeels, .ref a_isOn, .int m_firstAct, .long m_meanTop, .long m_meanBy, .ref a_order, .int m_rowMany, .int m_newSteps]))]) 0 0 := by
  have hk_0 : (0 : Int32).toInt = 0 := by decide +kernel
  have hk_100 : (100 : Int32).toInt = 100 := by decide +kernel
  have hk_101 : (101 : Int32).toInt = 101 := by decide +kernel
  have hk_110 : (110 : Int32).toInt = 110 := by decide +kernel
  refine z_start2z (own := RX12) (by decide) (Nat.le_of_ble_eq_true rfl) rfl ?_
  intro p e s m args below meth c A ls Q hx hb hml hts hown hK hE hT hP hD hS hA hl hret
  have hl : lv_has ls 1 [(0, .ref h0)] := hl
  refine lv_aload_n hx hb dX12_isEnd_0 rfl (lv_at hl 0 rfl) ?_
  refine lv_bipush (v := 101) hx hb dX12_isEnd_1 (by decide) ?_
  refine lv_bipush (v := 110) hx hb dX12_isEnd_3 (by decide) ?_
  refine lv_bipush (v := 100) hx hb dX12_isEnd_5 (by decide) ?_
  refine lv_iconst (v := 0) hx hb dX12_isEnd_7 (by decide) ?_
  refine lv_iconst (v := 0) hx hb dX12_isEnd_8 (by decide) ?_
  refine lv_iconst (v := 0) hx hb dX12_isEnd_9 (by decide) ?_
  refine z_callSl (As := [.int 101, .int 110, .int 100, .int 0, .int 0, .int 0]) (rest := [.ref h0]) (wr := [(h0, .inr (12, [.int m_status, .int m_thrown, .long m_above, .long m_under, .ref a_traySort, .ref a_trayMany, .ref a_numbers, .ref a_tape, .int m_taped, .int m_textEnd, .int m_faultKind, .int m_faultAt, .int m_bad, .int m_badAt, .int m_token, .int m_at, .int m_behind, .int m_number, .int m_letters, .long m_word, .ref a_c, .ref a_words, .int m_markMany, .ref a_there, .ref a_tried, .ref a_best, .ref a_found, .int m_thereMany, .int m_foundMany, .int m_orderHow, .int m_orderRing, .int m_orderMany, .int m_hasBest, .long m_bestTop, .long m_bestBy, .ref a_weights, .ref a_shared, .int m_random, .int m_truePlace, .int m_trueWay, .int m_seconds, .int m_done, .int m_feelings, .int m_tries, .int m_leftOver, .int m_playDoor, .int m_playRing, .int m_isOpen, .int m_isOver, .int m_wasTried, .int m_hasPlayed, .ref a_feltNow, .ref a_last, .ref a_kept, .int m_hasSeconds, .int m_hasTurned, .int m_hasRound, .ref a_hasFeels, .ref a_isOn, .int m_firstAct, .long m_meanTop, .long m_meanBy, .ref a_order, .int m_rowMany, .int m_newSteps]))]) ⟨hx, hb, hml, hown, hts⟩ hK hE hT hP hD hS hA (r_spelled l G cA 101 110 100 0 0 0 (by decide +kernel) (by decide +kernel) (by decide +kernel) (by decide +kernel) (by decide +kernel) (by decide +kernel)) lk_RX12_158 ⟨rfl, rfl⟩ ⟨Nat.le_of_ble_eq_true rfl, Nat.le_of_ble_eq_true rfl⟩ [] [0] rfl rfl (by decide) rfl hl.1 rfl (lv_room (Nat.le_of_ble_eq_true rfl)) dX12_isEnd_10 ⟨Nat.le_of_ble_eq_true rfl, Nat.le_of_ble_eq_true rfl⟩ (fun r_1 u_2 H locs hw hP hD hS => ?_)
  obtain ⟨he_r_1, hw⟩ := hw
  have hr_r_1 := hw
  refine z_callVi (As := [.long r_1]) (rest := []) (wr := []) ⟨hx, hb, hml, hown, hts⟩ hK hE hT hP hD hS hA (r_isWord l G cA h0 m_status m_thrown m_above m_under a_traySort a_trayMany a_numbers a_tape m_taped m_textEnd m_faultKind m_faultAt m_bad m_badAt m_token m_at m_behind m_number m_letters m_word a_c a_words m_markMany a_there a_tried a_best a_found m_thereMany m_foundMany m_orderHow m_orderRing m_orderMany m_hasBest m_bestTop m_bestBy a_weights a_shared m_random m_truePlace m_trueWay m_seconds m_done m_feelings m_tries m_leftOver m_playDoor m_playRing m_isOpen m_isOver m_wasTried m_hasPlayed a_feltNow a_last a_kept m_hasSeconds m_hasTurned m_hasRound a_hasFeels a_isOn m_firstAct m_meanTop m_meanBy a_order m_rowMany m_newSteps r_1 hr_m_token) lk_RX12_164 ⟨rfl, rfl⟩ ⟨Nat.le_of_ble_eq_true rfl, Nat.le_of_ble_eq_true rfl⟩ 12 rfl rfl rfl [0] [] rfl rfl (by decide) rfl hl.1 rfl (lv_room (Nat.le_of_ble_eq_true rfl)) dX12_isEnd_13 ⟨Nat.le_of_ble_eq_true rfl, Nat.le_of_ble_eq_true rfl⟩ (fun r_4 u_5 H locs hw hP hD hS => ?_)
  obtain ⟨he_r_4, hw⟩ := hw
  rcases hw with ⟨rfl, -⟩ | ⟨rfl, hf_7⟩
  · skip
    have hpost : ((0 : Int32) = 0 ∧ True) ∨ ((0 : Int32) = 1 ∧ (m_token.toInt = 1)) := (Or.inl ⟨rfl, trivial⟩)
    have hX_8 : F_r_isEnd m_token m_word = ((0 : Int32) : Int32) := by
      refine (F_r_isEnd_s ..).trans ?_
      extract_lets -merge -useContext +onlyGivenNames w9 y9; have e9 : r_1 = w9 := he_r_1; clear_value w9; subst e9
      extract_lets -merge -useContext +onlyGivenNames w9 y9; have e9 : (0 : Int32) = w9 := he_r_4; clear_value w9; subst e9
      refine (if_pos rfl).trans ?_
      exact rfl
    exact hret _ _ _ _ _ _ () [0] hP hD hS rfl (by decide) dX12_isEnd_16 (Or.inl rfl) ⟨(congrArg (fun z9 => z9) hX_8).symm, hpost⟩
  · skip
    have hpost : ((1 : Int32) = 0 ∧ True) ∨ ((1 : Int32) = 1 ∧ (m_token.toInt = 1)) := (Or.inr ⟨rfl, (by omega)⟩)
    have hX_9 : F_r_isEnd m_token m_word = ((1 : Int32) : Int32) := by
      refine (F_r_isEnd_s ..).trans ?_
      extract_lets -merge -useContext +onlyGivenNames w9 y9; have e9 : r_1 = w9 := he_r_1; clear_value w9; subst e9
      extract_lets -merge -useContext +onlyGivenNames w9 y9; have e9 : (1 : Int32) = w9 := he_r_4; clear_value w9; subst e9
      refine (if_neg (show ¬ (1 : Int32) = 0 by decide)).trans ?_
      exact rfl
    exact hret _ _ _ _ _ _ () [0] hP hD hS rfl (by decide) dX12_isEnd_16 (Or.inr rfl) ⟨(congrArg (fun z9 => z9) hX_9).symm, hpost⟩
set_option maxHeartbeats 40000000 in
set_option maxRecDepth 100000 in
theorem r_isFelt (l : Launch) (G : va_G) (cA : zCA) (h0 : Nat) (m_status : Int32) (m_thrown : Int32) (m_above : Int64) (m_under : Int64) (a_traySort : Nat) (a_trayMany : Nat) (a_numbers : Nat) (a_tape : Nat) (m_taped : Int32) (m_textEnd : Int32) (m_faultKind : Int32) (m_faultAt : Int32) (m_bad : Int32) (m_badAt : Int32) (m_token : Int32) (m_at : Int32) (m_behind : Int32) (m_number : Int32) (m_letters : Int32) (m_word : Int64) (a_c : Nat) (a_words : Nat) (m_markMany : Int32) (a_there : Nat) (a_tried : Nat) (a_best : Nat) (a_found : Nat) (m_thereMany : Int32) (m_foundMany : Int32) (m_orderHow : Int32) (m_orderRing : Int32) (m_orderMany : Int32) (m_hasBest : Int32) (m_bestTop : Int64) (m_bestBy : Int64) (a_weights : Nat) (a_shared : Nat) (m_random : Int32) (m_truePlace : Int32) (m_trueWay : Int32) (m_seconds : Int32) (m_done : Int32) (m_feelings : Int32) (m_tries : Int32) (m_leftOver : Int32) (m_playDoor : Int32) (m_playRing : Int32) (m_isOpen : Int32) (m_isOver : Int32) (m_wasTried : Int32) (m_hasPlayed : Int32) (a_feltNow : Nat) (a_last : Nat) (a_kept : Nat) (m_hasSeconds : Int32) (m_hasTurned : Int32) (m_hasRound : Int32) (a_hasFeels : Nat) (a_isOn : Nat) (m_firstAct : Int32) (m_meanTop : Int64) (m_meanBy : Int64) (a_order : Nat) (m_rowMany : Int32) (m_newSteps : Int32) (hr_m_token : 0 ≤ m_token.toInt ∧ m_token.toInt ≤ 4) : zCi l yX12_isFelt cX12_isFelt 1 (some .boolean) ({ frames := 1, cells := 0, slots := 0, locals := 27 }) G cA [.ref h0] [(h0, .inr (12, [.int m_status, .int m_thrown, .long m_above, .long m_under, .ref a_traySort, .ref a_trayMany, .ref a_numbers, .ref a_tape, .int m_taped, .int m_textEnd, .int m_faultKind, .int m_faultAt, .int m_bad, .int m_badAt, .int m_token, .int m_at, .int m_behind, .int m_number, .int m_letters, .long m_word, .ref a_c, .ref a_words, .int m_markMany, .ref a_there, .ref a_tried, .ref a_best, .ref a_found, .int m_thereMany, .int m_foundMany, .int m_orderHow, .int m_orderRing, .int m_orderMany, .int m_hasBest, .long m_bestTop, .long m_bestBy, .ref a_weights, .ref a_shared, .int m_random, .int m_truePlace, .int m_trueWay, .int m_seconds, .int m_done, .int m_feelings, .int m_tries, .int m_leftOver, .int m_playDoor, .int m_playRing, .int m_isOpen, .int m_isOver, .int m_wasTried, .int m_hasPlayed, .ref a_feltNow, .ref a_last, .ref a_kept, .int m_hasSeconds, .int m_hasTurned, .int m_hasRound, .ref a_hasFeels, .ref a_isOn, .int m_firstAct, .long m_meanTop, .long m_meanBy, .ref a_order, .int m_rowMany, .int m_newSteps]))] (S := Unit) (fun (r : Int32) (u : Unit) => (r = (F_r_isFelt m_token m_word)) ∧ ((r = 0 ∧ True) ∨ (r = 1 ∧ (m_token.toInt = 1)))) (fun (u : Unit) => [(h0, .inr (12, [.int m_status, .int m_thrown, .long m_above, .long m_under, .ref a_traySort, .ref a_trayMany, .ref a_numbers, .ref a_tape, .int m_taped, .int m_textEnd, .int m_faultKind, .int m_faultAt, .int m_bad, .int m_badAt, .int m_token, .int m_at, .int m_behind, .int m_number, .int m_letters, .long m_word, .ref a_c, .ref a_words, .int m_markMany, .ref a_there, .ref a_tried, .ref a_best, .ref a_found, .int m_thereMany, .int m_foundMany, .int m_orderHow, .int m_orderRing, .int m_orderMany, .int m_hasBest, .long m_bestTop, .long m_bestBy, .ref a_weights, .ref a_shared, .int m_random, .int m_truePlace, .int m_trueWay, .int m_seconds, .int m_done, .int m_feelings, .int m_tries, .int m_leftOver, .int m_playDoor, .int m_playRing, .int m_isOpen, .int m_isOver, .int m_wasTried, .int m_hasPlayed, .ref a_feltNow, .ref a_last, .ref a_kept, .int m_hasSeconds, .int m_hasTurned, .int m_hasRound, .ref a_hasFeels, .ref a_isOn, .int m_firstAct, .long m_meanTop, .long m_meanBy, .ref a_order, .int m_rowMany, .int m_newSteps]))]) 0 0 := by
  have hk_0 : (0 : Int32).toInt = 0 := by decide +kernel
  have hk_101 : (101 : Int32).toInt = 101 := by decide +kernel
  have hk_102 : (102 : Int32).toInt = 102 := by decide +kernel
  have hk_108 : (108 : Int32).toInt = 108 := by decide +kernel
  have hk_116 : (116 : Int32).toInt = 116 := by decide +kernel
  refine z_start2z (own := RX12) (by decide) (Nat.le_of_ble_eq_true rfl) rfl ?_
  intro p e s m args below meth c A ls Q hx hb hml hts hown hK hE hT hP hD hS hA hl hret
  have hl : lv_has ls 1 [(0, .ref h0)] := hl
  refine lv_aload_n hx hb dX12_isFelt_0 rfl (lv_at hl 0 rfl) ?_
  refine lv_bipush (v := 102) hx hb dX12_isFelt_1 (by decide) ?_
  refine lv_bipush (v := 101) hx hb dX12_isFelt_3 (by decide) ?_
  refine lv_bipush (v := 108) hx hb dX12_isFelt_5 (by decide) ?_
  refine lv_bipush (v := 116) hx hb dX12_isFelt_7 (by decide) ?_
  refine lv_iconst (v := 0) hx hb dX12_isFelt_9 (by decide) ?_
  refine lv_iconst (v := 0) hx hb dX12_isFelt_10 (by decide) ?_
  refine z_callSl (As := [.int 102, .int 101, .int 108, .int 116, .int 0, .int 0]) (rest := [.ref h0]) (wr := [(h0, .inr (12, [.int m_status, .int m_thrown, .long m_above, .long m_under, .ref a_traySort, .ref a_trayMany, .ref a_numbers, .ref a_tape, .int m_taped, .int m_textEnd, .int m_faultKind, .int m_faultAt, .int m_bad, .int m_badAt, .int m_token, .int m_at, .int m_behind, .int m_number, .int m_letters, .long m_word, .ref a_c, .ref a_words, .int m_markMany, .ref a_there, .ref a_tried, .ref a_best, .ref a_found, .int m_thereMany, .int m_foundMany, .int m_orderHow, .int m_orderRing, .int m_orderMany, .int m_hasBest, .long m_bestTop, .long m_bestBy, .ref a_weights, .ref a_shared, .int m_random, .int m_truePlace, .int m_trueWay, .int m_seconds, .int m_done, .int m_feelings, .int m_tries, .int m_leftOver, .int m_playDoor, .int m_playRing, .int m_isOpen, .int m_isOver, .int m_wasTried, .int m_hasPlayed, .ref a_feltNow, .ref a_last, .ref a_kept, .int m_hasSeconds, .int m_hasTurned, .int m_hasRound, .ref a_hasFeels, .ref a_isOn, .int m_firstAct, .long m_meanTop, .long m_meanBy, .ref a_order, .int m_rowMany, .int m_newSteps]))]) ⟨hx, hb, hml, hown, hts⟩ hK hE hT hP hD hS hA (r_spelled l G cA 102 101 108 116 0 0 (by decide +kernel) (by decide +kernel) (by decide +kernel) (by decide +kernel) (by decide +kernel) (by decide +kernel)) lk_RX12_158 ⟨rfl, rfl⟩ ⟨Nat.le_of_ble_eq_true rfl, Nat.le_of_ble_eq_true rfl⟩ [] [0] rfl rfl (by decide) rfl hl.1 rfl (lv_room (Nat.le_of_ble_eq_true rfl)) dX12_isFelt_11 ⟨Nat.le_of_ble_eq_true rfl, Nat.le_of_ble_eq_true rfl⟩ (fun r_1 u_2 H locs hw hP hD hS => ?_)
  obtain ⟨he_r_1, hw⟩ := hw
  have hr_r_1 := hw
  refine z_callVi (As := [.long r_1]) (rest := []) (wr := []) ⟨hx, hb, hml, hown, hts⟩ hK hE hT hP hD hS hA (r_isWord l G cA h0 m_status m_thrown m_above m_under a_traySort a_trayMany a_numbers a_tape m_taped m_textEnd m_faultKind m_faultAt m_bad m_badAt m_token m_at m_behind m_number m_letters m_word a_c a_words m_markMany a_there a_tried a_best a_found m_thereMany m_foundMany m_orderHow m_orderRing m_orderMany m_hasBest m_bestTop m_bestBy a_weights a_shared m_random m_truePlace m_trueWay m_seconds m_done m_feelings m_tries m_leftOver m_playDoor m_playRing m_isOpen m_isOver m_wasTried m_hasPlayed a_feltNow a_last a_kept m_hasSeconds m_hasTurned m_hasRound a_hasFeels a_isOn m_firstAct m_meanTop m_meanBy a_order m_rowMany m_newSteps r_1 hr_m_token) lk_RX12_164 ⟨rfl, rfl⟩ ⟨Nat.le_of_ble_eq_true rfl, Nat.le_of_ble_eq_true rfl⟩ 12 rfl rfl rfl [0] [] rfl rfl (by decide) rfl hl.1 rfl (lv_room (Nat.le_of_ble_eq_true rfl)) dX12_isFelt_14 ⟨Nat.le_of_ble_eq_true rfl, Nat.le_of_ble_eq_true rfl⟩ (fun r_4 u_5 H locs hw hP hD hS => ?_)
  obtain ⟨he_r_4, hw⟩ := hw
  rcases hw with ⟨rfl, -⟩ | ⟨rfl, hf_7⟩
  · skip
    have hpost : ((0 : Int32) = 0 ∧ True) ∨ ((0 : Int32) = 1 ∧ (m_token.toInt = 1)) := (Or.inl ⟨rfl, trivial⟩)
    have hX_8 : F_r_isFelt m_token m_word = ((0 : Int32) : Int32) := by
      refine (F_r_isFelt_s ..).trans ?_
      extract_lets -merge -useContext +onlyGivenNames w9 y9; have e9 : r_1 = w9 := he_r_1; clear_value w9; subst e9
      extract_lets -merge -useContext +onlyGivenNames w9 y9; have e9 : (0 : Int32) = w9 := he_r_4; clear_value w9; subst e9
      refine (if_pos rfl).trans ?_
      exact rfl
    exact hret _ _ _ _ _ _ () [0] hP hD hS rfl (by decide) dX12_isFelt_17 (Or.inl rfl) ⟨(congrArg (fun z9 => z9) hX_8).symm, hpost⟩
  · skip
    have hpost : ((1 : Int32) = 0 ∧ True) ∨ ((1 : Int32) = 1 ∧ (m_token.toInt = 1)) := (Or.inr ⟨rfl, (by omega)⟩)
    have hX_9 : F_r_isFelt m_token m_word = ((1 : Int32) : Int32) := by
      refine (F_r_isFelt_s ..).trans ?_
      extract_lets -merge -useContext +onlyGivenNames w9 y9; have e9 : r_1 = w9 := he_r_1; clear_value w9; subst e9
      extract_lets -merge -useContext +onlyGivenNames w9 y9; have e9 : (1 : Int32) = w9 := he_r_4; clear_value w9; subst e9
      refine (if_neg (show ¬ (1 : Int32) = 0 by decide)).trans ?_
      exact rfl
    exact hret _ _ _ _ _ _ () [0] hP hD hS rfl (by decide) dX12_isFelt_17 (Or.inr rfl) ⟨(congrArg (fun z9 => z9) hX_9).symm, hpost⟩
set_option maxHeartbeats 40000000 in
set_option maxRecDepth 100000 in
theorem r_isSure (l : Launch) (G : va_G) (cA : zCA) (h0 : Nat) (m_status : Int32) (m_thrown : Int32) (m_above : Int64) (m_under : Int64) (a_traySort : Nat) (a_trayMany : Nat) (a_numbers : Nat) (a_tape : Nat) (m_taped : Int32) (m_textEnd : Int32) (m_faultKind : Int32) (m_faultAt : Int32) (m_bad : Int32) (m_badAt : Int32) (m_token : Int32) (m_at : Int32) (m_behind : Int32) (m_number : Int32) (m_letters : Int32) (m_word : Int64) (a_c : Nat) (a_words : Nat) (m_markMany : Int32) (a_there : Nat) (a_tried : Nat) (a_best : Nat) (a_found : Nat) (m_thereMany : Int32) (m_foundMany : Int32) (m_orderHow : Int32) (m_orderRing : Int32) (m_orderMany : Int32) (m_hasBest : Int32) (m_bestTop : Int64) (m_bestBy : Int64) (a_weights : Nat) (a_shared : Nat) (m_random : Int32) (m_truePlace : Int32) (m_trueWay : Int32) (m_seconds : Int32) (m_done : Int32) (m_feelings : Int32) (m_tries : Int32) (m_leftOver : Int32) (m_playDoor : Int32) (m_playRing : Int32) (m_isOpen : Int32) (m_isOver : Int32) (m_wasTried : Int32) (m_hasPlayed : Int32) (a_feltNow : Nat) (a_last : Nat) (a_kept : Nat) (m_hasSeconds : Int32) (m_hasTurned : Int32) (m_hasRound : Int32) (a_hasFeels : Nat) (a_isOn : Nat) (m_firstAct : Int32) (m_meanTop : Int64) (m_meanBy : Int64) (a_order : Nat) (m_rowMany : Int32) (m_newSteps : Int32) (hr_m_token : 0 ≤ m_token.toInt ∧ m_token.toInt ≤ 4) : zCi l yX12_isSure cX12_isSure 1 (some .boolean) ({ frames := 1, cells := 0, slots := 0, locals := 27 }) G cA [.ref h0] [(h0, .inr (12, [.int m_status, .int m_thrown, .long m_above, .long m_under, .ref a_traySort, .ref a_trayMany, .ref a_numbers, .ref a_tape, .int m_taped, .int m_textEnd, .int m_faultKind, .int m_faultAt, .int m_bad, .int m_badAt, .int m_token, .int m_at, .int m_behind, .int m_number, .int m_letters, .long m_word, .ref a_c, .ref a_words, .int m_markMany, .ref a_there, .ref a_tried, .ref a_best, .ref a_found, .int m_thereMany, .int m_foundMany, .int m_orderHow, .int m_orderRing, .int m_orderMany, .int m_hasBest, .long m_bestTop, .long m_bestBy, .ref a_weights, .ref a_shared, .int m_random, .int m_truePlace, .int m_trueWay, .int m_seconds, .int m_done, .int m_feelings, .int m_tries, .int m_leftOver, .int m_playDoor, .int m_playRing, .int m_isOpen, .int m_isOver, .int m_wasTried, .int m_hasPlayed, .ref a_feltNow, .ref a_last, .ref a_kept, .int m_hasSeconds, .int m_hasTurned, .int m_hasRound, .ref a_hasFeels, .ref a_isOn, .int m_firstAct, .long m_meanTop, .long m_meanBy, .ref a_order, .int m_rowMany, .int m_newSteps]))] (S := Unit) (fun (r : Int32) (u : Unit) => (r = (F_r_isSure m_token m_word)) ∧ ((r = 0 ∧ True) ∨ (r = 1 ∧ (m_token.toInt = 1)))) (fun (u : Unit) => [(h0, .inr (12, [.int m_status, .int m_thrown, .long m_above, .long m_under, .ref a_traySort, .ref a_trayMany, .ref a_numbers, .ref a_tape, .int m_taped, .int m_textEnd, .int m_faultKind, .int m_faultAt, .int m_bad, .int m_badAt, .int m_token, .int m_at, .int m_behind, .int m_number, .int m_letters, .long m_word, .ref a_c, .ref a_words, .int m_markMany, .ref a_there, .ref a_tried, .ref a_best, .ref a_found, .int m_thereMany, .int m_foundMany, .int m_orderHow, .int m_orderRing, .int m_orderMany, .int m_hasBest, .long m_bestTop, .long m_bestBy, .ref a_weights, .ref a_shared, .int m_random, .int m_truePlace, .int m_trueWay, .int m_seconds, .int m_done, .int m_feelings, .int m_tries, .int m_leftOver, .int m_playDoor, .int m_playRing, .int m_isOpen, .int m_isOver, .int m_wasTried, .int m_hasPlayed, .ref a_feltNow, .ref a_last, .ref a_kept, .int m_hasSeconds, .int m_hasTurned, .int m_hasRound, .ref a_hasFeels, .ref a_isOn, .int m_firstAct, .long m_meanTop, .long m_meanBy, .ref a_order, .int m_rowMany, .int m_newSteps]))]) 0 0 := by
  have hk_0 : (0 : Int32).toInt = 0 := by decide +kernel
  have hk_101 : (101 : Int32).toInt = 101 := by decide +kernel
  have hk_114 : (114 : Int32).toInt = 114 := by decide +kernel
  have hk_115 : (115 : Int32).toInt = 115 := by decide +kernel
  have hk_117 : (117 : Int32).toInt = 117 := by decide +kernel
  refine z_start2z (own := RX12) (by decide) (Nat.le_of_ble_eq_true rfl) rfl ?_
  intro p e s m args below meth c A ls Q hx hb hml hts hown hK hE hT hP hD hS hA hl hret
  have hl : lv_has ls 1 [(0, .ref h0)] := hl
  refine lv_aload_n hx hb dX12_isSure_0 rfl (lv_at hl 0 rfl) ?_
  refine lv_bipush (v := 115) hx hb dX12_isSure_1 (by decide) ?_
  refine lv_bipush (v := 117) hx hb dX12_isSure_3 (by decide) ?_
  refine lv_bipush (v := 114) hx hb dX12_isSure_5 (by decide) ?_
  refine lv_bipush (v := 101) hx hb dX12_isSure_7 (by decide) ?_
  refine lv_iconst (v := 0) hx hb dX12_isSure_9 (by decide) ?_
  refine lv_iconst (v := 0) hx hb dX12_isSure_10 (by decide) ?_
  refine z_callSl (As := [.int 115, .int 117, .int 114, .int 101, .int 0, .int 0]) (rest := [.ref h0]) (wr := [(h0, .inr (12, [.int m_status, .int m_thrown, .long m_above, .long m_under, .ref a_traySort, .ref a_trayMany, .ref a_numbers, .ref a_tape, .int m_taped, .int m_textEnd, .int m_faultKind, .int m_faultAt, .int m_bad, .int m_badAt, .int m_token, .int m_at, .int m_behind, .int m_number, .int m_letters, .long m_word, .ref a_c, .ref a_words, .int m_markMany, .ref a_there, .ref a_tried, .ref a_best, .ref a_found, .int m_thereMany, .int m_foundMany, .int m_orderHow, .int m_orderRing, .int m_orderMany, .int m_hasBest, .long m_bestTop, .long m_bestBy, .ref a_weights, .ref a_shared, .int m_random, .int m_truePlace, .int m_trueWay, .int m_seconds, .int m_done, .int m_feelings, .int m_tries, .int m_leftOver, .int m_playDoor, .int m_playRing, .int m_isOpen, .int m_isOver, .int m_wasTried, .int m_hasPlayed, .ref a_feltNow, .ref a_last, .ref a_kept, .int m_hasSeconds, .int m_hasTurned, .int m_hasRound, .ref a_hasFeels, .ref a_isOn, .int m_firstAct, .long m_meanTop, .long m_meanBy, .ref a_order, .int m_rowMany, .int m_newSteps]))]) ⟨hx, hb, hml, hown, hts⟩ hK hE hT hP hD hS hA (r_spelled l G cA 115 117 114 101 0 0 (by decide +kernel) (by decide +kernel) (by decide +kernel) (by decide +kernel) (by decide +kernel) (by decide +kernel)) lk_RX12_158 ⟨rfl, rfl⟩ ⟨Nat.le_of_ble_eq_true rfl, Nat.le_of_ble_eq_true rfl⟩ [] [0] rfl rfl (by decide) rfl hl.1 rfl (lv_room (Nat.le_of_ble_eq_true rfl)) dX12_isSure_11 ⟨Nat.le_of_ble_eq_true rfl, Nat.le_of_ble_eq_true rfl⟩ (fun r_1 u_2 H locs hw hP hD hS => ?_)
  obtain ⟨he_r_1, hw⟩ := hw
  have hr_r_1 := hw
  refine z_callVi (As := [.long r_1]) (rest := []) (wr := []) ⟨hx, hb, hml, hown, hts⟩ hK hE hT hP hD hS hA (r_isWord l G cA h0 m_status m_thrown m_above m_under a_traySort a_trayMany a_numbers a_tape m_taped m_textEnd m_faultKind m_faultAt m_bad m_badAt m_token m_at m_behind m_number m_letters m_word a_c a_words m_markMany a_there a_tried a_best a_found m_thereMany m_foundMany m_orderHow m_orderRing m_orderMany m_hasBest m_bestTop m_bestBy a_weights a_shared m_random m_truePlace m_trueWay m_seconds m_done m_feelings m_tries m_leftOver m_playDoor m_playRing m_isOpen m_isOver m_wasTried m_hasPlayed a_feltNow a_last a_kept m_hasSeconds m_hasTurned m_hasRound a_hasFeels a_isOn m_firstAct m_meanTop m_meanBy a_order m_rowMany m_newSteps r_1 hr_m_token) lk_RX12_164 ⟨rfl, rfl⟩ ⟨Nat.le_of_ble_eq_true rfl, Nat.le_of_ble_eq_true rfl⟩ 12 rfl rfl rfl [0] [] rfl rfl (by decide) rfl hl.1 rfl (lv_room (Nat.le_of_ble_eq_true rfl)) dX12_isSure_14 ⟨Nat.le_of_ble_eq_true rfl, Nat.le_of_ble_eq_true rfl⟩ (fun r_4 u_5 H locs hw hP hD hS => ?_)
  obtain ⟨he_r_4, hw⟩ := hw
  rcases hw with ⟨rfl, -⟩ | ⟨rfl, hf_7⟩
  · skip
    have hpost : ((0 : Int32) = 0 ∧ True) ∨ ((0 : Int32) = 1 ∧ (m_token.toInt = 1)) := (Or.inl ⟨rfl, trivial⟩)
    have hX_8 : F_r_isSure m_token m_word = ((0 : Int32) : Int32) := by
      refine (F_r_isSure_s ..).trans ?_
      extract_lets -merge -useContext +onlyGivenNames w9 y9; have e9 : r_1 = w9 := he_r_1; clear_value w9; subst e9
      extract_lets -merge -useContext +onlyGivenNames w9 y9; have e9 : (0 : Int32) = w9 := he_r_4; clear_value w9; subst e9
      refine (if_pos rfl).trans ?_
      exact rfl
    exact hret _ _ _ _ _ _ () [0] hP hD hS rfl (by decide) dX12_isSure_17 (Or.inl rfl) ⟨(congrArg (fun z9 => z9) hX_8).symm, hpost⟩
  · skip
    have hpost : ((1 : Int32) = 0 ∧ True) ∨ ((1 : Int32) = 1 ∧ (m_token.toInt = 1)) := (Or.inr ⟨rfl, (by omega)⟩)
    have hX_9 : F_r_isSure m_token m_word = ((1 : Int32) : Int32) := by
      refine (F_r_isSure_s ..).trans ?_
      extract_lets -merge -useContext +onlyGivenNames w9 y9; have e9 : r_1 = w9 := he_r_1; clear_value w9; subst e9
      extract_lets -merge -useContext +onlyGivenNames w9 y9; have e9 : (1 : Int32) = w9 := he_r_4; clear_value w9; subst e9
      refine (if_neg (show ¬ (1 : Int32) = 0 by decide)).trans ?_
      exact rfl
    exact hret _ _ _ _ _ _ () [0] hP hD hS rfl (by decide) dX12_isSure_17 (Or.inr rfl) ⟨(congrArg (fun z9 => z9) hX_9).symm, hpost⟩
set_option maxHeartbeats 40000000 in
set_option maxRecDepth 100000 in
theorem r_isTried (l : Launch) (G : va_G) (cA : zCA) (h0 : Nat) (m_status : Int32) (m_thrown : Int32) (m_above : Int64) (m_under : Int64) (a_traySort : Nat) (a_trayMany : Nat) (a_numbers : Nat) (a_tape : Nat) (m_taped : Int32) (m_textEnd : Int32) (m_faultKind : Int32) (m_faultAt : Int32) (m_bad : Int32) (m_badAt : Int32) (m_token : Int32) (m_at : Int32) (m_behind : Int32) (m_number : Int32) (m_letters : Int32) (m_word : Int64) (a_c : Nat) (a_words : Nat) (m_markMany : Int32) (a_there : Nat) (a_tried : Nat) (a_best : Nat) (a_found : Nat) (m_thereMany : Int32) (m_foundMany : Int32) (m_orderHow : Int32) (m_orderRing : Int32) (m_orderMany : Int32) (m_hasBest : Int32) (m_bestTop : Int64) (m_bestBy : Int64) (a_weights : Nat) (a_shared : Nat) (m_random : Int32) (m_truePlace : Int32) (m_trueWay : Int32) (m_seconds : Int32) (m_done : Int32) (m_feelings : Int32) (m_tries : Int32) (m_leftOver : Int32) (m_playDoor : Int32) (m_playRing : Int32) (m_isOpen : Int32) (m_isOver : Int32) (m_wasTried : Int32) (m_hasPlayed : Int32) (a_feltNow : Nat) (a_last : Nat) (a_kept : Nat) (m_hasSeconds : Int32) (m_hasTurned : Int32) (m_hasRound : Int32) (a_hasFeels : Nat) (a_isOn : Nat) (m_firstAct : Int32) (m_meanTop : Int64) (m_meanBy : Int64) (a_order : Nat) (m_rowMany : Int32) (m_newSteps : Int32) (hr_m_token : 0 ≤ m_token.toInt ∧ m_token.toInt ≤ 4) : zCi l yX12_isTried cX12_isTried 1 (some .boolean) ({ frames := 1, cells := 0, slots := 0, locals := 27 }) G cA [.ref h0] [(h0, .inr (12, [.int m_status, .int m_thrown, .long m_above, .long m_under, .ref a_traySort, .ref a_trayMany, .ref a_numbers, .ref a_tape, .int m_taped, .int m_textEnd, .int m_faultKind, .int m_faultAt, .int m_bad, .int m_badAt, .int m_token, .int m_at, .int m_behind, .int m_number, .int m_letters, .long m_word, .ref a_c, .ref a_words, .int m_markMany, .ref a_there, .ref a_tried, .ref a_best, .ref a_found, .int m_thereMany, .int m_foundMany, .int m_orderHow, .int m_orderRing, .int m_orderMany, .int m_hasBest, .long m_bestTop, .long m_bestBy, .ref a_weights, .ref a_shared, .int m_random, .int m_truePlace, .int m_trueWay, .int m_seconds, .int m_done, .int m_feelings, .int m_tries, .int m_leftOver, .int m_playDoor, .int m_playRing, .int m_isOpen, .int m_isOver, .int m_wasTried, .int m_hasPlayed, .ref a_feltNow, .ref a_last, .ref a_kept, .int m_hasSeconds, .int m_hasTurned, .int m_hasRound, .ref a_hasFeels, .ref a_isOn, .int m_firstAct, .long m_meanTop, .long m_meanBy, .ref a_order, .int m_rowMany, .int m_newSteps]))] (S := Unit) (fun (r : Int32) (u : Unit) => (r = (F_r_isTried m_token m_word)) ∧ ((r = 0 ∧ True) ∨ (r = 1 ∧ (m_token.toInt = 1)))) (fun (u : Unit) => [(h0, .inr (12, [.int m_status, .int m_thrown, .long m_above, .long m_under, .ref a_traySort, .ref a_trayMany, .ref a_numbers, .ref a_tape, .int m_taped, .int m_textEnd, .int m_faultKind, .int m_faultAt, .int m_bad, .int m_badAt, .int m_token, .int m_at, .int m_behind, .int m_number, .int m_letters, .long m_word, .ref a_c, .ref a_words, .int m_markMany, .ref a_there, .ref a_tried, .ref a_best, .ref a_found, .int m_thereMany, .int m_foundMany, .int m_orderHow, .int m_orderRing, .int m_orderMany, .int m_hasBest, .long m_bestTop, .long m_bestBy, .ref a_weights, .ref a_shared, .int m_random, .int m_truePlace, .int m_trueWay, .int m_seconds, .int m_done, .int m_feelings, .int m_tries, .int m_leftOver, .int m_playDoor, .int m_playRing, .int m_isOpen, .int m_isOver, .int m_wasTried, .int m_hasPlayed, .ref a_feltNow, .ref a_last, .ref a_kept, .int m_hasSeconds, .int m_hasTurned, .int m_hasRound, .ref a_hasFeels, .ref a_isOn, .int m_firstAct, .long m_meanTop, .long m_meanBy, .ref a_order, .int m_rowMany, .int m_newSteps]))]) 0 0 := by
  have hk_0 : (0 : Int32).toInt = 0 := by decide +kernel
  have hk_100 : (100 : Int32).toInt = 100 := by decide +kernel
  have hk_101 : (101 : Int32).toInt = 101 := by decide +kernel
  have hk_105 : (105 : Int32).toInt = 105 := by decide +kernel
  have hk_114 : (114 : Int32).toInt = 114 := by decide +kernel
  have hk_116 : (116 : Int32).toInt = 116 := by decide +kernel
  refine z_start2z (own := RX12) (by decide) (Nat.le_of_ble_eq_true rfl) rfl ?_
  intro p e s m args below meth c A ls Q hx hb hml hts hown hK hE hT hP hD hS hA hl hret
  have hl : lv_has ls 1 [(0, .ref h0)] := hl
  refine lv_aload_n hx hb dX12_isTried_0 rfl (lv_at hl 0 rfl) ?_
  refine lv_bipush (v := 116) hx hb dX12_isTried_1 (by decide) ?_
  refine lv_bipush (v := 114) hx hb dX12_isTried_3 (by decide) ?_
  refine lv_bipush (v := 105) hx hb dX12_isTried_5 (by decide) ?_
  refine lv_bipush (v := 101) hx hb dX12_isTried_7 (by decide) ?_
  refine lv_bipush (v := 100) hx hb dX12_isTried_9 (by decide) ?_
  refine lv_iconst (v := 0) hx hb dX12_isTried_11 (by decide) ?_
  refine z_callSl (As := [.int 116, .int 114, .int 105, .int 101, .int 100, .int 0]) (rest := [.ref h0]) (wr := [(h0, .inr (12, [.int m_status, .int m_thrown, .long m_above, .long m_under, .ref a_traySort, .ref a_trayMany, .ref a_numbers, .ref a_tape, .int m_taped, .int m_textEnd, .int m_faultKind, .int m_faultAt, .int m_bad, .int m_badAt, .int m_token, .int m_at, .int m_behind, .int m_number, .int m_letters, .long m_word, .ref a_c, .ref a_words, .int m_markMany, .ref a_there, .ref a_tried, .ref a_best, .ref a_found, .int m_thereMany, .int m_foundMany, .int m_orderHow, .int m_orderRing, .int m_orderMany, .int m_hasBest, .long m_bestTop, .long m_bestBy, .ref a_weights, .ref a_shared, .int m_random, .int m_truePlace, .int m_trueWay, .int m_seconds, .int m_done, .int m_feelings, .int m_tries, .int m_leftOver, .int m_playDoor, .int m_playRing, .int m_isOpen, .int m_isOver, .int m_wasTried, .int m_hasPlayed, .ref a_feltNow, .ref a_last, .ref a_kept, .int m_hasSeconds, .int m_hasTurned, .int m_hasRound, .ref a_hasFeels, .ref a_isOn, .int m_firstAct, .long m_meanTop, .long m_meanBy, .ref a_order, .int m_rowMany, .int m_newSteps]))]) ⟨hx, hb, hml, hown, hts⟩ hK hE hT hP hD hS hA (r_spelled l G cA 116 114 105 101 100 0 (by decide +kernel) (by decide +kernel) (by decide +kernel) (by decide +kernel) (by decide +kernel) (by decide +kernel)) lk_RX12_158 ⟨rfl, rfl⟩ ⟨Nat.le_of_ble_eq_true rfl, Nat.le_of_ble_eq_true rfl⟩ [] [0] rfl rfl (by decide) rfl hl.1 rfl (lv_room (Nat.le_of_ble_eq_true rfl)) dX12_isTried_12 ⟨Nat.le_of_ble_eq_true rfl, Nat.le_of_ble_eq_true rfl⟩ (fun r_1 u_2 H locs hw hP hD hS => ?_)
  obtain ⟨he_r_1, hw⟩ := hw
  have hr_r_1 := hw
  refine z_callVi (As := [.long r_1]) (rest := []) (wr := []) ⟨hx, hb, hml, hown, hts⟩ hK hE hT hP hD hS hA (r_isWord l G cA h0 m_status m_thrown m_above m_under a_traySort a_trayMany a_numbers a_tape m_taped m_textEnd m_faultKind m_faultAt m_bad m_badAt m_token m_at m_behind m_number m_letters m_word a_c a_words m_markMany a_there a_tried a_best a_found m_thereMany m_foundMany m_orderHow m_orderRing m_orderMany m_hasBest m_bestTop m_bestBy a_weights a_shared m_random m_truePlace m_trueWay m_seconds m_done m_feelings m_tries m_leftOver m_playDoor m_playRing m_isOpen m_isOver m_wasTried m_hasPlayed a_feltNow a_last a_kept m_hasSeconds m_hasTurned m_hasRound a_hasFeels a_isOn m_firstAct m_meanTop m_meanBy a_order m_rowMany m_newSteps r_1 hr_m_token) lk_RX12_164 ⟨rfl, rfl⟩ ⟨Nat.le_of_ble_eq_true rfl, Nat.le_of_ble_eq_true rfl⟩ 12 rfl rfl rfl [0] [] rfl rfl (by decide) rfl hl.1 rfl (lv_room (Nat.le_of_ble_eq_true rfl)) dX12_isTried_15 ⟨Nat.le_of_ble_eq_true rfl, Nat.le_of_ble_eq_true rfl⟩ (fun r_4 u_5 H locs hw hP hD hS => ?_)
  obtain ⟨he_r_4, hw⟩ := hw
  rcases hw with ⟨rfl, -⟩ | ⟨rfl, hf_7⟩
  · skip
    have hpost : ((0 : Int32) = 0 ∧ True) ∨ ((0 : Int32) = 1 ∧ (m_token.toInt = 1)) := (Or.inl ⟨rfl, trivial⟩)
    have hX_8 : F_r_isTried m_token m_word = ((0 : Int32) : Int32) := by
      refine (F_r_isTried_s ..).trans ?_
      extract_lets -merge -useContext +onlyGivenNames w9 y9; have e9 : r_1 = w9 := he_r_1; clear_value w9; subst e9
      extract_lets -merge -useContext +onlyGivenNames w9 y9; have e9 : (0 : Int32) = w9 := he_r_4; clear_value w9; subst e9
      refine (if_pos rfl).trans ?_
      exact rfl
    exact hret _ _ _ _ _ _ () [0] hP hD hS rfl (by decide) dX12_isTried_18 (Or.inl rfl) ⟨(congrArg (fun z9 => z9) hX_8).symm, hpost⟩
  · skip
    have hpost : ((1 : Int32) = 0 ∧ True) ∨ ((1 : Int32) = 1 ∧ (m_token.toInt = 1)) := (Or.inr ⟨rfl, (by omega)⟩)
    have hX_9 : F_r_isTried m_token m_word = ((1 : Int32) : Int32) := by
      refine (F_r_isTried_s ..).trans ?_
      extract_lets -merge -useContext +onlyGivenNames w9 y9; have e9 : r_1 = w9 := he_r_1; clear_value w9; subst e9
      extract_lets -merge -useContext +onlyGivenNames w9 y9; have e9 : (1 : Int32) = w9 := he_r_4; clear_value w9; subst e9
      refine (if_neg (show ¬ (1 : Int32) = 0 by decide)).trans ?_
      exact rfl
    exact hret _ _ _ _ _ _ () [0] hP hD hS rfl (by decide) dX12_isTried_18 (Or.inr rfl) ⟨(congrArg (fun z9 => z9) hX_9).symm, hpost⟩
set_option maxHeartbeats 40000000 in
set_option maxRecDepth 100000 in
theorem r_plainStep (l : Launch) (G : va_G) (cA : zCA) (h0 : Nat) (m_status : Int32) (m_thrown : Int32) (m_above : Int64) (m_under : Int64) (a_traySort : Nat) (a_trayMany : Nat) (a_numbers : Nat) (a_tape : Nat) (m_taped : Int32) (m_textEnd : Int32) (m_faultKind : Int32) (m_faultAt : Int32) (m_bad : Int32) (m_badAt : Int32) (m_token : Int32) (m_at : Int32) (m_behind : Int32) (m_number : Int32) (m_letters : Int32) (m_word : Int64) (a_c : Nat) (a_words : Nat) (m_markMany : Int32) (a_there : Nat) (a_tried : Nat) (a_best : Nat) (a_found : Nat) (m_thereMany : Int32) (m_foundMany : Int32) (m_orderHow : Int32) (m_orderRing : Int32) (m_orderMany : Int32) (m_hasBest : Int32) (m_bestTop : Int64) (m_bestBy : Int64) (a_weights : Nat) (a_shared : Nat) (m_random : Int32) (m_truePlace : Int32) (m_trueWay : Int32) (m_seconds : Int32) (m_done : Int32) (m_feelings : Int32) (m_tries : Int32) (m_leftOver : Int32) (m_playDoor : Int32) (m_playRing : Int32) (m_isOpen : Int32) (m_isOver : Int32) (m_wasTried : Int32) (m_hasPlayed : Int32) (a_feltNow : Nat) (a_last : Nat) (a_kept : Nat) (m_hasSeconds : Int32) (m_hasTurned : Int32) (m_hasRound : Int32) (a_hasFeels : Nat) (a_isOn : Nat) (m_firstAct : Int32) (m_meanTop : Int64) (m_meanBy : Int64) (a_order : Nat) (m_rowMany : Int32) (m_newSteps : Int32) (hr_m_token : 0 ≤ m_token.toInt ∧ m_token.toInt ≤ 4) : zCi l yX12_plainStep cX12_plainStep 2 (some .int) ({ frames := 2, cells := 0, slots := 0, locals := 47 }) G cA [.ref h0] [(h0, .inr (12, [.int m_status, .int m_thrown, .long m_above, .long m_under, .ref a_traySort, .ref a_trayMany, .ref a_numbers, .ref a_tape, .int m_taped, .int m_textEnd, .int m_faultKind, .int m_faultAt, .int m_bad, .int m_badAt, .int m_token, .int m_at, .int m_behind, .int m_number, .int m_letters, .long m_word, .ref a_c, .ref a_words, .int m_markMany, .ref a_there, .ref a_tried, .ref a_best, .ref a_found, .int m_thereMany, .int m_foundMany, .int m_orderHow, .int m_orderRing, .int m_orderMany, .int m_hasBest, .long m_bestTop, .long m_bestBy, .ref a_weights, .ref a_shared, .int m_random, .int m_truePlace, .int m_trueWay, .int m_seconds, .int m_done, .int m_feelings, .int m_tries, .int m_leftOver, .int m_playDoor, .int m_playRing, .int m_isOpen, .int m_isOver, .int m_wasTried, .int m_hasPlayed, .ref a_feltNow, .ref a_last, .ref a_kept, .int m_hasSeconds, .int m_hasTurned, .int m_hasRound, .ref a_hasFeels, .ref a_isOn, .int m_firstAct, .long m_meanTop, .long m_meanBy, .ref a_order, .int m_rowMany, .int m_newSteps]))] (S := Unit) (fun (r : Int32) (u : Unit) => (r = (F_r_plainStep m_token m_word)) ∧ (((-1) ≤ r.toInt ∧ r.toInt ≤ 5) ∧ (r.toInt < 0 ∨ m_token.toInt = 1))) (fun (u : Unit) => [(h0, .inr (12, [.int m_status, .int m_thrown, .long m_above, .long m_under, .ref a_traySort, .ref a_trayMany, .ref a_numbers, .ref a_tape, .int m_taped, .int m_textEnd, .int m_faultKind, .int m_faultAt, .int m_bad, .int m_badAt, .int m_token, .int m_at, .int m_behind, .int m_number, .int m_letters, .long m_word, .ref a_c, .ref a_words, .int m_markMany, .ref a_there, .ref a_tried, .ref a_best, .ref a_found, .int m_thereMany, .int m_foundMany, .int m_orderHow, .int m_orderRing, .int m_orderMany, .int m_hasBest, .long m_bestTop, .long m_bestBy, .ref a_weights, .ref a_shared, .int m_random, .int m_truePlace, .int m_trueWay, .int m_seconds, .int m_done, .int m_feelings, .int m_tries, .int m_leftOver, .int m_playDoor, .int m_playRing, .int m_isOpen, .int m_isOver, .int m_wasTried, .int m_hasPlayed, .ref a_feltNow, .ref a_last, .ref a_kept, .int m_hasSeconds, .int m_hasTurned, .int m_hasRound, .ref a_hasFeels, .ref a_isOn, .int m_firstAct, .long m_meanTop, .long m_meanBy, .ref a_order, .int m_rowMany, .int m_newSteps]))]) 0 0 := by
  have hk_m1 : ((-1) : Int32).toInt = (-1) := by decide +kernel
  have hk_0 : (0 : Int32).toInt = 0 := by decide +kernel
  have hk_1 : (1 : Int32).toInt = 1 := by decide +kernel
  have hk_2 : (2 : Int32).toInt = 2 := by decide +kernel
  have hk_3 : (3 : Int32).toInt = 3 := by decide +kernel
  have hk_4 : (4 : Int32).toInt = 4 := by decide +kernel
  have hk_5 : (5 : Int32).toInt = 5 := by decide +kernel
  have hk_11 : (11 : Int32).toInt = 11 := by decide +kernel
  have hk_12 : (12 : Int32).toInt = 12 := by decide +kernel
  have hk_13 : (13 : Int32).toInt = 13 := by decide +kernel
  have hk_14 : (14 : Int32).toInt = 14 := by decide +kernel
  refine z_start2i (own := RX12) (by decide) (Nat.le_of_ble_eq_true rfl) rfl ?_
  intro p e s m args below meth c A ls Q hx hb hml hts hown hK hE hT hP hD hS hA hl hret
  have hl : lv_has ls 2 [(0, .ref h0)] := hl
  refine lv_aload_n hx hb dX12_plainStep_0 rfl (lv_at hl 0 rfl) ?_
  refine z_callVi (As := []) (rest := []) (wr := []) ⟨hx, hb, hml, hown, hts⟩ hK hE hT hP hD hS hA (r_houseWord l G cA h0 m_status m_thrown m_above m_under a_traySort a_trayMany a_numbers a_tape m_taped m_textEnd m_faultKind m_faultAt m_bad m_badAt m_token m_at m_behind m_number m_letters m_word a_c a_words m_markMany a_there a_tried a_best a_found m_thereMany m_foundMany m_orderHow m_orderRing m_orderMany m_hasBest m_bestTop m_bestBy a_weights a_shared m_random m_truePlace m_trueWay m_seconds m_done m_feelings m_tries m_leftOver m_playDoor m_playRing m_isOpen m_isOver m_wasTried m_hasPlayed a_feltNow a_last a_kept m_hasSeconds m_hasTurned m_hasRound a_hasFeels a_isOn m_firstAct m_meanTop m_meanBy a_order m_rowMany m_newSteps hr_m_token) lk_RX12_170 ⟨rfl, rfl⟩ ⟨Nat.le_of_ble_eq_true rfl, Nat.le_of_ble_eq_true rfl⟩ 12 rfl rfl rfl [0] [] rfl rfl (by decide) rfl hl.1 rfl (lv_room (Nat.le_of_ble_eq_true rfl)) dX12_plainStep_1 ⟨Nat.le_of_ble_eq_true rfl, Nat.le_of_ble_eq_true rfl⟩ (fun r_1 u_2 H locs hw hP hD hS => ?_)
  obtain ⟨he_r_1, hw⟩ := hw
  obtain ⟨hr_r_1, hf_4⟩ := hw
  refine lv_istore_n (lv' := [(1, .int r_1), (0, .ref h0)]) hx hb dX12_plainStep_4 rfl hl (by decide) rfl (fun ls hl => ?_)
  refine lv_iload_n hx hb dX12_plainStep_5 rfl (lv_at hl 0 rfl) ?_
  refine lv_bipush (v := 11) hx hb dX12_plainStep_6 (by decide) ?_
  refine lv_icmp_ne (tgt := 13) hx hb dX12_plainStep_8 (by decide) (fun c_5 => ?_) (fun c_5 => ?_)
  · have b_6 := z_fneT c_5
    refine lv_iload_n hx hb dX12_plainStep_13 rfl (lv_at hl 0 rfl) ?_
    refine lv_bipush (v := 12) hx hb dX12_plainStep_14 (by decide) ?_
    refine lv_icmp_ne (tgt := 21) hx hb dX12_plainStep_16 (by decide) (fun c_7 => ?_) (fun c_7 => ?_)
    · have b_8 := z_fneT c_7
      refine lv_iload_n hx hb dX12_plainStep_21 rfl (lv_at hl 0 rfl) ?_
      refine lv_bipush (v := 13) hx hb dX12_plainStep_22 (by decide) ?_
      refine lv_icmp_ne (tgt := 29) hx hb dX12_plainStep_24 (by decide) (fun c_9 => ?_) (fun c_9 => ?_)
      · have b_10 := z_fneT c_9
        refine lv_iload_n hx hb dX12_plainStep_29 rfl (lv_at hl 0 rfl) ?_
        refine lv_bipush (v := 14) hx hb dX12_plainStep_30 (by decide) ?_
        refine lv_icmp_ne (tgt := 37) hx hb dX12_plainStep_32 (by decide) (fun c_11 => ?_) (fun c_11 => ?_)
        · have b_12 := z_fneT c_11
          refine lv_aload_n hx hb dX12_plainStep_37 rfl (lv_at hl 1 rfl) ?_
          refine z_callVi (As := []) (rest := []) (wr := []) ⟨hx, hb, hml, hown, hts⟩ hK hE hT hP hD hS hA (r_isTurn l G cA h0 m_status m_thrown m_above m_under a_traySort a_trayMany a_numbers a_tape m_taped m_textEnd m_faultKind m_faultAt m_bad m_badAt m_token m_at m_behind m_number m_letters m_word a_c a_words m_markMany a_there a_tried a_best a_found m_thereMany m_foundMany m_orderHow m_orderRing m_orderMany m_hasBest m_bestTop m_bestBy a_weights a_shared m_random m_truePlace m_trueWay m_seconds m_done m_feelings m_tries m_leftOver m_playDoor m_playRing m_isOpen m_isOver m_wasTried m_hasPlayed a_feltNow a_last a_kept m_hasSeconds m_hasTurned m_hasRound a_hasFeels a_isOn m_firstAct m_meanTop m_meanBy a_order m_rowMany m_newSteps hr_m_token) lk_RX12_482 ⟨rfl, rfl⟩ ⟨Nat.le_of_ble_eq_true rfl, Nat.le_of_ble_eq_true rfl⟩ 12 rfl rfl rfl [0] [] rfl rfl (by decide) rfl hl.1 rfl (lv_room (Nat.le_of_ble_eq_true rfl)) dX12_plainStep_38 ⟨Nat.le_of_ble_eq_true rfl, Nat.le_of_ble_eq_true rfl⟩ (fun r_13 u_14 H locs hw hP hD hS => ?_)
          obtain ⟨he_r_13, hw⟩ := hw
          rcases hw with ⟨rfl, -⟩ | ⟨rfl, hf_16⟩
          · skip
            refine lv_if_eq (tgt := 48) hx hb dX12_plainStep_41 (by decide) (fun _ => ?_) (fun h9 => absurd (by decide +kernel) h9)
            refine lv_aload_n hx hb dX12_plainStep_48 rfl (lv_at hl 1 rfl) ?_
            refine z_callVi (As := []) (rest := []) (wr := []) ⟨hx, hb, hml, hown, hts⟩ hK hE hT hP hD hS hA (r_isStop l G cA h0 m_status m_thrown m_above m_under a_traySort a_trayMany a_numbers a_tape m_taped m_textEnd m_faultKind m_faultAt m_bad m_badAt m_token m_at m_behind m_number m_letters m_word a_c a_words m_markMany a_there a_tried a_best a_found m_thereMany m_foundMany m_orderHow m_orderRing m_orderMany m_hasBest m_bestTop m_bestBy a_weights a_shared m_random m_truePlace m_trueWay m_seconds m_done m_feelings m_tries m_leftOver m_playDoor m_playRing m_isOpen m_isOver m_wasTried m_hasPlayed a_feltNow a_last a_kept m_hasSeconds m_hasTurned m_hasRound a_hasFeels a_isOn m_firstAct m_meanTop m_meanBy a_order m_rowMany m_newSteps hr_m_token) lk_RX12_485 ⟨rfl, rfl⟩ ⟨Nat.le_of_ble_eq_true rfl, Nat.le_of_ble_eq_true rfl⟩ 12 rfl rfl rfl [0] [] rfl rfl (by decide) rfl hl.1 rfl (lv_room (Nat.le_of_ble_eq_true rfl)) dX12_plainStep_49 ⟨Nat.le_of_ble_eq_true rfl, Nat.le_of_ble_eq_true rfl⟩ (fun r_17 u_18 H locs hw hP hD hS => ?_)
            obtain ⟨he_r_17, hw⟩ := hw
            rcases hw with ⟨rfl, -⟩ | ⟨rfl, hf_20⟩
            · skip
              refine lv_if_eq (tgt := 59) hx hb dX12_plainStep_52 (by decide) (fun _ => ?_) (fun h9 => absurd (by decide +kernel) h9)
              refine lv_iconst (v := (-1)) hx hb dX12_plainStep_59 (by decide) ?_
              have hpost : ((-1) ≤ ((-1) : Int32).toInt ∧ ((-1) : Int32).toInt ≤ 5) ∧ (((-1) : Int32).toInt < 0 ∨ m_token.toInt = 1) := ⟨(by decide +kernel), (by omega)⟩
              have hX_21 : F_r_plainStep m_token m_word = ((-1 : Int32) : Int32) := by
                refine (F_r_plainStep_s ..).trans ?_
                extract_lets -merge -useContext +onlyGivenNames w9 y9; have e9 : r_1 = w9 := he_r_1; clear_value w9; subst e9
                refine (if_neg c_5).trans ?_
                refine (if_neg c_7).trans ?_
                refine (if_neg c_9).trans ?_
                refine (if_neg c_11).trans ?_
                extract_lets -merge -useContext +onlyGivenNames w9 y9; have e9 : (0 : Int32) = w9 := he_r_13; clear_value w9; subst e9
                refine (if_pos rfl).trans ?_
                extract_lets -merge -useContext +onlyGivenNames w9 y9; have e9 : (0 : Int32) = w9 := he_r_17; clear_value w9; subst e9
                refine (if_pos rfl).trans ?_
                exact rfl
              exact hret _ _ _ _ _ _ () [0] hP hD hS rfl (by decide) dX12_plainStep_60 ⟨(congrArg (fun z9 => z9) hX_21).symm, hpost⟩
            · skip
              refine lv_if_eq (tgt := 59) hx hb dX12_plainStep_52 (by decide) (fun h9 => absurd h9 (by decide +kernel)) (fun _ => ?_)
              refine lv_iconst (v := 5) hx hb dX12_plainStep_55 (by decide) ?_
              refine lv_goto (tgt := 60) hx hb dX12_plainStep_56 (by decide) ?_
              have hpost : ((-1) ≤ (5 : Int32).toInt ∧ (5 : Int32).toInt ≤ 5) ∧ ((5 : Int32).toInt < 0 ∨ m_token.toInt = 1) := ⟨(by decide +kernel), (by omega)⟩
              have hX_22 : F_r_plainStep m_token m_word = ((5 : Int32) : Int32) := by
                refine (F_r_plainStep_s ..).trans ?_
                extract_lets -merge -useContext +onlyGivenNames w9 y9; have e9 : r_1 = w9 := he_r_1; clear_value w9; subst e9
                refine (if_neg c_5).trans ?_
                refine (if_neg c_7).trans ?_
                refine (if_neg c_9).trans ?_
                refine (if_neg c_11).trans ?_
                extract_lets -merge -useContext +onlyGivenNames w9 y9; have e9 : (0 : Int32) = w9 := he_r_13; clear_value w9; subst e9
                refine (if_pos rfl).trans ?_
                extract_lets -merge -useContext +onlyGivenNames w9 y9; have e9 : (1 : Int32) = w9 := he_r_17; clear_value w9; subst e9
                refine (if_neg (show ¬ (1 : Int32) = 0 by decide)).trans ?_
                exact rfl
              exact hret _ _ _ _ _ _ () [0] hP hD hS rfl (by decide) dX12_plainStep_60 ⟨(congrArg (fun z9 => z9) hX_22).symm, hpost⟩
          · skip
            refine lv_if_eq (tgt := 48) hx hb dX12_plainStep_41 (by decide) (fun h9 => absurd h9 (by decide +kernel)) (fun _ => ?_)
            refine lv_iconst (v := 3) hx hb dX12_plainStep_44 (by decide) ?_
            refine lv_goto (tgt := 60) hx hb dX12_plainStep_45 (by decide) ?_
            have hpost : ((-1) ≤ (3 : Int32).toInt ∧ (3 : Int32).toInt ≤ 5) ∧ ((3 : Int32).toInt < 0 ∨ m_token.toInt = 1) := ⟨(by decide +kernel), (by omega)⟩
            have hX_23 : F_r_plainStep m_token m_word = ((3 : Int32) : Int32) := by
              refine (F_r_plainStep_s ..).trans ?_
              extract_lets -merge -useContext +onlyGivenNames w9 y9; have e9 : r_1 = w9 := he_r_1; clear_value w9; subst e9
              refine (if_neg c_5).trans ?_
              refine (if_neg c_7).trans ?_
              refine (if_neg c_9).trans ?_
              refine (if_neg c_11).trans ?_
              extract_lets -merge -useContext +onlyGivenNames w9 y9; have e9 : (1 : Int32) = w9 := he_r_13; clear_value w9; subst e9
              refine (if_neg (show ¬ (1 : Int32) = 0 by decide)).trans ?_
              exact rfl
            exact hret _ _ _ _ _ _ () [0] hP hD hS rfl (by decide) dX12_plainStep_60 ⟨(congrArg (fun z9 => z9) hX_23).symm, hpost⟩
        · have b_24 := z_feqF c_11
          refine lv_iconst (v := 4) hx hb dX12_plainStep_35 (by decide) ?_
          have hpost : ((-1) ≤ (4 : Int32).toInt ∧ (4 : Int32).toInt ≤ 5) ∧ ((4 : Int32).toInt < 0 ∨ m_token.toInt = 1) := ⟨(by decide +kernel), (by omega)⟩
          have hX_25 : F_r_plainStep m_token m_word = ((4 : Int32) : Int32) := by
            refine (F_r_plainStep_s ..).trans ?_
            extract_lets -merge -useContext +onlyGivenNames w9 y9; have e9 : r_1 = w9 := he_r_1; clear_value w9; subst e9
            refine (if_neg c_5).trans ?_
            refine (if_neg c_7).trans ?_
            refine (if_neg c_9).trans ?_
            refine (if_pos c_11).trans ?_
            exact rfl
          exact hret _ _ _ _ _ _ () [0] hP hD hS rfl (by decide) dX12_plainStep_36 ⟨(congrArg (fun z9 => z9) hX_25).symm, hpost⟩
      · have b_26 := z_feqF c_9
        refine lv_iconst (v := 2) hx hb dX12_plainStep_27 (by decide) ?_
        have hpost : ((-1) ≤ (2 : Int32).toInt ∧ (2 : Int32).toInt ≤ 5) ∧ ((2 : Int32).toInt < 0 ∨ m_token.toInt = 1) := ⟨(by decide +kernel), (by omega)⟩
        have hX_27 : F_r_plainStep m_token m_word = ((2 : Int32) : Int32) := by
          refine (F_r_plainStep_s ..).trans ?_
          extract_lets -merge -useContext +onlyGivenNames w9 y9; have e9 : r_1 = w9 := he_r_1; clear_value w9; subst e9
          refine (if_neg c_5).trans ?_
          refine (if_neg c_7).trans ?_
          refine (if_pos c_9).trans ?_
          exact rfl
        exact hret _ _ _ _ _ _ () [0] hP hD hS rfl (by decide) dX12_plainStep_28 ⟨(congrArg (fun z9 => z9) hX_27).symm, hpost⟩
    · have b_28 := z_feqF c_7
      refine lv_iconst (v := 1) hx hb dX12_plainStep_19 (by decide) ?_
      have hpost : ((-1) ≤ (1 : Int32).toInt ∧ (1 : Int32).toInt ≤ 5) ∧ ((1 : Int32).toInt < 0 ∨ m_token.toInt = 1) := ⟨(by decide +kernel), (by omega)⟩
      have hX_29 : F_r_plainStep m_token m_word = ((1 : Int32) : Int32) := by
        refine (F_r_plainStep_s ..).trans ?_
        extract_lets -merge -useContext +onlyGivenNames w9 y9; have e9 : r_1 = w9 := he_r_1; clear_value w9; subst e9
        refine (if_neg c_5).trans ?_
        refine (if_pos c_7).trans ?_
        exact rfl
      exact hret _ _ _ _ _ _ () [0] hP hD hS rfl (by decide) dX12_plainStep_20 ⟨(congrArg (fun z9 => z9) hX_29).symm, hpost⟩
  · have b_30 := z_feqF c_5
    refine lv_iconst (v := 0) hx hb dX12_plainStep_11 (by decide) ?_
    have hpost : ((-1) ≤ (0 : Int32).toInt ∧ (0 : Int32).toInt ≤ 5) ∧ ((0 : Int32).toInt < 0 ∨ m_token.toInt = 1) := ⟨(by decide +kernel), (by omega)⟩
    have hX_31 : F_r_plainStep m_token m_word = ((0 : Int32) : Int32) := by
      refine (F_r_plainStep_s ..).trans ?_
      extract_lets -merge -useContext +onlyGivenNames w9 y9; have e9 : r_1 = w9 := he_r_1; clear_value w9; subst e9
      refine (if_pos c_5).trans ?_
      exact rfl
    exact hret _ _ _ _ _ _ () [0] hP hD hS rfl (by decide) dX12_plainStep_12 ⟨(congrArg (fun z9 => z9) hX_31).symm, hpost⟩
set_option maxHeartbeats 40000000 in
set_option maxRecDepth 100000 in
theorem r_readFeatureName (l : Launch) (G : va_G) (cA : zCA) (h0 : Nat) (m_status : Int32) (m_thrown : Int32) (m_above : Int64) (m_under : Int64) (a_traySort : Nat) (a_trayMany : Nat) (a_numbers : Nat) (a_tape : Nat) (m_taped : Int32) (m_textEnd : Int32) (m_faultKind : Int32) (m_faultAt : Int32) (m_bad : Int32) (m_badAt : Int32) (m_token : Int32) (m_at : Int32) (m_behind : Int32) (m_number : Int32) (m_letters : Int32) (m_word : Int64) (a_c : Nat) (a_words : Nat) (m_markMany : Int32) (a_there : Nat) (a_tried : Nat) (a_best : Nat) (a_found : Nat) (m_thereMany : Int32) (m_foundMany : Int32) (m_orderHow : Int32) (m_orderRing : Int32) (m_orderMany : Int32) (m_hasBest : Int32) (m_bestTop : Int64) (m_bestBy : Int64) (a_weights : Nat) (a_shared : Nat) (m_random : Int32) (m_truePlace : Int32) (m_trueWay : Int32) (m_seconds : Int32) (m_done : Int32) (m_feelings : Int32) (m_tries : Int32) (m_leftOver : Int32) (m_playDoor : Int32) (m_playRing : Int32) (m_isOpen : Int32) (m_isOver : Int32) (m_wasTried : Int32) (m_hasPlayed : Int32) (a_feltNow : Nat) (a_last : Nat) (a_kept : Nat) (m_hasSeconds : Int32) (m_hasTurned : Int32) (m_hasRound : Int32) (a_hasFeels : Nat) (a_isOn : Nat) (m_firstAct : Int32) (m_meanTop : Int64) (m_meanBy : Int64) (a_order : Nat) (m_rowMany : Int32) (m_newSteps : Int32) (g_tape : Nat → Int32) (g_c : Nat → Int32) (g_words : Nat → Int64) (hr_m_textEnd : 0 ≤ m_textEnd.toInt ∧ m_textEnd.toInt ≤ 900) (hr_m_at : 0 ≤ m_at.toInt ∧ m_at.toInt ≤ 900) (hr_m_behind : 0 ≤ m_behind.toInt ∧ m_behind.toInt ≤ 900) (hr_m_bad : 0 ≤ m_bad.toInt ∧ m_bad.toInt ≤ 9) (hr_m_token : 0 ≤ m_token.toInt ∧ m_token.toInt ≤ 4) (hr_m_number : 0 ≤ m_number.toInt ∧ m_number.toInt ≤ 9999) (hr_m_letters : 0 ≤ m_letters.toInt ∧ m_letters.toInt ≤ 900) (hC_g_c : zC g_c) : zCi l yX12_readFeatureName cX12_readFeatureName 2 (some .int) ({ frames := 3, cells := 0, slots := 0, locals := 67 }) G cA [.ref h0] [(h0, .inr (12, [.int m_status, .int m_thrown, .long m_above, .long m_under, .ref a_traySort, .ref a_trayMany, .ref a_numbers, .ref a_tape, .int m_taped, .int m_textEnd, .int m_faultKind, .int m_faultAt, .int m_bad, .int m_badAt, .int m_token, .int m_at, .int m_behind, .int m_number, .int m_letters, .long m_word, .ref a_c, .ref a_words, .int m_markMany, .ref a_there, .ref a_tried, .ref a_best, .ref a_found, .int m_thereMany, .int m_foundMany, .int m_orderHow, .int m_orderRing, .int m_orderMany, .int m_hasBest, .long m_bestTop, .long m_bestBy, .ref a_weights, .ref a_shared, .int m_random, .int m_truePlace, .int m_trueWay, .int m_seconds, .int m_done, .int m_feelings, .int m_tries, .int m_leftOver, .int m_playDoor, .int m_playRing, .int m_isOpen, .int m_isOver, .int m_wasTried, .int m_hasPlayed, .ref a_feltNow, .ref a_last, .ref a_kept, .int m_hasSeconds, .int m_hasTurned, .int m_hasRound, .ref a_hasFeels, .ref a_isOn, .int m_firstAct, .long m_meanTop, .long m_meanBy, .ref a_order, .int m_rowMany, .int m_newSteps])), (a_tape, .inl (cA.1 2, 900, .inl g_tape)), (a_c, .inl (cA.1 0, 1825, .inl g_c)), (a_words, .inl (cA.1 1, 105, .inr (.inl g_words)))] (S := Int32 × Int32 × Int32 × Int32 × Int32 × Int64 × Int32 × Int32) (fun (r : Int32) (u : Int32 × Int32 × Int32 × Int32 × Int32 × Int64 × Int32 × Int32) => (r = (F_r_readFeatureName m_textEnd m_bad m_badAt m_token m_at m_behind m_number m_letters m_word g_tape g_c g_words).1) ∧ (u.1 = (F_r_readFeatureName m_textEnd m_bad m_badAt m_token m_at m_behind m_number m_letters m_word g_tape g_c g_words).2.1) ∧ (u.2.1 = (F_r_readFeatureName m_textEnd m_bad m_badAt m_token m_at m_behind m_number m_letters m_word g_tape g_c g_words).2.2.1) ∧ (u.2.2.1 = (F_r_readFeatureName m_textEnd m_bad m_badAt m_token m_at m_behind m_number m_letters m_word g_tape g_c g_words).2.2.2.1) ∧ (u.2.2.2.1 = (F_r_readFeatureName m_textEnd m_bad m_badAt m_token m_at m_behind m_number m_letters m_word g_tape g_c g_words).2.2.2.2.1) ∧ (u.2.2.2.2.1 = (F_r_readFeatureName m_textEnd m_bad m_badAt m_token m_at m_behind m_number m_letters m_word g_tape g_c g_words).2.2.2.2.2.1) ∧ (u.2.2.2.2.2.1 = (F_r_readFeatureName m_textEnd m_bad m_badAt m_token m_at m_behind m_number m_letters m_word g_tape g_c g_words).2.2.2.2.2.2.1) ∧ (u.2.2.2.2.2.2.1 = (F_r_readFeatureName m_textEnd m_bad m_badAt m_token m_at m_behind m_number m_letters m_word g_tape g_c g_words).2.2.2.2.2.2.2.1) ∧ (u.2.2.2.2.2.2.2 = (F_r_readFeatureName m_textEnd m_bad m_badAt m_token m_at m_behind m_number m_letters m_word g_tape g_c g_words).2.2.2.2.2.2.2.2) ∧ (((-1) ≤ r.toInt ∧ r.toInt ≤ 2) ∧ (0 ≤ u.1.toInt ∧ u.1.toInt ≤ 4) ∧ (0 ≤ u.2.1.toInt ∧ u.2.1.toInt ≤ 900) ∧ (0 ≤ u.2.2.1.toInt ∧ u.2.2.1.toInt ≤ 900) ∧ (0 ≤ u.2.2.2.1.toInt ∧ u.2.2.2.1.toInt ≤ 9999) ∧ (0 ≤ u.2.2.2.2.1.toInt ∧ u.2.2.2.2.1.toInt ≤ 900) ∧ (0 ≤ u.2.2.2.2.2.2.1.toInt ∧ u.2.2.2.2.2.2.1.toInt ≤ 9) ∧ (m_behind.toInt ≤ u.2.2.1.toInt) ∧ (0 < m_bad.toInt → 0 < u.2.2.2.2.2.2.1.toInt) ∧ (u.2.2.2.2.2.2.1.toInt ≤ 0 → u.1.toInt = 0 ∨ m_behind.toInt < u.2.2.1.toInt))) (fun (u : Int32 × Int32 × Int32 × Int32 × Int32 × Int64 × Int32 × Int32) => [(h0, .inr (12, [.int m_status, .int m_thrown, .long m_above, .long m_under, .ref a_traySort, .ref a_trayMany, .ref a_numbers, .ref a_tape, .int m_taped, .int m_textEnd, .int m_faultKind, .int m_faultAt, .int u.2.2.2.2.2.2.1, .int u.2.2.2.2.2.2.2, .int u.1, .int u.2.1, .int u.2.2.1, .int u.2.2.2.1, .int u.2.2.2.2.1, .long u.2.2.2.2.2.1, .ref a_c, .ref a_words, .int m_markMany, .ref a_there, .ref a_tried, .ref a_best, .ref a_found, .int m_thereMany, .int m_foundMany, .int m_orderHow, .int m_orderRing, .int m_orderMany, .int m_hasBest, .long m_bestTop, .long m_bestBy, .ref a_weights, .ref a_shared, .int m_random, .int m_truePlace, .int m_trueWay, .int m_seconds, .int m_done, .int m_feelings, .int m_tries, .int m_leftOver, .int m_playDoor, .int m_playRing, .int m_isOpen, .int m_isOver, .int m_wasTried, .int m_hasPlayed, .ref a_feltNow, .ref a_last, .ref a_kept, .int m_hasSeconds, .int m_hasTurned, .int m_hasRound, .ref a_hasFeels, .ref a_isOn, .int m_firstAct, .long m_meanTop, .long m_meanBy, .ref a_order, .int m_rowMany, .int m_newSteps])), (a_tape, .inl (cA.1 2, 900, .inl g_tape)), (a_c, .inl (cA.1 0, 1825, .inl g_c)), (a_words, .inl (cA.1 1, 105, .inr (.inl g_words)))]) 0 0 := by
  have hk_0 : (0 : Int32).toInt = 0 := by decide +kernel
  have hk_1 : (1 : Int32).toInt = 1 := by decide +kernel
  have hk_3 : (3 : Int32).toInt = 3 := by decide +kernel
  refine z_start2i (own := RX12) (by decide) (Nat.le_of_ble_eq_true rfl) rfl ?_
  intro p e s m args below meth c A ls Q hx hb hml hts hown hK hE hT hP hD hS hA hl hret
  have hl : lv_has ls 2 [(0, .ref h0)] := hl
  refine lv_aload_n hx hb dX12_readFeatureName_0 rfl (lv_at hl 0 rfl) ?_
  refine va_get (D := G) (ci := 12) (v := .int m_bad) (C := RX12) (T := TX12) (N := 65) hx hb hts inT12 hown hK hP 0 rfl rfl 12 (by decide) (hts _ tw_1897) (fun _ h9 => h9) rfl dX12_readFeatureName_1 ?_
  refine lv_if_ne (tgt := 18) hx hb dX12_readFeatureName_4 (by decide) (fun c_1 => ?_) (fun c_1 => ?_)
  · have b_2 := z_fneT c_1
    refine lv_aload_n hx hb dX12_readFeatureName_18 rfl (lv_at hl 0 rfl) ?_
    refine va_get (D := G) (ci := 12) (v := .int m_bad) (C := RX12) (T := TX12) (N := 65) hx hb hts inT12 hown hK hP 0 rfl rfl 12 (by decide) (hts _ tw_1897) (fun _ h9 => h9) rfl dX12_readFeatureName_19 ?_
    refine lv_if_ne (tgt := 40) hx hb dX12_readFeatureName_22 (by decide) (fun c_3 => ?_) (fun h9 => (z_no (by have h8 := z_feqF h9; omega)))
    have b_4 := z_fneT c_3
    refine lv_iconst (v := 0) hx hb dX12_readFeatureName_40 (by decide) ?_
    refine lv_istore_n (lv' := [(1, .int 0), (0, .ref h0)]) hx hb dX12_readFeatureName_41 rfl hl (by decide) rfl (fun ls hl => ?_)
    refine lv_aload_n hx hb dX12_readFeatureName_42 rfl (lv_at hl 1 rfl) ?_
    refine va_get (D := G) (ci := 12) (v := .int m_bad) (C := RX12) (T := TX12) (N := 65) hx hb hts inT12 hown hK hP 0 rfl rfl 12 (by decide) (hts _ tw_1897) (fun _ h9 => h9) rfl dX12_readFeatureName_43 ?_
    refine lv_if_ne (tgt := 62) hx hb dX12_readFeatureName_46 (by decide) (fun c_5 => ?_) (fun h9 => (z_no (by have h8 := z_feqF h9; omega)))
    have b_6 := z_fneT c_5
    refine lv_aload_n hx hb dX12_readFeatureName_62 rfl (lv_at hl 1 rfl) ?_
    refine lv_iconst (v := 1) hx hb dX12_readFeatureName_63 (by decide) ?_
    refine z_callVv (As := [.int 1]) (rest := []) (wr := [(a_c, .inl (cA.1 0, 1825, .inl g_c)), (a_words, .inl (cA.1 1, 105, .inr (.inl g_words)))]) ⟨hx, hb, hml, hown, hts⟩ hK hE hT hP hD hS hA (r_must_1 l G cA h0 m_status m_thrown m_above m_under a_traySort a_trayMany a_numbers a_tape m_taped m_textEnd m_faultKind m_faultAt m_bad m_badAt m_token m_at m_behind m_number m_letters m_word a_c a_words m_markMany a_there a_tried a_best a_found m_thereMany m_foundMany m_orderHow m_orderRing m_orderMany m_hasBest m_bestTop m_bestBy a_weights a_shared m_random m_truePlace m_trueWay m_seconds m_done m_feelings m_tries m_leftOver m_playDoor m_playRing m_isOpen m_isOver m_wasTried m_hasPlayed a_feltNow a_last a_kept m_hasSeconds m_hasTurned m_hasRound a_hasFeels a_isOn m_firstAct m_meanTop m_meanBy a_order m_rowMany m_newSteps g_tape hr_m_textEnd hr_m_at hr_m_behind hr_m_bad hr_m_token hr_m_number hr_m_letters) lk_RX12_210 ⟨rfl, rfl⟩ ⟨Nat.le_of_ble_eq_true rfl, Nat.le_of_ble_eq_true rfl⟩ 12 rfl rfl rfl [0, 1] [2, 3] rfl rfl (by decide) rfl hl.1 rfl (lv_room (Nat.le_of_ble_eq_true rfl)) dX12_readFeatureName_64 ⟨Nat.le_of_ble_eq_true rfl, Nat.le_of_ble_eq_true rfl⟩ (fun u_14 H locs hw hP hD hS => ?_)
    obtain ⟨n_7, n_8, n_9, n_10, n_11, n_12⟩ := u_14
    try dsimp only at hw
    obtain ⟨he_n_7, he_n_8, he_n_9, he_n_10, he_n_11, he_n_12, hw⟩ := hw
    obtain ⟨hr_n_7, hr_n_8, hr_n_9, hr_n_10, hr_n_11, hf_16, hf_17, hf_18⟩ := hw
    refine lv_iload_n hx hb dX12_readFeatureName_67 rfl (lv_at hl 0 rfl) ?_
    have hpost : ((-1) ≤ (0 : Int32).toInt ∧ (0 : Int32).toInt ≤ 2) ∧ (0 ≤ n_7.toInt ∧ n_7.toInt ≤ 4) ∧ (0 ≤ n_8.toInt ∧ n_8.toInt ≤ 900) ∧ (0 ≤ n_9.toInt ∧ n_9.toInt ≤ 900) ∧ (0 ≤ n_10.toInt ∧ n_10.toInt ≤ 9999) ∧ (0 ≤ n_11.toInt ∧ n_11.toInt ≤ 900) ∧ (0 ≤ m_bad.toInt ∧ m_bad.toInt ≤ 9) ∧ (m_behind.toInt ≤ n_9.toInt) ∧ (0 < m_bad.toInt → 0 < m_bad.toInt) ∧ (m_bad.toInt ≤ 0 → n_7.toInt = 0 ∨ m_behind.toInt < n_9.toInt) := ⟨(by decide +kernel), hr_n_7, hr_n_8, hr_n_9, hr_n_10, hr_n_11, hr_m_bad, (by omega), (by omega), (by omega)⟩
    have hX_19 : F_r_readFeatureName m_textEnd m_bad m_badAt m_token m_at m_behind m_number m_letters m_word g_tape g_c g_words = (((0 : Int32), n_7, n_8, n_9, n_10, n_11, n_12, m_bad, m_badAt) : Int32 × Int32 × Int32 × Int32 × Int32 × Int32 × Int64 × Int32 × Int32) := by
      refine (F_r_readFeatureName_s ..).trans ?_
      refine (if_neg c_1).trans ?_
      extract_lets -merge -useContext +onlyGivenNames w9 y1_0 y1_1 y1_2 y1_3 y1_4 y1_5; have e9 : (n_7, n_8, n_9, n_10, n_11, n_12) = w9 := ((z_tS he_n_7 (z_tS he_n_8 (z_tS he_n_9 (z_tS he_n_10 (z_tS he_n_11 he_n_12.symm)))))).symm; clear_value w9; subst e9
      exact rfl
    exact hret _ _ _ _ _ _ (n_7, n_8, n_9, n_10, n_11, n_12, m_bad, m_badAt) [2, 3, 0, 1] hP hD hS rfl (by decide) dX12_readFeatureName_68 ⟨(congrArg (fun z9 => z9.1) hX_19).symm, (congrArg (fun z9 => z9.2.1) hX_19).symm, (congrArg (fun z9 => z9.2.2.1) hX_19).symm, (congrArg (fun z9 => z9.2.2.2.1) hX_19).symm, (congrArg (fun z9 => z9.2.2.2.2.1) hX_19).symm, (congrArg (fun z9 => z9.2.2.2.2.2.1) hX_19).symm, (congrArg (fun z9 => z9.2.2.2.2.2.2.1) hX_19).symm, (congrArg (fun z9 => z9.2.2.2.2.2.2.2.1) hX_19).symm, (congrArg (fun z9 => z9.2.2.2.2.2.2.2.2) hX_19).symm, hpost⟩
  · have b_20 := z_feqF c_1
    refine lv_aload_n hx hb dX12_readFeatureName_7 rfl (lv_at hl 0 rfl) ?_
    refine z_callVi (As := []) (rest := []) (wr := [(a_tape, .inl (cA.1 2, 900, .inl g_tape)), (a_c, .inl (cA.1 0, 1825, .inl g_c)), (a_words, .inl (cA.1 1, 105, .inr (.inl g_words)))]) ⟨hx, hb, hml, hown, hts⟩ hK hE hT hP hD hS hA (r_isHouseName l G cA h0 m_status m_thrown m_above m_under a_traySort a_trayMany a_numbers a_tape m_taped m_textEnd m_faultKind m_faultAt m_bad m_badAt m_token m_at m_behind m_number m_letters m_word a_c a_words m_markMany a_there a_tried a_best a_found m_thereMany m_foundMany m_orderHow m_orderRing m_orderMany m_hasBest m_bestTop m_bestBy a_weights a_shared m_random m_truePlace m_trueWay m_seconds m_done m_feelings m_tries m_leftOver m_playDoor m_playRing m_isOpen m_isOver m_wasTried m_hasPlayed a_feltNow a_last a_kept m_hasSeconds m_hasTurned m_hasRound a_hasFeels a_isOn m_firstAct m_meanTop m_meanBy a_order m_rowMany m_newSteps hr_m_token hr_m_letters) lk_RX12_200 ⟨rfl, rfl⟩ ⟨Nat.le_of_ble_eq_true rfl, Nat.le_of_ble_eq_true rfl⟩ 12 rfl rfl rfl [0] [1, 2, 3] rfl rfl (by decide) rfl hl.1 rfl (lv_room (Nat.le_of_ble_eq_true rfl)) dX12_readFeatureName_8 ⟨Nat.le_of_ble_eq_true rfl, Nat.le_of_ble_eq_true rfl⟩ (fun r_21 u_22 H locs hw hP hD hS => ?_)
    obtain ⟨he_r_21, hw⟩ := hw
    rcases hw with ⟨rfl, -⟩ | ⟨rfl, -⟩
    · skip
      refine lv_if_ne (tgt := 18) hx hb dX12_readFeatureName_11 (by decide) (fun h9 => absurd (by decide +kernel) h9) (fun _ => ?_)
      refine lv_aload_n hx hb dX12_readFeatureName_14 rfl (lv_at hl 0 rfl) ?_
      refine z_callVv (As := []) (rest := []) (wr := [(a_tape, .inl (cA.1 2, 900, .inl g_tape)), (a_c, .inl (cA.1 0, 1825, .inl g_c)), (a_words, .inl (cA.1 1, 105, .inr (.inl g_words)))]) ⟨hx, hb, hml, hown, hts⟩ hK hE hT hP hD hS hA (r_wrong l G cA h0 m_status m_thrown m_above m_under a_traySort a_trayMany a_numbers a_tape m_taped m_textEnd m_faultKind m_faultAt m_bad m_badAt m_token m_at m_behind m_number m_letters m_word a_c a_words m_markMany a_there a_tried a_best a_found m_thereMany m_foundMany m_orderHow m_orderRing m_orderMany m_hasBest m_bestTop m_bestBy a_weights a_shared m_random m_truePlace m_trueWay m_seconds m_done m_feelings m_tries m_leftOver m_playDoor m_playRing m_isOpen m_isOver m_wasTried m_hasPlayed a_feltNow a_last a_kept m_hasSeconds m_hasTurned m_hasRound a_hasFeels a_isOn m_firstAct m_meanTop m_meanBy a_order m_rowMany m_newSteps hr_m_at hr_m_bad hr_m_token) lk_RX12_187 ⟨rfl, rfl⟩ ⟨Nat.le_of_ble_eq_true rfl, Nat.le_of_ble_eq_true rfl⟩ 12 rfl rfl rfl [3] [0, 1, 2] rfl rfl (by decide) rfl hl.1 rfl (lv_room (Nat.le_of_ble_eq_true rfl)) dX12_readFeatureName_15 ⟨Nat.le_of_ble_eq_true rfl, Nat.le_of_ble_eq_true rfl⟩ (fun u_27 H locs hw hP hD hS => ?_)
      obtain ⟨n_24, n_25⟩ := u_27
      try dsimp only at hw
      obtain ⟨he_n_24, he_n_25, hw⟩ := hw
      have hr_n_24 := hw
      refine lv_aload_n hx hb dX12_readFeatureName_18 rfl (lv_at hl 0 rfl) ?_
      refine va_get (D := G) (ci := 12) (v := .int n_24) (C := RX12) (T := TX12) (N := 65) hx hb hts inT12 hown hK hP 3 rfl rfl 12 (by decide) (hts _ tw_1897) (fun _ h9 => h9) rfl dX12_readFeatureName_19 ?_
      refine lv_if_ne (tgt := 40) hx hb dX12_readFeatureName_22 (by decide) (fun c_29 => ?_) (fun h9 => (z_no (by have h8 := z_feqF h9; omega)))
      have b_30 := z_fneT c_29
      refine lv_iconst (v := 0) hx hb dX12_readFeatureName_40 (by decide) ?_
      refine lv_istore_n (lv' := [(1, .int 0), (0, .ref h0)]) hx hb dX12_readFeatureName_41 rfl hl (by decide) rfl (fun ls hl => ?_)
      refine lv_aload_n hx hb dX12_readFeatureName_42 rfl (lv_at hl 1 rfl) ?_
      refine va_get (D := G) (ci := 12) (v := .int n_24) (C := RX12) (T := TX12) (N := 65) hx hb hts inT12 hown hK hP 3 rfl rfl 12 (by decide) (hts _ tw_1897) (fun _ h9 => h9) rfl dX12_readFeatureName_43 ?_
      refine lv_if_ne (tgt := 62) hx hb dX12_readFeatureName_46 (by decide) (fun c_31 => ?_) (fun h9 => (z_no (by have h8 := z_feqF h9; omega)))
      have b_32 := z_fneT c_31
      refine lv_aload_n hx hb dX12_readFeatureName_62 rfl (lv_at hl 1 rfl) ?_
      refine lv_iconst (v := 1) hx hb dX12_readFeatureName_63 (by decide) ?_
      refine z_callVv (As := [.int 1]) (rest := []) (wr := [(a_c, .inl (cA.1 0, 1825, .inl g_c)), (a_words, .inl (cA.1 1, 105, .inr (.inl g_words)))]) ⟨hx, hb, hml, hown, hts⟩ hK hE hT hP hD hS hA (r_must_1 l G cA h0 m_status m_thrown m_above m_under a_traySort a_trayMany a_numbers a_tape m_taped m_textEnd m_faultKind m_faultAt n_24 n_25 m_token m_at m_behind m_number m_letters m_word a_c a_words m_markMany a_there a_tried a_best a_found m_thereMany m_foundMany m_orderHow m_orderRing m_orderMany m_hasBest m_bestTop m_bestBy a_weights a_shared m_random m_truePlace m_trueWay m_seconds m_done m_feelings m_tries m_leftOver m_playDoor m_playRing m_isOpen m_isOver m_wasTried m_hasPlayed a_feltNow a_last a_kept m_hasSeconds m_hasTurned m_hasRound a_hasFeels a_isOn m_firstAct m_meanTop m_meanBy a_order m_rowMany m_newSteps g_tape hr_m_textEnd hr_m_at hr_m_behind (z_rgw hr_n_24 (by decide) (by decide)) hr_m_token hr_m_number hr_m_letters) lk_RX12_210 ⟨rfl, rfl⟩ ⟨Nat.le_of_ble_eq_true rfl, Nat.le_of_ble_eq_true rfl⟩ 12 rfl rfl rfl [3, 0] [1, 2] rfl rfl (by decide) rfl hl.1 rfl (lv_room (Nat.le_of_ble_eq_true rfl)) dX12_readFeatureName_64 ⟨Nat.le_of_ble_eq_true rfl, Nat.le_of_ble_eq_true rfl⟩ (fun u_40 H locs hw hP hD hS => ?_)
      obtain ⟨n_33, n_34, n_35, n_36, n_37, n_38⟩ := u_40
      try dsimp only at hw
      obtain ⟨he_n_33, he_n_34, he_n_35, he_n_36, he_n_37, he_n_38, hw⟩ := hw
      obtain ⟨hr_n_33, hr_n_34, hr_n_35, hr_n_36, hr_n_37, hf_42, hf_43, hf_44⟩ := hw
      refine lv_iload_n hx hb dX12_readFeatureName_67 rfl (lv_at hl 0 rfl) ?_
      have hpost : ((-1) ≤ (0 : Int32).toInt ∧ (0 : Int32).toInt ≤ 2) ∧ (0 ≤ n_33.toInt ∧ n_33.toInt ≤ 4) ∧ (0 ≤ n_34.toInt ∧ n_34.toInt ≤ 900) ∧ (0 ≤ n_35.toInt ∧ n_35.toInt ≤ 900) ∧ (0 ≤ n_36.toInt ∧ n_36.toInt ≤ 9999) ∧ (0 ≤ n_37.toInt ∧ n_37.toInt ≤ 900) ∧ (0 ≤ n_24.toInt ∧ n_24.toInt ≤ 9) ∧ (m_behind.toInt ≤ n_35.toInt) ∧ (0 < m_bad.toInt → 0 < n_24.toInt) ∧ (n_24.toInt ≤ 0 → n_33.toInt = 0 ∨ m_behind.toInt < n_35.toInt) := ⟨(by decide +kernel), hr_n_33, hr_n_34, hr_n_35, hr_n_36, hr_n_37, (z_rgw hr_n_24 (by decide) (by decide)), (by omega), (by omega), (by omega)⟩
      have hX_45 : F_r_readFeatureName m_textEnd m_bad m_badAt m_token m_at m_behind m_number m_letters m_word g_tape g_c g_words = (((0 : Int32), n_33, n_34, n_35, n_36, n_37, n_38, n_24, n_25) : Int32 × Int32 × Int32 × Int32 × Int32 × Int32 × Int64 × Int32 × Int32) := by
        refine (F_r_readFeatureName_s ..).trans ?_
        refine (if_pos c_1).trans ?_
        extract_lets -merge -useContext +onlyGivenNames w9 y9; have e9 : (0 : Int32) = w9 := he_r_21; clear_value w9; subst e9
        refine (if_pos rfl).trans ?_
        extract_lets -merge -useContext +onlyGivenNames w9 y3_0 y3_1; have e9 : (n_24, n_25) = w9 := ((z_tS he_n_24 he_n_25.symm)).symm; clear_value w9; subst e9
        extract_lets -merge -useContext +onlyGivenNames w9 y4_0 y4_1 y4_2 y4_3 y4_4 y4_5; have e9 : (n_33, n_34, n_35, n_36, n_37, n_38) = w9 := ((z_tS he_n_33 (z_tS he_n_34 (z_tS he_n_35 (z_tS he_n_36 (z_tS he_n_37 he_n_38.symm)))))).symm; clear_value w9; subst e9
        exact rfl
      exact hret _ _ _ _ _ _ (n_33, n_34, n_35, n_36, n_37, n_38, n_24, n_25) [2, 3, 0, 1] hP hD hS rfl (by decide) dX12_readFeatureName_68 ⟨(congrArg (fun z9 => z9.1) hX_45).symm, (congrArg (fun z9 => z9.2.1) hX_45).symm, (congrArg (fun z9 => z9.2.2.1) hX_45).symm, (congrArg (fun z9 => z9.2.2.2.1) hX_45).symm, (congrArg (fun z9 => z9.2.2.2.2.1) hX_45).symm, (congrArg (fun z9 => z9.2.2.2.2.2.1) hX_45).symm, (congrArg (fun z9 => z9.2.2.2.2.2.2.1) hX_45).symm, (congrArg (fun z9 => z9.2.2.2.2.2.2.2.1) hX_45).symm, (congrArg (fun z9 => z9.2.2.2.2.2.2.2.2) hX_45).symm, hpost⟩
    · skip
      refine lv_if_ne (tgt := 18) hx hb dX12_readFeatureName_11 (by decide) (fun _ => ?_) (fun h9 => absurd h9 (by decide +kernel))
      refine lv_aload_n hx hb dX12_readFeatureName_18 rfl (lv_at hl 0 rfl) ?_
      refine va_get (D := G) (ci := 12) (v := .int m_bad) (C := RX12) (T := TX12) (N := 65) hx hb hts inT12 hown hK hP 3 rfl rfl 12 (by decide) (hts _ tw_1897) (fun _ h9 => h9) rfl dX12_readFeatureName_19 ?_
      refine lv_if_ne (tgt := 40) hx hb dX12_readFeatureName_22 (by decide) (fun h9 => (z_no (by have h8 := z_fneT h9; omega))) (fun c_46 => ?_)
      have b_47 := z_feqF c_46
      refine lv_aload_n hx hb dX12_readFeatureName_25 rfl (lv_at hl 0 rfl) ?_
      refine lv_iconst (v := 0) hx hb dX12_readFeatureName_26 (by decide) ?_
      refine lv_iconst (v := 0) hx hb dX12_readFeatureName_27 (by decide) ?_
      refine lv_aload_n hx hb dX12_readFeatureName_28 rfl (lv_at hl 0 rfl) ?_
      refine va_get (D := G) (ci := 12) (v := .ref a_c) (C := RX12) (T := TX12) (N := 65) hx hb hts inT12 hown hK hP 3 rfl rfl 20 (by decide) (hts _ tw_1905) (fun _ h9 => h9) rfl dX12_readFeatureName_29 ?_
      refine lv_iconst (v := 0) hx hb dX12_readFeatureName_32 (by decide) ?_
      refine va_iald hx hb hK hP 1 0 rfl rfl (z_in (i := 0) (n := 1825) (by decide +kernel) (by decide +kernel)) dX12_readFeatureName_33 ?_
      refine lv_topi (fun x_48 he_x_48 => ?_)
      have hr_x_48 := z_ctk hC_g_c he_x_48 (k := 0) (lo := 0) (hi := 3) (by decide +kernel) (by decide +kernel) (by decide +kernel)
      refine z_callVi (As := [.int 0, .int 0, .int x_48]) (rest := []) (wr := [(a_tape, .inl (cA.1 2, 900, .inl g_tape)), (a_c, .inl (cA.1 0, 1825, .inl g_c))]) ⟨hx, hb, hml, hown, hts⟩ hK hE hT hP hD hS hA (r_named_0_0 l G cA h0 m_status m_thrown m_above m_under a_traySort a_trayMany a_numbers a_tape m_taped m_textEnd m_faultKind m_faultAt m_bad m_badAt m_token m_at m_behind m_number m_letters m_word a_c a_words m_markMany a_there a_tried a_best a_found m_thereMany m_foundMany m_orderHow m_orderRing m_orderMany m_hasBest m_bestTop m_bestBy a_weights a_shared m_random m_truePlace m_trueWay m_seconds m_done m_feelings m_tries m_leftOver m_playDoor m_playRing m_isOpen m_isOver m_wasTried m_hasPlayed a_feltNow a_last a_kept m_hasSeconds m_hasTurned m_hasRound a_hasFeels a_isOn m_firstAct m_meanTop m_meanBy a_order m_rowMany m_newSteps g_words x_48 hr_x_48) lk_RX12_196 ⟨rfl, rfl⟩ ⟨Nat.le_of_ble_eq_true rfl, Nat.le_of_ble_eq_true rfl⟩ 12 rfl rfl rfl [3, 2] [0, 1] rfl rfl (by decide) rfl hl.1 rfl (lv_room (Nat.le_of_ble_eq_true rfl)) dX12_readFeatureName_34 ⟨Nat.le_of_ble_eq_true rfl, Nat.le_of_ble_eq_true rfl⟩ (fun r_49 u_50 H locs hw hP hD hS => ?_)
      obtain ⟨he_r_49, hw⟩ := hw
      obtain ⟨hr_r_49, hf_52⟩ := hw
      refine lv_goto (tgt := 41) hx hb dX12_readFeatureName_37 (by decide) ?_
      refine lv_istore_n (lv' := [(1, .int r_49), (0, .ref h0)]) hx hb dX12_readFeatureName_41 rfl hl (by decide) rfl (fun ls hl => ?_)
      refine lv_aload_n hx hb dX12_readFeatureName_42 rfl (lv_at hl 1 rfl) ?_
      refine va_get (D := G) (ci := 12) (v := .int m_bad) (C := RX12) (T := TX12) (N := 65) hx hb hts inT12 hown hK hP 2 rfl rfl 12 (by decide) (hts _ tw_1897) (fun _ h9 => h9) rfl dX12_readFeatureName_43 ?_
      refine lv_if_ne (tgt := 62) hx hb dX12_readFeatureName_46 (by decide) (fun h9 => (z_no (by have h8 := z_fneT h9; omega))) (fun c_53 => ?_)
      have b_54 := z_feqF c_53
      refine lv_iload_n hx hb dX12_readFeatureName_49 rfl (lv_at hl 0 rfl) ?_
      refine lv_if_ge (tgt := 62) hx hb dX12_readFeatureName_50 (by decide) (fun c_55 => ?_) (fun c_55 => ?_)
      · have b_56 := z_fgeT c_55
        refine lv_aload_n hx hb dX12_readFeatureName_62 rfl (lv_at hl 1 rfl) ?_
        refine lv_iconst (v := 1) hx hb dX12_readFeatureName_63 (by decide) ?_
        refine z_callVv (As := [.int 1]) (rest := []) (wr := [(a_c, .inl (cA.1 0, 1825, .inl g_c)), (a_words, .inl (cA.1 1, 105, .inr (.inl g_words)))]) ⟨hx, hb, hml, hown, hts⟩ hK hE hT hP hD hS hA (r_must_1 l G cA h0 m_status m_thrown m_above m_under a_traySort a_trayMany a_numbers a_tape m_taped m_textEnd m_faultKind m_faultAt m_bad m_badAt m_token m_at m_behind m_number m_letters m_word a_c a_words m_markMany a_there a_tried a_best a_found m_thereMany m_foundMany m_orderHow m_orderRing m_orderMany m_hasBest m_bestTop m_bestBy a_weights a_shared m_random m_truePlace m_trueWay m_seconds m_done m_feelings m_tries m_leftOver m_playDoor m_playRing m_isOpen m_isOver m_wasTried m_hasPlayed a_feltNow a_last a_kept m_hasSeconds m_hasTurned m_hasRound a_hasFeels a_isOn m_firstAct m_meanTop m_meanBy a_order m_rowMany m_newSteps g_tape hr_m_textEnd hr_m_at hr_m_behind hr_m_bad hr_m_token hr_m_number hr_m_letters) lk_RX12_210 ⟨rfl, rfl⟩ ⟨Nat.le_of_ble_eq_true rfl, Nat.le_of_ble_eq_true rfl⟩ 12 rfl rfl rfl [2, 0] [1, 3] rfl rfl (by decide) rfl hl.1 rfl (lv_room (Nat.le_of_ble_eq_true rfl)) dX12_readFeatureName_64 ⟨Nat.le_of_ble_eq_true rfl, Nat.le_of_ble_eq_true rfl⟩ (fun u_64 H locs hw hP hD hS => ?_)
        obtain ⟨n_57, n_58, n_59, n_60, n_61, n_62⟩ := u_64
        try dsimp only at hw
        obtain ⟨he_n_57, he_n_58, he_n_59, he_n_60, he_n_61, he_n_62, hw⟩ := hw
        obtain ⟨hr_n_57, hr_n_58, hr_n_59, hr_n_60, hr_n_61, hf_66, hf_67, hf_68⟩ := hw
        refine lv_iload_n hx hb dX12_readFeatureName_67 rfl (lv_at hl 0 rfl) ?_
        have hpost : ((-1) ≤ r_49.toInt ∧ r_49.toInt ≤ 2) ∧ (0 ≤ n_57.toInt ∧ n_57.toInt ≤ 4) ∧ (0 ≤ n_58.toInt ∧ n_58.toInt ≤ 900) ∧ (0 ≤ n_59.toInt ∧ n_59.toInt ≤ 900) ∧ (0 ≤ n_60.toInt ∧ n_60.toInt ≤ 9999) ∧ (0 ≤ n_61.toInt ∧ n_61.toInt ≤ 900) ∧ (0 ≤ m_bad.toInt ∧ m_bad.toInt ≤ 9) ∧ (m_behind.toInt ≤ n_59.toInt) ∧ (0 < m_bad.toInt → 0 < m_bad.toInt) ∧ (m_bad.toInt ≤ 0 → n_57.toInt = 0 ∨ m_behind.toInt < n_59.toInt) := ⟨hr_r_49, hr_n_57, hr_n_58, hr_n_59, hr_n_60, hr_n_61, hr_m_bad, (by omega), (by omega), (by omega)⟩
        have hX_69 : F_r_readFeatureName m_textEnd m_bad m_badAt m_token m_at m_behind m_number m_letters m_word g_tape g_c g_words = ((r_49, n_57, n_58, n_59, n_60, n_61, n_62, m_bad, m_badAt) : Int32 × Int32 × Int32 × Int32 × Int32 × Int32 × Int64 × Int32 × Int32) := by
          refine (F_r_readFeatureName_s ..).trans ?_
          refine (if_pos c_1).trans ?_
          extract_lets -merge -useContext +onlyGivenNames w9 y9; have e9 : (1 : Int32) = w9 := he_r_21; clear_value w9; subst e9
          refine (if_neg (show ¬ (1 : Int32) = 0 by decide)).trans ?_
          try (extract_lets -merge -useContext +onlyGivenNames y9; have e9 : x_48 = y9 := (by first | exact he_x_48 | exact he_x_48.symm); clear_value y9; subst e9)
          extract_lets -merge -useContext +onlyGivenNames w9 y9; have e9 : r_49 = w9 := he_r_49; clear_value w9; subst e9
          refine (if_pos c_55).trans ?_
          extract_lets -merge -useContext +onlyGivenNames w9 y6_0 y6_1 y6_2 y6_3 y6_4 y6_5; have e9 : (n_57, n_58, n_59, n_60, n_61, n_62) = w9 := ((z_tS he_n_57 (z_tS he_n_58 (z_tS he_n_59 (z_tS he_n_60 (z_tS he_n_61 he_n_62.symm)))))).symm; clear_value w9; subst e9
          exact rfl
        exact hret _ _ _ _ _ _ (n_57, n_58, n_59, n_60, n_61, n_62, m_bad, m_badAt) [2, 3, 0, 1] hP hD hS rfl (by decide) dX12_readFeatureName_68 ⟨(congrArg (fun z9 => z9.1) hX_69).symm, (congrArg (fun z9 => z9.2.1) hX_69).symm, (congrArg (fun z9 => z9.2.2.1) hX_69).symm, (congrArg (fun z9 => z9.2.2.2.1) hX_69).symm, (congrArg (fun z9 => z9.2.2.2.2.1) hX_69).symm, (congrArg (fun z9 => z9.2.2.2.2.2.1) hX_69).symm, (congrArg (fun z9 => z9.2.2.2.2.2.2.1) hX_69).symm, (congrArg (fun z9 => z9.2.2.2.2.2.2.2.1) hX_69).symm, (congrArg (fun z9 => z9.2.2.2.2.2.2.2.2) hX_69).symm, hpost⟩
      · have b_70 := z_fltF c_55
        refine lv_aload_n hx hb dX12_readFeatureName_53 rfl (lv_at hl 1 rfl) ?_
        refine lv_iconst (v := 3) hx hb dX12_readFeatureName_54 (by decide) ?_
        refine lv_aload_n hx hb dX12_readFeatureName_55 rfl (lv_at hl 1 rfl) ?_
        refine va_get (D := G) (ci := 12) (v := .int m_at) (C := RX12) (T := TX12) (N := 65) hx hb hts inT12 hown hK hP 2 rfl rfl 15 (by decide) (hts _ tw_1900) (fun _ h9 => h9) rfl dX12_readFeatureName_56 ?_
        refine z_callVv (As := [.int 3, .int m_at]) (rest := []) (wr := [(a_tape, .inl (cA.1 2, 900, .inl g_tape)), (a_c, .inl (cA.1 0, 1825, .inl g_c)), (a_words, .inl (cA.1 1, 105, .inr (.inl g_words)))]) ⟨hx, hb, hml, hown, hts⟩ hK hE hT hP hD hS hA (r_fail l G cA h0 m_status m_thrown m_above m_under a_traySort a_trayMany a_numbers a_tape m_taped m_textEnd m_faultKind m_faultAt m_bad m_badAt m_token m_at m_behind m_number m_letters m_word a_c a_words m_markMany a_there a_tried a_best a_found m_thereMany m_foundMany m_orderHow m_orderRing m_orderMany m_hasBest m_bestTop m_bestBy a_weights a_shared m_random m_truePlace m_trueWay m_seconds m_done m_feelings m_tries m_leftOver m_playDoor m_playRing m_isOpen m_isOver m_wasTried m_hasPlayed a_feltNow a_last a_kept m_hasSeconds m_hasTurned m_hasRound a_hasFeels a_isOn m_firstAct m_meanTop m_meanBy a_order m_rowMany m_newSteps 3 m_at (by decide +kernel) hr_m_bad) lk_RX12_180 ⟨rfl, rfl⟩ ⟨Nat.le_of_ble_eq_true rfl, Nat.le_of_ble_eq_true rfl⟩ 12 rfl rfl rfl [2] [0, 1, 3] rfl rfl (by decide) rfl hl.1 rfl (lv_room (Nat.le_of_ble_eq_true rfl)) dX12_readFeatureName_59 ⟨Nat.le_of_ble_eq_true rfl, Nat.le_of_ble_eq_true rfl⟩ (fun u_74 H locs hw hP hD hS => ?_)
        obtain ⟨n_71, n_72⟩ := u_74
        try dsimp only at hw
        obtain ⟨he_n_71, he_n_72, hw⟩ := hw
        obtain ⟨hr_n_71, hf_76⟩ := hw
        refine lv_aload_n hx hb dX12_readFeatureName_62 rfl (lv_at hl 1 rfl) ?_
        refine lv_iconst (v := 1) hx hb dX12_readFeatureName_63 (by decide) ?_
        refine z_callVv (As := [.int 1]) (rest := []) (wr := [(a_c, .inl (cA.1 0, 1825, .inl g_c)), (a_words, .inl (cA.1 1, 105, .inr (.inl g_words)))]) ⟨hx, hb, hml, hown, hts⟩ hK hE hT hP hD hS hA (r_must_1 l G cA h0 m_status m_thrown m_above m_under a_traySort a_trayMany a_numbers a_tape m_taped m_textEnd m_faultKind m_faultAt n_71 n_72 m_token m_at m_behind m_number m_letters m_word a_c a_words m_markMany a_there a_tried a_best a_found m_thereMany m_foundMany m_orderHow m_orderRing m_orderMany m_hasBest m_bestTop m_bestBy a_weights a_shared m_random m_truePlace m_trueWay m_seconds m_done m_feelings m_tries m_leftOver m_playDoor m_playRing m_isOpen m_isOver m_wasTried m_hasPlayed a_feltNow a_last a_kept m_hasSeconds m_hasTurned m_hasRound a_hasFeels a_isOn m_firstAct m_meanTop m_meanBy a_order m_rowMany m_newSteps g_tape hr_m_textEnd hr_m_at hr_m_behind (z_rgw hr_n_71 (by decide) (by decide)) hr_m_token hr_m_number hr_m_letters) lk_RX12_210 ⟨rfl, rfl⟩ ⟨Nat.le_of_ble_eq_true rfl, Nat.le_of_ble_eq_true rfl⟩ 12 rfl rfl rfl [3, 0] [1, 2] rfl rfl (by decide) rfl hl.1 rfl (lv_room (Nat.le_of_ble_eq_true rfl)) dX12_readFeatureName_64 ⟨Nat.le_of_ble_eq_true rfl, Nat.le_of_ble_eq_true rfl⟩ (fun u_84 H locs hw hP hD hS => ?_)
        obtain ⟨n_77, n_78, n_79, n_80, n_81, n_82⟩ := u_84
        try dsimp only at hw
        obtain ⟨he_n_77, he_n_78, he_n_79, he_n_80, he_n_81, he_n_82, hw⟩ := hw
        obtain ⟨hr_n_77, hr_n_78, hr_n_79, hr_n_80, hr_n_81, hf_86, hf_87, hf_88⟩ := hw
        refine lv_iload_n hx hb dX12_readFeatureName_67 rfl (lv_at hl 0 rfl) ?_
        have hpost : ((-1) ≤ r_49.toInt ∧ r_49.toInt ≤ 2) ∧ (0 ≤ n_77.toInt ∧ n_77.toInt ≤ 4) ∧ (0 ≤ n_78.toInt ∧ n_78.toInt ≤ 900) ∧ (0 ≤ n_79.toInt ∧ n_79.toInt ≤ 900) ∧ (0 ≤ n_80.toInt ∧ n_80.toInt ≤ 9999) ∧ (0 ≤ n_81.toInt ∧ n_81.toInt ≤ 900) ∧ (0 ≤ n_71.toInt ∧ n_71.toInt ≤ 9) ∧ (m_behind.toInt ≤ n_79.toInt) ∧ (0 < m_bad.toInt → 0 < n_71.toInt) ∧ (n_71.toInt ≤ 0 → n_77.toInt = 0 ∨ m_behind.toInt < n_79.toInt) := ⟨hr_r_49, hr_n_77, hr_n_78, hr_n_79, hr_n_80, hr_n_81, (z_rgw hr_n_71 (by decide) (by decide)), (by omega), (by omega), (by omega)⟩
        have hX_89 : F_r_readFeatureName m_textEnd m_bad m_badAt m_token m_at m_behind m_number m_letters m_word g_tape g_c g_words = ((r_49, n_77, n_78, n_79, n_80, n_81, n_82, n_71, n_72) : Int32 × Int32 × Int32 × Int32 × Int32 × Int32 × Int64 × Int32 × Int32) := by
          refine (F_r_readFeatureName_s ..).trans ?_
          refine (if_pos c_1).trans ?_
          extract_lets -merge -useContext +onlyGivenNames w9 y9; have e9 : (1 : Int32) = w9 := he_r_21; clear_value w9; subst e9
          refine (if_neg (show ¬ (1 : Int32) = 0 by decide)).trans ?_
          try (extract_lets -merge -useContext +onlyGivenNames y9; have e9 : x_48 = y9 := (by first | exact he_x_48 | exact he_x_48.symm); clear_value y9; subst e9)
          extract_lets -merge -useContext +onlyGivenNames w9 y9; have e9 : r_49 = w9 := he_r_49; clear_value w9; subst e9
          refine (if_neg c_55).trans ?_
          extract_lets -merge -useContext +onlyGivenNames w9 y6_0 y6_1; have e9 : (n_71, n_72) = w9 := ((z_tS he_n_71 he_n_72.symm)).symm; clear_value w9; subst e9
          extract_lets -merge -useContext +onlyGivenNames w9 y7_0 y7_1 y7_2 y7_3 y7_4 y7_5; have e9 : (n_77, n_78, n_79, n_80, n_81, n_82) = w9 := ((z_tS he_n_77 (z_tS he_n_78 (z_tS he_n_79 (z_tS he_n_80 (z_tS he_n_81 he_n_82.symm)))))).symm; clear_value w9; subst e9
          exact rfl
        exact hret _ _ _ _ _ _ (n_77, n_78, n_79, n_80, n_81, n_82, n_71, n_72) [2, 3, 0, 1] hP hD hS rfl (by decide) dX12_readFeatureName_68 ⟨(congrArg (fun z9 => z9.1) hX_89).symm, (congrArg (fun z9 => z9.2.1) hX_89).symm, (congrArg (fun z9 => z9.2.2.1) hX_89).symm, (congrArg (fun z9 => z9.2.2.2.1) hX_89).symm, (congrArg (fun z9 => z9.2.2.2.2.1) hX_89).symm, (congrArg (fun z9 => z9.2.2.2.2.2.1) hX_89).symm, (congrArg (fun z9 => z9.2.2.2.2.2.2.1) hX_89).symm, (congrArg (fun z9 => z9.2.2.2.2.2.2.2.1) hX_89).symm, (congrArg (fun z9 => z9.2.2.2.2.2.2.2.2) hX_89).symm, hpost⟩
set_option maxHeartbeats 40000000 in
set_option maxRecDepth 100000 in
theorem r_readWhen (l : Launch) (G : va_G) (cA : zCA) (h0 : Nat) (m_status : Int32) (m_thrown : Int32) (m_above : Int64) (m_under : Int64) (a_traySort : Nat) (a_trayMany : Nat) (a_numbers : Nat) (a_tape : Nat) (m_taped : Int32) (m_textEnd : Int32) (m_faultKind : Int32) (m_faultAt : Int32) (m_bad : Int32) (m_badAt : Int32) (m_token : Int32) (m_at : Int32) (m_behind : Int32) (m_number : Int32) (m_letters : Int32) (m_word : Int64) (a_c : Nat) (a_words : Nat) (m_markMany : Int32) (a_there : Nat) (a_tried : Nat) (a_best : Nat) (a_found : Nat) (m_thereMany : Int32) (m_foundMany : Int32) (m_orderHow : Int32) (m_orderRing : Int32) (m_orderMany : Int32) (m_hasBest : Int32) (m_bestTop : Int64) (m_bestBy : Int64) (a_weights : Nat) (a_shared : Nat) (m_random : Int32) (m_truePlace : Int32) (m_trueWay : Int32) (m_seconds : Int32) (m_done : Int32) (m_feelings : Int32) (m_tries : Int32) (m_leftOver : Int32) (m_playDoor : Int32) (m_playRing : Int32) (m_isOpen : Int32) (m_isOver : Int32) (m_wasTried : Int32) (m_hasPlayed : Int32) (a_feltNow : Nat) (a_last : Nat) (a_kept : Nat) (m_hasSeconds : Int32) (m_hasTurned : Int32) (m_hasRound : Int32) (a_hasFeels : Nat) (a_isOn : Nat) (m_firstAct : Int32) (m_meanTop : Int64) (m_meanBy : Int64) (a_order : Nat) (m_rowMany : Int32) (m_newSteps : Int32) (g_tape : Nat → Int32) (g_c : Nat → Int32) (g_words : Nat → Int64) (w : Int32) (hr_w : 1641 ≤ w.toInt ∧ w.toInt ≤ 1815) (hr_m_textEnd : 0 ≤ m_textEnd.toInt ∧ m_textEnd.toInt ≤ 900) (hr_m_at : 0 ≤ m_at.toInt ∧ m_at.toInt ≤ 900) (hr_m_behind : 0 ≤ m_behind.toInt ∧ m_behind.toInt ≤ 900) (hr_m_bad : 0 ≤ m_bad.toInt ∧ m_bad.toInt ≤ 9) (hr_m_token : 0 ≤ m_token.toInt ∧ m_token.toInt ≤ 4) (hr_m_number : 0 ≤ m_number.toInt ∧ m_number.toInt ≤ 9999) (hr_m_letters : 0 ≤ m_letters.toInt ∧ m_letters.toInt ≤ 900) (hC_g_c : zC g_c) (hp_0 : w.toInt % 6 = 3) : zCv l yX12_readWhen cX12_readWhen 3 none ({ frames := 4, cells := 0, slots := 0, locals := 88 }) G cA [.ref h0, .int w] [(h0, .inr (12, [.int m_status, .int m_thrown, .long m_above, .long m_under, .ref a_traySort, .ref a_trayMany, .ref a_numbers, .ref a_tape, .int m_taped, .int m_textEnd, .int m_faultKind, .int m_faultAt, .int m_bad, .int m_badAt, .int m_token, .int m_at, .int m_behind, .int m_number, .int m_letters, .long m_word, .ref a_c, .ref a_words, .int m_markMany, .ref a_there, .ref a_tried, .ref a_best, .ref a_found, .int m_thereMany, .int m_foundMany, .int m_orderHow, .int m_orderRing, .int m_orderMany, .int m_hasBest, .long m_bestTop, .long m_bestBy, .ref a_weights, .ref a_shared, .int m_random, .int m_truePlace, .int m_trueWay, .int m_seconds, .int m_done, .int m_feelings, .int m_tries, .int m_leftOver, .int m_playDoor, .int m_playRing, .int m_isOpen, .int m_isOver, .int m_wasTried, .int m_hasPlayed, .ref a_feltNow, .ref a_last, .ref a_kept, .int m_hasSeconds, .int m_hasTurned, .int m_hasRound, .ref a_hasFeels, .ref a_isOn, .int m_firstAct, .long m_meanTop, .long m_meanBy, .ref a_order, .int m_rowMany, .int m_newSteps])), (a_tape, .inl (cA.1 2, 900, .inl g_tape)), (a_c, .inl (cA.1 0, 1825, .inl g_c)), (a_words, .inl (cA.1 1, 105, .inr (.inl g_words)))] (S := Int32 × Int32 × Int32 × Int32 × Int32 × Int32 × Int32 × Int64 × (Nat → Int32)) (fun (u : Int32 × Int32 × Int32 × Int32 × Int32 × Int32 × Int32 × Int64 × (Nat → Int32)) => (u.1 = (F_r_readWhen m_textEnd m_bad m_badAt m_behind m_number m_letters m_word g_tape g_c g_words w).1) ∧ (u.2.1 = (F_r_readWhen m_textEnd m_bad m_badAt m_behind m_number m_letters m_word g_tape g_c g_words w).2.1) ∧ (u.2.2.1 = (F_r_readWhen m_textEnd m_bad m_badAt m_behind m_number m_letters m_word g_tape g_c g_words w).2.2.1) ∧ (u.2.2.2.1 = (F_r_readWhen m_textEnd m_bad m_badAt m_behind m_number m_letters m_word g_tape g_c g_words w).2.2.2.1) ∧ (u.2.2.2.2.1 = (F_r_readWhen m_textEnd m_bad m_badAt m_behind m_number m_letters m_word g_tape g_c g_words w).2.2.2.2.1) ∧ (u.2.2.2.2.2.1 = (F_r_readWhen m_textEnd m_bad m_badAt m_behind m_number m_letters m_word g_tape g_c g_words w).2.2.2.2.2.1) ∧ (u.2.2.2.2.2.2.1 = (F_r_readWhen m_textEnd m_bad m_badAt m_behind m_number m_letters m_word g_tape g_c g_words w).2.2.2.2.2.2.1) ∧ (u.2.2.2.2.2.2.2.1 = (F_r_readWhen m_textEnd m_bad m_badAt m_behind m_number m_letters m_word g_tape g_c g_words w).2.2.2.2.2.2.2.1) ∧ (u.2.2.2.2.2.2.2.2 = (F_r_readWhen m_textEnd m_bad m_badAt m_behind m_number m_letters m_word g_tape g_c g_words w).2.2.2.2.2.2.2.2) ∧ ((0 ≤ u.1.toInt ∧ u.1.toInt ≤ 9) ∧ (0 ≤ u.2.2.1.toInt ∧ u.2.2.1.toInt ≤ 4) ∧ (0 ≤ u.2.2.2.1.toInt ∧ u.2.2.2.1.toInt ≤ 900) ∧ (0 ≤ u.2.2.2.2.1.toInt ∧ u.2.2.2.2.1.toInt ≤ 900) ∧ (0 ≤ u.2.2.2.2.2.1.toInt ∧ u.2.2.2.2.2.1.toInt ≤ 9999) ∧ (0 ≤ u.2.2.2.2.2.2.1.toInt ∧ u.2.2.2.2.2.2.1.toInt ≤ 900) ∧ (zC u.2.2.2.2.2.2.2.2) ∧ (m_behind.toInt ≤ u.2.2.2.2.1.toInt) ∧ (0 < m_bad.toInt → 0 < u.1.toInt) ∧ (u.1.toInt ≤ 0 → u.2.2.1.toInt = 0 ∨ m_behind.toInt < u.2.2.2.2.1.toInt))) (fun (u : Int32 × Int32 × Int32 × Int32 × Int32 × Int32 × Int32 × Int64 × (Nat → Int32)) => [(h0, .inr (12, [.int m_status, .int m_thrown, .long m_above, .long m_under, .ref a_traySort, .ref a_trayMany, .ref a_numbers, .ref a_tape, .int m_taped, .int m_textEnd, .int m_faultKind, .int m_faultAt, .int u.1, .int u.2.1, .int u.2.2.1, .int u.2.2.2.1, .int u.2.2.2.2.1, .int u.2.2.2.2.2.1, .int u.2.2.2.2.2.2.1, .long u.2.2.2.2.2.2.2.1, .ref a_c, .ref a_words, .int m_markMany, .ref a_there, .ref a_tried, .ref a_best, .ref a_found, .int m_thereMany, .int m_foundMany, .int m_orderHow, .int m_orderRing, .int m_orderMany, .int m_hasBest, .long m_bestTop, .long m_bestBy, .ref a_weights, .ref a_shared, .int m_random, .int m_truePlace, .int m_trueWay, .int m_seconds, .int m_done, .int m_feelings, .int m_tries, .int m_leftOver, .int m_playDoor, .int m_playRing, .int m_isOpen, .int m_isOver, .int m_wasTried, .int m_hasPlayed, .ref a_feltNow, .ref a_last, .ref a_kept, .int m_hasSeconds, .int m_hasTurned, .int m_hasRound, .ref a_hasFeels, .ref a_isOn, .int m_firstAct, .long m_meanTop, .long m_meanBy, .ref a_order, .int m_rowMany, .int m_newSteps])), (a_tape, .inl (cA.1 2, 900, .inl g_tape)), (a_c, .inl (cA.1 0, 1825, .inl u.2.2.2.2.2.2.2.2)), (a_words, .inl (cA.1 1, 105, .inr (.inl g_words)))]) 0 0 := by
  have hk_0 : (0 : Int32).toInt = 0 := by decide +kernel
  have hk_1 : (1 : Int32).toInt = 1 := by decide +kernel
  have hk_2 : (2 : Int32).toInt = 2 := by decide +kernel
  have hk_3 : (3 : Int32).toInt = 3 := by decide +kernel
  have hk_16 : (16 : Int32).toInt = 16 := by decide +kernel
  have hk_60 : (60 : Int32).toInt = 60 := by decide +kernel
  have hk_61 : (61 : Int32).toInt = 61 := by decide +kernel
  have hk_62 : (62 : Int32).toInt = 62 := by decide +kernel
  refine z_start2v (own := RX12) (by decide) (Nat.le_of_ble_eq_true rfl) rfl ?_
  intro p e s m args below meth c A ls Q hx hb hml hts hown hK hE hT hP hD hS hA hl hret
  have hl : lv_has ls 3 [(0, .ref h0), (1, .int w)] := hl
  refine lv_aload_n hx hb dX12_readWhen_0 rfl (lv_at hl 0 rfl) ?_
  refine z_callVv (As := []) (rest := []) (wr := [(a_c, .inl (cA.1 0, 1825, .inl g_c)), (a_words, .inl (cA.1 1, 105, .inr (.inl g_words)))]) ⟨hx, hb, hml, hown, hts⟩ hK hE hT hP hD hS hA (r_next2 l G cA h0 m_status m_thrown m_above m_under a_traySort a_trayMany a_numbers a_tape m_taped m_textEnd m_faultKind m_faultAt m_bad m_badAt m_token m_at m_behind m_number m_letters m_word a_c a_words m_markMany a_there a_tried a_best a_found m_thereMany m_foundMany m_orderHow m_orderRing m_orderMany m_hasBest m_bestTop m_bestBy a_weights a_shared m_random m_truePlace m_trueWay m_seconds m_done m_feelings m_tries m_leftOver m_playDoor m_playRing m_isOpen m_isOver m_wasTried m_hasPlayed a_feltNow a_last a_kept m_hasSeconds m_hasTurned m_hasRound a_hasFeels a_isOn m_firstAct m_meanTop m_meanBy a_order m_rowMany m_newSteps g_tape hr_m_textEnd hr_m_at hr_m_behind hr_m_token hr_m_number hr_m_letters) lk_RX12_184 ⟨rfl, rfl⟩ ⟨Nat.le_of_ble_eq_true rfl, Nat.le_of_ble_eq_true rfl⟩ 12 rfl rfl rfl [0, 1] [2, 3] rfl rfl (by decide) rfl hl.1 rfl (lv_room (Nat.le_of_ble_eq_true rfl)) dX12_readWhen_1 ⟨Nat.le_of_ble_eq_true rfl, Nat.le_of_ble_eq_true rfl⟩ (fun u_8 H locs hw hP hD hS => ?_)
  obtain ⟨n_1, n_2, n_3, n_4, n_5, n_6⟩ := u_8
  try dsimp only at hw
  obtain ⟨he_n_1, he_n_2, he_n_3, he_n_4, he_n_5, he_n_6, hw⟩ := hw
  obtain ⟨hr_n_1, hr_n_2, hr_n_3, hr_n_4, hr_n_5, hf_10, hf_11⟩ := hw
  refine lv_aload_n hx hb dX12_readWhen_4 rfl (lv_at hl 0 rfl) ?_
  refine z_callVi (As := []) (rest := []) (wr := [(a_c, .inl (cA.1 0, 1825, .inl g_c)), (a_words, .inl (cA.1 1, 105, .inr (.inl g_words))), (a_tape, .inl (cA.1 2, 900, .inl g_tape))]) ⟨hx, hb, hml, hown, hts⟩ hK hE hT hP hD hS hA (r_isFelt l G cA h0 m_status m_thrown m_above m_under a_traySort a_trayMany a_numbers a_tape m_taped m_textEnd m_faultKind m_faultAt m_bad m_badAt n_1 n_2 n_3 n_4 n_5 n_6 a_c a_words m_markMany a_there a_tried a_best a_found m_thereMany m_foundMany m_orderHow m_orderRing m_orderMany m_hasBest m_bestTop m_bestBy a_weights a_shared m_random m_truePlace m_trueWay m_seconds m_done m_feelings m_tries m_leftOver m_playDoor m_playRing m_isOpen m_isOver m_wasTried m_hasPlayed a_feltNow a_last a_kept m_hasSeconds m_hasTurned m_hasRound a_hasFeels a_isOn m_firstAct m_meanTop m_meanBy a_order m_rowMany m_newSteps hr_n_1) lk_RX12_488 ⟨rfl, rfl⟩ ⟨Nat.le_of_ble_eq_true rfl, Nat.le_of_ble_eq_true rfl⟩ 12 rfl rfl rfl [2] [0, 1, 3] rfl rfl (by decide) rfl hl.1 rfl (lv_room (Nat.le_of_ble_eq_true rfl)) dX12_readWhen_5 ⟨Nat.le_of_ble_eq_true rfl, Nat.le_of_ble_eq_true rfl⟩ (fun r_12 u_13 H locs hw hP hD hS => ?_)
  obtain ⟨he_r_12, hw⟩ := hw
  rcases hw with ⟨rfl, -⟩ | ⟨rfl, hf_15⟩
  · skip
    refine lv_if_eq (tgt := 114) hx hb dX12_readWhen_8 (by decide) (fun _ => ?_) (fun h9 => absurd (by decide +kernel) h9)
    refine lv_aload_n hx hb dX12_readWhen_114 rfl (lv_at hl 0 rfl) ?_
    refine z_callVi (As := []) (rest := []) (wr := [(a_c, .inl (cA.1 0, 1825, .inl g_c)), (a_words, .inl (cA.1 1, 105, .inr (.inl g_words))), (a_tape, .inl (cA.1 2, 900, .inl g_tape))]) ⟨hx, hb, hml, hown, hts⟩ hK hE hT hP hD hS hA (r_isSure l G cA h0 m_status m_thrown m_above m_under a_traySort a_trayMany a_numbers a_tape m_taped m_textEnd m_faultKind m_faultAt m_bad m_badAt n_1 n_2 n_3 n_4 n_5 n_6 a_c a_words m_markMany a_there a_tried a_best a_found m_thereMany m_foundMany m_orderHow m_orderRing m_orderMany m_hasBest m_bestTop m_bestBy a_weights a_shared m_random m_truePlace m_trueWay m_seconds m_done m_feelings m_tries m_leftOver m_playDoor m_playRing m_isOpen m_isOver m_wasTried m_hasPlayed a_feltNow a_last a_kept m_hasSeconds m_hasTurned m_hasRound a_hasFeels a_isOn m_firstAct m_meanTop m_meanBy a_order m_rowMany m_newSteps hr_n_1) lk_RX12_494 ⟨rfl, rfl⟩ ⟨Nat.le_of_ble_eq_true rfl, Nat.le_of_ble_eq_true rfl⟩ 12 rfl rfl rfl [3] [0, 1, 2] rfl rfl (by decide) rfl hl.1 rfl (lv_room (Nat.le_of_ble_eq_true rfl)) dX12_readWhen_115 ⟨Nat.le_of_ble_eq_true rfl, Nat.le_of_ble_eq_true rfl⟩ (fun r_16 u_17 H locs hw hP hD hS => ?_)
    obtain ⟨he_r_16, hw⟩ := hw
    rcases hw with ⟨rfl, -⟩ | ⟨rfl, hf_19⟩
    · skip
      refine lv_if_eq (tgt := 151) hx hb dX12_readWhen_118 (by decide) (fun _ => ?_) (fun h9 => absurd (by decide +kernel) h9)
      refine lv_aload_n hx hb dX12_readWhen_151 rfl (lv_at hl 0 rfl) ?_
      refine va_get (D := G) (ci := 12) (v := .ref a_c) (C := RX12) (T := TX12) (N := 65) hx hb hts inT12 hown hK hP 3 rfl rfl 20 (by decide) (hts _ tw_1905) (fun _ h9 => h9) rfl dX12_readWhen_152 ?_
      refine lv_iload_n hx hb dX12_readWhen_155 rfl (lv_at hl 1 rfl) ?_
      refine lv_bipush (v := 8) hx hb dX12_readWhen_156 (by decide) ?_
      refine z_iast hx hb hK hP hD hS 0 0 rfl rfl (z_inN (by omega) (by omega)) dX12_readWhen_158 (fun g_20 hg_g_20 H locs hP hD hS => ?_)
      have hC_g_20 := z_ctUs hC_g_c hg_g_20 (a := 1641) (b := 1815) (M := 6) (q := 3) (lo := (-2147483648)) (hi := 2147483647) (by decide +kernel) (by decide +kernel) (by omega) (by omega) (by omega) (z_full _)
      refine lv_aload_n hx hb dX12_readWhen_159 rfl (lv_at hl 0 rfl) ?_
      refine lv_aload_n hx hb dX12_readWhen_160 rfl (lv_at hl 0 rfl) ?_
      refine z_callVi (As := []) (rest := [.ref h0]) (wr := [(a_c, .inl (cA.1 0, 1825, .inl g_20)), (a_words, .inl (cA.1 1, 105, .inr (.inl g_words))), (a_tape, .inl (cA.1 2, 900, .inl g_tape))]) ⟨hx, hb, hml, hown, hts⟩ hK hE hT hP hD hS hA (r_isTried l G cA h0 m_status m_thrown m_above m_under a_traySort a_trayMany a_numbers a_tape m_taped m_textEnd m_faultKind m_faultAt m_bad m_badAt n_1 n_2 n_3 n_4 n_5 n_6 a_c a_words m_markMany a_there a_tried a_best a_found m_thereMany m_foundMany m_orderHow m_orderRing m_orderMany m_hasBest m_bestTop m_bestBy a_weights a_shared m_random m_truePlace m_trueWay m_seconds m_done m_feelings m_tries m_leftOver m_playDoor m_playRing m_isOpen m_isOver m_wasTried m_hasPlayed a_feltNow a_last a_kept m_hasSeconds m_hasTurned m_hasRound a_hasFeels a_isOn m_firstAct m_meanTop m_meanBy a_order m_rowMany m_newSteps hr_n_1) lk_RX12_497 ⟨rfl, rfl⟩ ⟨Nat.le_of_ble_eq_true rfl, Nat.le_of_ble_eq_true rfl⟩ 12 rfl rfl rfl [3] [0, 1, 2] rfl rfl (by decide) rfl hl.1 rfl (lv_room (Nat.le_of_ble_eq_true rfl)) dX12_readWhen_161 ⟨Nat.le_of_ble_eq_true rfl, Nat.le_of_ble_eq_true rfl⟩ (fun r_21 u_22 H locs hw hP hD hS => ?_)
      obtain ⟨he_r_21, hw⟩ := hw
      rcases hw with ⟨rfl, -⟩ | ⟨rfl, hf_24⟩
      · skip
        refine z_callVv (As := [.int 0]) (rest := []) (wr := [(a_c, .inl (cA.1 0, 1825, .inl g_20)), (a_words, .inl (cA.1 1, 105, .inr (.inl g_words))), (a_tape, .inl (cA.1 2, 900, .inl g_tape))]) ⟨hx, hb, hml, hown, hts⟩ hK hE hT hP hD hS hA (r_must_0 l G cA h0 m_status m_thrown m_above m_under a_traySort a_trayMany a_numbers a_tape m_taped m_textEnd m_faultKind m_faultAt m_bad m_badAt n_1 n_2 n_3 n_4 n_5 n_6 a_c a_words m_markMany a_there a_tried a_best a_found m_thereMany m_foundMany m_orderHow m_orderRing m_orderMany m_hasBest m_bestTop m_bestBy a_weights a_shared m_random m_truePlace m_trueWay m_seconds m_done m_feelings m_tries m_leftOver m_playDoor m_playRing m_isOpen m_isOver m_wasTried m_hasPlayed a_feltNow a_last a_kept m_hasSeconds m_hasTurned m_hasRound a_hasFeels a_isOn m_firstAct m_meanTop m_meanBy a_order m_rowMany m_newSteps hr_n_2 hr_m_bad hr_n_1) lk_RX12_210 ⟨rfl, rfl⟩ ⟨Nat.le_of_ble_eq_true rfl, Nat.le_of_ble_eq_true rfl⟩ 12 rfl rfl rfl [3] [0, 1, 2] rfl rfl (by decide) rfl hl.1 rfl (lv_room (Nat.le_of_ble_eq_true rfl)) dX12_readWhen_164 ⟨Nat.le_of_ble_eq_true rfl, Nat.le_of_ble_eq_true rfl⟩ (fun u_28 H locs hw hP hD hS => ?_)
        obtain ⟨n_25, n_26⟩ := u_28
        try dsimp only at hw
        obtain ⟨he_n_25, he_n_26, hw⟩ := hw
        have hr_n_25 := hw
        have hpost : (0 ≤ n_25.toInt ∧ n_25.toInt ≤ 9) ∧ (0 ≤ n_1.toInt ∧ n_1.toInt ≤ 4) ∧ (0 ≤ n_2.toInt ∧ n_2.toInt ≤ 900) ∧ (0 ≤ n_3.toInt ∧ n_3.toInt ≤ 900) ∧ (0 ≤ n_4.toInt ∧ n_4.toInt ≤ 9999) ∧ (0 ≤ n_5.toInt ∧ n_5.toInt ≤ 900) ∧ (zC g_20) ∧ (m_behind.toInt ≤ n_3.toInt) ∧ (0 < m_bad.toInt → 0 < n_25.toInt) ∧ (n_25.toInt ≤ 0 → n_1.toInt = 0 ∨ m_behind.toInt < n_3.toInt) := ⟨(z_rgw hr_n_25 (by decide) (by decide)), hr_n_1, hr_n_2, hr_n_3, hr_n_4, hr_n_5, hC_g_20, (by omega), (by omega), (by omega)⟩
        have hX_30 : F_r_readWhen m_textEnd m_bad m_badAt m_behind m_number m_letters m_word g_tape g_c g_words w = ((n_25, n_26, n_1, n_2, n_3, n_4, n_5, n_6, g_20) : Int32 × Int32 × Int32 × Int32 × Int32 × Int32 × Int32 × Int64 × (Nat → Int32)) := by
          refine (F_r_readWhen_s ..).trans ?_
          extract_lets -merge -useContext +onlyGivenNames w9 y0_0 y0_1 y0_2 y0_3 y0_4 y0_5; have e9 : (n_1, n_2, n_3, n_4, n_5, n_6) = w9 := ((z_tS he_n_1 (z_tS he_n_2 (z_tS he_n_3 (z_tS he_n_4 (z_tS he_n_5 he_n_6.symm)))))).symm; clear_value w9; subst e9
          extract_lets -merge -useContext +onlyGivenNames w9 y9; have e9 : (0 : Int32) = w9 := he_r_12; clear_value w9; subst e9
          refine (if_pos rfl).trans ?_
          extract_lets -merge -useContext +onlyGivenNames w9 y9; have e9 : (0 : Int32) = w9 := he_r_16; clear_value w9; subst e9
          refine (if_pos rfl).trans ?_
          try (extract_lets -merge -useContext +onlyGivenNames y9; have e9 : g_20 = y9 := (by first | exact hg_g_20 | exact hg_g_20.symm); clear_value y9; subst e9)
          extract_lets -merge -useContext +onlyGivenNames w9 y9; have e9 : (0 : Int32) = w9 := he_r_21; clear_value w9; subst e9
          refine (if_pos rfl).trans ?_
          extract_lets -merge -useContext +onlyGivenNames w9 y8_0 y8_1; have e9 : (n_25, n_26) = w9 := ((z_tS he_n_25 he_n_26.symm)).symm; clear_value w9; subst e9
          exact rfl
        exact hret _ _ _ _ _ (n_25, n_26, n_1, n_2, n_3, n_4, n_5, n_6, g_20) [3, 2, 0, 1] hP hD hS rfl (by decide) dX12_readWhen_167 ⟨(congrArg (fun z9 => z9.1) hX_30).symm, (congrArg (fun z9 => z9.2.1) hX_30).symm, (congrArg (fun z9 => z9.2.2.1) hX_30).symm, (congrArg (fun z9 => z9.2.2.2.1) hX_30).symm, (congrArg (fun z9 => z9.2.2.2.2.1) hX_30).symm, (congrArg (fun z9 => z9.2.2.2.2.2.1) hX_30).symm, (congrArg (fun z9 => z9.2.2.2.2.2.2.1) hX_30).symm, (congrArg (fun z9 => z9.2.2.2.2.2.2.2.1) hX_30).symm, (congrArg (fun z9 => z9.2.2.2.2.2.2.2.2) hX_30).symm, hpost⟩
      · skip
        refine z_callVv (As := [.int 1]) (rest := []) (wr := [(a_c, .inl (cA.1 0, 1825, .inl g_20)), (a_words, .inl (cA.1 1, 105, .inr (.inl g_words)))]) ⟨hx, hb, hml, hown, hts⟩ hK hE hT hP hD hS hA (r_must_1 l G cA h0 m_status m_thrown m_above m_under a_traySort a_trayMany a_numbers a_tape m_taped m_textEnd m_faultKind m_faultAt m_bad m_badAt n_1 n_2 n_3 n_4 n_5 n_6 a_c a_words m_markMany a_there a_tried a_best a_found m_thereMany m_foundMany m_orderHow m_orderRing m_orderMany m_hasBest m_bestTop m_bestBy a_weights a_shared m_random m_truePlace m_trueWay m_seconds m_done m_feelings m_tries m_leftOver m_playDoor m_playRing m_isOpen m_isOver m_wasTried m_hasPlayed a_feltNow a_last a_kept m_hasSeconds m_hasTurned m_hasRound a_hasFeels a_isOn m_firstAct m_meanTop m_meanBy a_order m_rowMany m_newSteps g_tape hr_m_textEnd hr_n_2 hr_n_3 hr_m_bad hr_n_1 hr_n_4 hr_n_5) lk_RX12_210 ⟨rfl, rfl⟩ ⟨Nat.le_of_ble_eq_true rfl, Nat.le_of_ble_eq_true rfl⟩ 12 rfl rfl rfl [3, 2] [0, 1] rfl rfl (by decide) rfl hl.1 rfl (lv_room (Nat.le_of_ble_eq_true rfl)) dX12_readWhen_164 ⟨Nat.le_of_ble_eq_true rfl, Nat.le_of_ble_eq_true rfl⟩ (fun u_38 H locs hw hP hD hS => ?_)
        obtain ⟨n_31, n_32, n_33, n_34, n_35, n_36⟩ := u_38
        try dsimp only at hw
        obtain ⟨he_n_31, he_n_32, he_n_33, he_n_34, he_n_35, he_n_36, hw⟩ := hw
        obtain ⟨hr_n_31, hr_n_32, hr_n_33, hr_n_34, hr_n_35, hf_40, hf_41, hf_42⟩ := hw
        have hpost : (0 ≤ m_bad.toInt ∧ m_bad.toInt ≤ 9) ∧ (0 ≤ n_31.toInt ∧ n_31.toInt ≤ 4) ∧ (0 ≤ n_32.toInt ∧ n_32.toInt ≤ 900) ∧ (0 ≤ n_33.toInt ∧ n_33.toInt ≤ 900) ∧ (0 ≤ n_34.toInt ∧ n_34.toInt ≤ 9999) ∧ (0 ≤ n_35.toInt ∧ n_35.toInt ≤ 900) ∧ (zC g_20) ∧ (m_behind.toInt ≤ n_33.toInt) ∧ (0 < m_bad.toInt → 0 < m_bad.toInt) ∧ (m_bad.toInt ≤ 0 → n_31.toInt = 0 ∨ m_behind.toInt < n_33.toInt) := ⟨hr_m_bad, hr_n_31, hr_n_32, hr_n_33, hr_n_34, hr_n_35, hC_g_20, (by omega), (by omega), (by omega)⟩
        have hX_43 : F_r_readWhen m_textEnd m_bad m_badAt m_behind m_number m_letters m_word g_tape g_c g_words w = ((m_bad, m_badAt, n_31, n_32, n_33, n_34, n_35, n_36, g_20) : Int32 × Int32 × Int32 × Int32 × Int32 × Int32 × Int32 × Int64 × (Nat → Int32)) := by
          refine (F_r_readWhen_s ..).trans ?_
          extract_lets -merge -useContext +onlyGivenNames w9 y0_0 y0_1 y0_2 y0_3 y0_4 y0_5; have e9 : (n_1, n_2, n_3, n_4, n_5, n_6) = w9 := ((z_tS he_n_1 (z_tS he_n_2 (z_tS he_n_3 (z_tS he_n_4 (z_tS he_n_5 he_n_6.symm)))))).symm; clear_value w9; subst e9
          extract_lets -merge -useContext +onlyGivenNames w9 y9; have e9 : (0 : Int32) = w9 := he_r_12; clear_value w9; subst e9
          refine (if_pos rfl).trans ?_
          extract_lets -merge -useContext +onlyGivenNames w9 y9; have e9 : (0 : Int32) = w9 := he_r_16; clear_value w9; subst e9
          refine (if_pos rfl).trans ?_
          try (extract_lets -merge -useContext +onlyGivenNames y9; have e9 : g_20 = y9 := (by first | exact hg_g_20 | exact hg_g_20.symm); clear_value y9; subst e9)
          extract_lets -merge -useContext +onlyGivenNames w9 y9; have e9 : (1 : Int32) = w9 := he_r_21; clear_value w9; subst e9
          refine (if_neg (show ¬ (1 : Int32) = 0 by decide)).trans ?_
          extract_lets -merge -useContext +onlyGivenNames w9 y8_0 y8_1 y8_2 y8_3 y8_4 y8_5; have e9 : (n_31, n_32, n_33, n_34, n_35, n_36) = w9 := ((z_tS he_n_31 (z_tS he_n_32 (z_tS he_n_33 (z_tS he_n_34 (z_tS he_n_35 he_n_36.symm)))))).symm; clear_value w9; subst e9
          exact rfl
        exact hret _ _ _ _ _ (m_bad, m_badAt, n_31, n_32, n_33, n_34, n_35, n_36, g_20) [2, 3, 0, 1] hP hD hS rfl (by decide) dX12_readWhen_167 ⟨(congrArg (fun z9 => z9.1) hX_43).symm, (congrArg (fun z9 => z9.2.1) hX_43).symm, (congrArg (fun z9 => z9.2.2.1) hX_43).symm, (congrArg (fun z9 => z9.2.2.2.1) hX_43).symm, (congrArg (fun z9 => z9.2.2.2.2.1) hX_43).symm, (congrArg (fun z9 => z9.2.2.2.2.2.1) hX_43).symm, (congrArg (fun z9 => z9.2.2.2.2.2.2.1) hX_43).symm, (congrArg (fun z9 => z9.2.2.2.2.2.2.2.1) hX_43).symm, (congrArg (fun z9 => z9.2.2.2.2.2.2.2.2) hX_43).symm, hpost⟩
    · skip
      refine lv_if_eq (tgt := 151) hx hb dX12_readWhen_118 (by decide) (fun h9 => absurd h9 (by decide +kernel)) (fun _ => ?_)
      refine lv_aload_n hx hb dX12_readWhen_121 rfl (lv_at hl 0 rfl) ?_
      refine z_callVv (As := []) (rest := []) (wr := [(a_c, .inl (cA.1 0, 1825, .inl g_c)), (a_words, .inl (cA.1 1, 105, .inr (.inl g_words)))]) ⟨hx, hb, hml, hown, hts⟩ hK hE hT hP hD hS hA (r_next2 l G cA h0 m_status m_thrown m_above m_under a_traySort a_trayMany a_numbers a_tape m_taped m_textEnd m_faultKind m_faultAt m_bad m_badAt n_1 n_2 n_3 n_4 n_5 n_6 a_c a_words m_markMany a_there a_tried a_best a_found m_thereMany m_foundMany m_orderHow m_orderRing m_orderMany m_hasBest m_bestTop m_bestBy a_weights a_shared m_random m_truePlace m_trueWay m_seconds m_done m_feelings m_tries m_leftOver m_playDoor m_playRing m_isOpen m_isOver m_wasTried m_hasPlayed a_feltNow a_last a_kept m_hasSeconds m_hasTurned m_hasRound a_hasFeels a_isOn m_firstAct m_meanTop m_meanBy a_order m_rowMany m_newSteps g_tape hr_m_textEnd hr_n_2 hr_n_3 hr_n_1 hr_n_4 hr_n_5) lk_RX12_184 ⟨rfl, rfl⟩ ⟨Nat.le_of_ble_eq_true rfl, Nat.le_of_ble_eq_true rfl⟩ 12 rfl rfl rfl [3, 2] [0, 1] rfl rfl (by decide) rfl hl.1 rfl (lv_room (Nat.le_of_ble_eq_true rfl)) dX12_readWhen_122 ⟨Nat.le_of_ble_eq_true rfl, Nat.le_of_ble_eq_true rfl⟩ (fun u_51 H locs hw hP hD hS => ?_)
      obtain ⟨n_44, n_45, n_46, n_47, n_48, n_49⟩ := u_51
      try dsimp only at hw
      obtain ⟨he_n_44, he_n_45, he_n_46, he_n_47, he_n_48, he_n_49, hw⟩ := hw
      obtain ⟨hr_n_44, hr_n_45, hr_n_46, hr_n_47, hr_n_48, hf_53, hf_54⟩ := hw
      refine lv_aload_n hx hb dX12_readWhen_125 rfl (lv_at hl 0 rfl) ?_
      refine va_get (D := G) (ci := 12) (v := .ref a_c) (C := RX12) (T := TX12) (N := 65) hx hb hts inT12 hown hK hP 2 rfl rfl 20 (by decide) (hts _ tw_1905) (fun _ h9 => h9) rfl dX12_readWhen_126 ?_
      refine lv_iload_n hx hb dX12_readWhen_129 rfl (lv_at hl 1 rfl) ?_
      refine lv_bipush (v := 7) hx hb dX12_readWhen_130 (by decide) ?_
      refine z_iast hx hb hK hP hD hS 0 0 rfl rfl (z_inN (by omega) (by omega)) dX12_readWhen_132 (fun g_55 hg_g_55 H locs hP hD hS => ?_)
      have hC_g_55 := z_ctUs hC_g_c hg_g_55 (a := 1641) (b := 1815) (M := 6) (q := 3) (lo := (-2147483648)) (hi := 2147483647) (by decide +kernel) (by decide +kernel) (by omega) (by omega) (by omega) (z_full _)
      refine lv_aload_n hx hb dX12_readWhen_133 rfl (lv_at hl 0 rfl) ?_
      refine va_get (D := G) (ci := 12) (v := .ref a_c) (C := RX12) (T := TX12) (N := 65) hx hb hts inT12 hown hK hP 2 rfl rfl 20 (by decide) (hts _ tw_1905) (fun _ h9 => h9) rfl dX12_readWhen_134 ?_
      refine lv_iload_n hx hb dX12_readWhen_137 rfl (lv_at hl 1 rfl) ?_
      refine lv_iconst (v := 3) hx hb dX12_readWhen_138 (by decide) ?_
      refine lv_iadd hx hb dX12_readWhen_139 ?_
      refine lv_topi (fun x_56 he_x_56 => ?_)
      have hq_x_56 := z_addq he_x_56 (rfl : w.toInt = _) hk_3 (by omega) (by omega)
      refine lv_aload_n hx hb dX12_readWhen_140 rfl (lv_at hl 0 rfl) ?_
      refine lv_iconst (v := 0) hx hb dX12_readWhen_141 (by decide) ?_
      refine lv_bipush (v := 16) hx hb dX12_readWhen_142 (by decide) ?_
      refine z_callVi (As := [.int 0, .int 16]) (rest := [.int x_56, .ref a_c]) (wr := [(a_c, .inl (cA.1 0, 1825, .inl g_55)), (a_words, .inl (cA.1 1, 105, .inr (.inl g_words)))]) ⟨hx, hb, hml, hown, hts⟩ hK hE hT hP hD hS hA (r_count l G cA h0 m_status m_thrown m_above m_under a_traySort a_trayMany a_numbers a_tape m_taped m_textEnd m_faultKind m_faultAt m_bad m_badAt n_44 n_45 n_46 n_47 n_48 n_49 a_c a_words m_markMany a_there a_tried a_best a_found m_thereMany m_foundMany m_orderHow m_orderRing m_orderMany m_hasBest m_bestTop m_bestBy a_weights a_shared m_random m_truePlace m_trueWay m_seconds m_done m_feelings m_tries m_leftOver m_playDoor m_playRing m_isOpen m_isOver m_wasTried m_hasPlayed a_feltNow a_last a_kept m_hasSeconds m_hasTurned m_hasRound a_hasFeels a_isOn m_firstAct m_meanTop m_meanBy a_order m_rowMany m_newSteps g_tape 0 16 (by decide +kernel) (by decide +kernel) hr_m_textEnd hr_n_45 hr_n_46 hr_m_bad hr_n_44 hr_n_47 hr_n_48) lk_RX12_214 ⟨rfl, rfl⟩ ⟨Nat.le_of_ble_eq_true rfl, Nat.le_of_ble_eq_true rfl⟩ 12 rfl rfl rfl [2, 3] [0, 1] rfl rfl (by decide) rfl hl.1 rfl (lv_room (Nat.le_of_ble_eq_true rfl)) dX12_readWhen_144 ⟨Nat.le_of_ble_eq_true rfl, Nat.le_of_ble_eq_true rfl⟩ (fun r_65 u_66 H locs hw hP hD hS => ?_)
      obtain ⟨n_57, n_58, n_59, n_60, n_61, n_62, n_63, n_64⟩ := u_66
      try dsimp only at hw
      obtain ⟨he_r_65, he_n_57, he_n_58, he_n_59, he_n_60, he_n_61, he_n_62, he_n_63, he_n_64, hw⟩ := hw
      obtain ⟨hr_r_65, hr_n_57, hr_n_59, hr_n_60, hr_n_61, hr_n_62, hr_n_63, hf_68, hf_69, hf_70, hf_71, hf_72, hf_73⟩ := hw
      refine z_iast hx hb hK hP hD hS 0 0 rfl rfl (z_inN (by omega) (by omega)) dX12_readWhen_147 (fun g_74 hg_g_74 H locs hP hD hS => ?_)
      have hC_g_74 := z_ctUs hC_g_55 hg_g_74 (a := 1644) (b := 1818) (M := 6) (q := 0) (lo := (-2147483648)) (hi := 2147483647) (by decide +kernel) (by decide +kernel) (by omega) (by omega) (by omega) (z_full _)
      refine lv_goto (tgt := 167) hx hb dX12_readWhen_148 (by decide) ?_
      have hpost : (0 ≤ n_57.toInt ∧ n_57.toInt ≤ 9) ∧ (0 ≤ n_59.toInt ∧ n_59.toInt ≤ 4) ∧ (0 ≤ n_60.toInt ∧ n_60.toInt ≤ 900) ∧ (0 ≤ n_61.toInt ∧ n_61.toInt ≤ 900) ∧ (0 ≤ n_62.toInt ∧ n_62.toInt ≤ 9999) ∧ (0 ≤ n_63.toInt ∧ n_63.toInt ≤ 900) ∧ (zC g_74) ∧ (m_behind.toInt ≤ n_61.toInt) ∧ (0 < m_bad.toInt → 0 < n_57.toInt) ∧ (n_57.toInt ≤ 0 → n_59.toInt = 0 ∨ m_behind.toInt < n_61.toInt) := ⟨hr_n_57, hr_n_59, hr_n_60, hr_n_61, hr_n_62, hr_n_63, hC_g_74, (by omega), (by omega), (by omega)⟩
      have hX_75 : F_r_readWhen m_textEnd m_bad m_badAt m_behind m_number m_letters m_word g_tape g_c g_words w = ((n_57, n_58, n_59, n_60, n_61, n_62, n_63, n_64, g_74) : Int32 × Int32 × Int32 × Int32 × Int32 × Int32 × Int32 × Int64 × (Nat → Int32)) := by
        refine (F_r_readWhen_s ..).trans ?_
        extract_lets -merge -useContext +onlyGivenNames w9 y0_0 y0_1 y0_2 y0_3 y0_4 y0_5; have e9 : (n_1, n_2, n_3, n_4, n_5, n_6) = w9 := ((z_tS he_n_1 (z_tS he_n_2 (z_tS he_n_3 (z_tS he_n_4 (z_tS he_n_5 he_n_6.symm)))))).symm; clear_value w9; subst e9
        extract_lets -merge -useContext +onlyGivenNames w9 y9; have e9 : (0 : Int32) = w9 := he_r_12; clear_value w9; subst e9
        refine (if_pos rfl).trans ?_
        extract_lets -merge -useContext +onlyGivenNames w9 y9; have e9 : (1 : Int32) = w9 := he_r_16; clear_value w9; subst e9
        refine (if_neg (show ¬ (1 : Int32) = 0 by decide)).trans ?_
        extract_lets -merge -useContext +onlyGivenNames w9 y5_0 y5_1 y5_2 y5_3 y5_4 y5_5; have e9 : (n_44, n_45, n_46, n_47, n_48, n_49) = w9 := ((z_tS he_n_44 (z_tS he_n_45 (z_tS he_n_46 (z_tS he_n_47 (z_tS he_n_48 he_n_49.symm)))))).symm; clear_value w9; subst e9
        try (extract_lets -merge -useContext +onlyGivenNames y9; have e9 : g_55 = y9 := (by first | exact hg_g_55 | exact hg_g_55.symm); clear_value y9; subst e9)
        try (extract_lets -merge -useContext +onlyGivenNames y9; have e9 : x_56 = y9 := (by first | exact he_x_56 | exact he_x_56.symm); clear_value y9; subst e9)
        extract_lets -merge -useContext +onlyGivenNames w9 y8_0 y8_1 y8_2 y8_3 y8_4 y8_5 y8_6 y8_7 y8_8; have e9 : (r_65, n_57, n_58, n_59, n_60, n_61, n_62, n_63, n_64) = w9 := ((z_tS he_r_65 (z_tS he_n_57 (z_tS he_n_58 (z_tS he_n_59 (z_tS he_n_60 (z_tS he_n_61 (z_tS he_n_62 (z_tS he_n_63 he_n_64.symm))))))))).symm; clear_value w9; subst e9
        try (extract_lets -merge -useContext +onlyGivenNames y9; have e9 : g_74 = y9 := (by first | exact hg_g_74 | exact hg_g_74.symm); clear_value y9; subst e9)
        exact rfl
      exact hret _ _ _ _ _ (n_57, n_58, n_59, n_60, n_61, n_62, n_63, n_64, g_74) [2, 3, 0, 1] hP hD hS rfl (by decide) dX12_readWhen_167 ⟨(congrArg (fun z9 => z9.1) hX_75).symm, (congrArg (fun z9 => z9.2.1) hX_75).symm, (congrArg (fun z9 => z9.2.2.1) hX_75).symm, (congrArg (fun z9 => z9.2.2.2.1) hX_75).symm, (congrArg (fun z9 => z9.2.2.2.2.1) hX_75).symm, (congrArg (fun z9 => z9.2.2.2.2.2.1) hX_75).symm, (congrArg (fun z9 => z9.2.2.2.2.2.2.1) hX_75).symm, (congrArg (fun z9 => z9.2.2.2.2.2.2.2.1) hX_75).symm, (congrArg (fun z9 => z9.2.2.2.2.2.2.2.2) hX_75).symm, hpost⟩
  · skip
    refine lv_if_eq (tgt := 114) hx hb dX12_readWhen_8 (by decide) (fun h9 => absurd h9 (by decide +kernel)) (fun _ => ?_)
    refine lv_aload_n hx hb dX12_readWhen_11 rfl (lv_at hl 0 rfl) ?_
    refine z_callVv (As := []) (rest := []) (wr := [(a_c, .inl (cA.1 0, 1825, .inl g_c)), (a_words, .inl (cA.1 1, 105, .inr (.inl g_words)))]) ⟨hx, hb, hml, hown, hts⟩ hK hE hT hP hD hS hA (r_next2 l G cA h0 m_status m_thrown m_above m_under a_traySort a_trayMany a_numbers a_tape m_taped m_textEnd m_faultKind m_faultAt m_bad m_badAt n_1 n_2 n_3 n_4 n_5 n_6 a_c a_words m_markMany a_there a_tried a_best a_found m_thereMany m_foundMany m_orderHow m_orderRing m_orderMany m_hasBest m_bestTop m_bestBy a_weights a_shared m_random m_truePlace m_trueWay m_seconds m_done m_feelings m_tries m_leftOver m_playDoor m_playRing m_isOpen m_isOver m_wasTried m_hasPlayed a_feltNow a_last a_kept m_hasSeconds m_hasTurned m_hasRound a_hasFeels a_isOn m_firstAct m_meanTop m_meanBy a_order m_rowMany m_newSteps g_tape hr_m_textEnd hr_n_2 hr_n_3 hr_n_1 hr_n_4 hr_n_5) lk_RX12_184 ⟨rfl, rfl⟩ ⟨Nat.le_of_ble_eq_true rfl, Nat.le_of_ble_eq_true rfl⟩ 12 rfl rfl rfl [3, 2] [0, 1] rfl rfl (by decide) rfl hl.1 rfl (lv_room (Nat.le_of_ble_eq_true rfl)) dX12_readWhen_12 ⟨Nat.le_of_ble_eq_true rfl, Nat.le_of_ble_eq_true rfl⟩ (fun u_83 H locs hw hP hD hS => ?_)
    obtain ⟨n_76, n_77, n_78, n_79, n_80, n_81⟩ := u_83
    try dsimp only at hw
    obtain ⟨he_n_76, he_n_77, he_n_78, he_n_79, he_n_80, he_n_81, hw⟩ := hw
    obtain ⟨hr_n_76, hr_n_77, hr_n_78, hr_n_79, hr_n_80, hf_85, hf_86⟩ := hw
    refine lv_aload_n hx hb dX12_readWhen_15 rfl (lv_at hl 0 rfl) ?_
    refine va_get (D := G) (ci := 12) (v := .ref a_c) (C := RX12) (T := TX12) (N := 65) hx hb hts inT12 hown hK hP 2 rfl rfl 20 (by decide) (hts _ tw_1905) (fun _ h9 => h9) rfl dX12_readWhen_16 ?_
    refine lv_iload_n hx hb dX12_readWhen_19 rfl (lv_at hl 1 rfl) ?_
    refine lv_bipush (v := 6) hx hb dX12_readWhen_20 (by decide) ?_
    refine z_iast hx hb hK hP hD hS 0 0 rfl rfl (z_inN (by omega) (by omega)) dX12_readWhen_22 (fun g_87 hg_g_87 H locs hP hD hS => ?_)
    have hC_g_87 := z_ctUs hC_g_c hg_g_87 (a := 1641) (b := 1815) (M := 6) (q := 3) (lo := (-2147483648)) (hi := 2147483647) (by decide +kernel) (by decide +kernel) (by omega) (by omega) (by omega) (z_full _)
    refine lv_aload_n hx hb dX12_readWhen_23 rfl (lv_at hl 0 rfl) ?_
    refine va_get (D := G) (ci := 12) (v := .ref a_c) (C := RX12) (T := TX12) (N := 65) hx hb hts inT12 hown hK hP 2 rfl rfl 20 (by decide) (hts _ tw_1905) (fun _ h9 => h9) rfl dX12_readWhen_24 ?_
    refine lv_iload_n hx hb dX12_readWhen_27 rfl (lv_at hl 1 rfl) ?_
    refine lv_iconst (v := 1) hx hb dX12_readWhen_28 (by decide) ?_
    refine lv_iadd hx hb dX12_readWhen_29 ?_
    refine lv_topi (fun x_88 he_x_88 => ?_)
    have hq_x_88 := z_addq he_x_88 (rfl : w.toInt = _) hk_1 (by omega) (by omega)
    refine lv_aload_n hx hb dX12_readWhen_30 rfl (lv_at hl 0 rfl) ?_
    refine z_callVi (As := []) (rest := [.int x_88, .ref a_c]) (wr := []) ⟨hx, hb, hml, hown, hts⟩ hK hE hT hP hD hS hA (r_readFeatureName l G cA h0 m_status m_thrown m_above m_under a_traySort a_trayMany a_numbers a_tape m_taped m_textEnd m_faultKind m_faultAt m_bad m_badAt n_76 n_77 n_78 n_79 n_80 n_81 a_c a_words m_markMany a_there a_tried a_best a_found m_thereMany m_foundMany m_orderHow m_orderRing m_orderMany m_hasBest m_bestTop m_bestBy a_weights a_shared m_random m_truePlace m_trueWay m_seconds m_done m_feelings m_tries m_leftOver m_playDoor m_playRing m_isOpen m_isOver m_wasTried m_hasPlayed a_feltNow a_last a_kept m_hasSeconds m_hasTurned m_hasRound a_hasFeels a_isOn m_firstAct m_meanTop m_meanBy a_order m_rowMany m_newSteps g_tape g_87 g_words hr_m_textEnd hr_n_77 hr_n_78 hr_m_bad hr_n_76 hr_n_79 hr_n_80 hC_g_87) lk_RX12_491 ⟨rfl, rfl⟩ ⟨Nat.le_of_ble_eq_true rfl, Nat.le_of_ble_eq_true rfl⟩ 12 rfl rfl rfl [2, 3, 0, 1] [] rfl rfl (by decide) rfl hl.1 rfl (lv_room (Nat.le_of_ble_eq_true rfl)) dX12_readWhen_31 ⟨Nat.le_of_ble_eq_true rfl, Nat.le_of_ble_eq_true rfl⟩ (fun r_97 u_98 H locs hw hP hD hS => ?_)
    obtain ⟨n_89, n_90, n_91, n_92, n_93, n_94, n_95, n_96⟩ := u_98
    try dsimp only at hw
    obtain ⟨he_r_97, he_n_89, he_n_90, he_n_91, he_n_92, he_n_93, he_n_94, he_n_95, he_n_96, hw⟩ := hw
    obtain ⟨hr_r_97, hr_n_89, hr_n_90, hr_n_91, hr_n_92, hr_n_93, hr_n_95, hf_100, hf_101, hf_102⟩ := hw
    refine z_iast hx hb hK hP hD hS 2 0 rfl rfl (z_inN (by omega) (by omega)) dX12_readWhen_34 (fun g_103 hg_g_103 H locs hP hD hS => ?_)
    have hC_g_103 := z_ctUs hC_g_87 hg_g_103 (a := 1642) (b := 1816) (M := 6) (q := 4) (lo := (-2147483648)) (hi := 2147483647) (by decide +kernel) (by decide +kernel) (by omega) (by omega) (by omega) (z_full _)
    refine lv_aload_n hx hb dX12_readWhen_35 rfl (lv_at hl 0 rfl) ?_
    refine va_get (D := G) (ci := 12) (v := .int n_89) (C := RX12) (T := TX12) (N := 65) hx hb hts inT12 hown hK hP 0 rfl rfl 14 (by decide) (hts _ tw_1899) (fun _ h9 => h9) rfl dX12_readWhen_36 ?_
    refine lv_iconst (v := 3) hx hb dX12_readWhen_39 (by decide) ?_
    refine lv_icmp_ne (tgt := 50) hx hb dX12_readWhen_40 (by decide) (fun c_104 => ?_) (fun c_104 => ?_)
    · have b_105 := z_fneT c_104
      refine lv_iconst (v := 0) hx hb dX12_readWhen_50 (by decide) ?_
      refine lv_istore_n (lv' := [(2, .int 0), (0, .ref h0), (1, .int w)]) hx hb dX12_readWhen_51 rfl hl (by decide) rfl (fun ls hl => ?_)
      refine lv_aload_n hx hb dX12_readWhen_52 rfl (lv_at hl 1 rfl) ?_
      refine lv_aload_n hx hb dX12_readWhen_53 rfl (lv_at hl 1 rfl) ?_
      refine lv_bipush (v := 60) hx hb dX12_readWhen_54 (by decide) ?_
      refine z_callVi (As := [.int 60]) (rest := [.ref h0]) (wr := [(a_tape, .inl (cA.1 2, 900, .inl g_tape)), (a_c, .inl (cA.1 0, 1825, .inl g_103)), (a_words, .inl (cA.1 1, 105, .inr (.inl g_words)))]) ⟨hx, hb, hml, hown, hts⟩ hK hE hT hP hD hS hA (r_isSign l G cA h0 m_status m_thrown m_above m_under a_traySort a_trayMany a_numbers a_tape m_taped m_textEnd m_faultKind m_faultAt n_95 n_96 n_89 n_90 n_91 n_92 n_93 n_94 a_c a_words m_markMany a_there a_tried a_best a_found m_thereMany m_foundMany m_orderHow m_orderRing m_orderMany m_hasBest m_bestTop m_bestBy a_weights a_shared m_random m_truePlace m_trueWay m_seconds m_done m_feelings m_tries m_leftOver m_playDoor m_playRing m_isOpen m_isOver m_wasTried m_hasPlayed a_feltNow a_last a_kept m_hasSeconds m_hasTurned m_hasRound a_hasFeels a_isOn m_firstAct m_meanTop m_meanBy a_order m_rowMany m_newSteps 60 hr_n_89 hr_n_92) lk_RX12_220 ⟨rfl, rfl⟩ ⟨Nat.le_of_ble_eq_true rfl, Nat.le_of_ble_eq_true rfl⟩ 12 rfl rfl rfl [0] [1, 2, 3] rfl rfl (by decide) rfl hl.1 rfl (lv_room (Nat.le_of_ble_eq_true rfl)) dX12_readWhen_56 ⟨Nat.le_of_ble_eq_true rfl, Nat.le_of_ble_eq_true rfl⟩ (fun r_106 u_107 H locs hw hP hD hS => ?_)
      obtain ⟨he_r_106, hw⟩ := hw
      rcases hw with ⟨rfl, hf_109⟩ | ⟨rfl, hf_110⟩
      · skip
        refine lv_if_ne (tgt := 80) hx hb dX12_readWhen_59 (by decide) (fun h9 => absurd (by decide +kernel) h9) (fun _ => ?_)
        refine lv_aload_n hx hb dX12_readWhen_62 rfl (lv_at hl 1 rfl) ?_
        refine lv_bipush (v := 62) hx hb dX12_readWhen_63 (by decide) ?_
        refine z_callVi (As := [.int 62]) (rest := [.ref h0]) (wr := [(a_tape, .inl (cA.1 2, 900, .inl g_tape)), (a_c, .inl (cA.1 0, 1825, .inl g_103)), (a_words, .inl (cA.1 1, 105, .inr (.inl g_words)))]) ⟨hx, hb, hml, hown, hts⟩ hK hE hT hP hD hS hA (r_isSign l G cA h0 m_status m_thrown m_above m_under a_traySort a_trayMany a_numbers a_tape m_taped m_textEnd m_faultKind m_faultAt n_95 n_96 n_89 n_90 n_91 n_92 n_93 n_94 a_c a_words m_markMany a_there a_tried a_best a_found m_thereMany m_foundMany m_orderHow m_orderRing m_orderMany m_hasBest m_bestTop m_bestBy a_weights a_shared m_random m_truePlace m_trueWay m_seconds m_done m_feelings m_tries m_leftOver m_playDoor m_playRing m_isOpen m_isOver m_wasTried m_hasPlayed a_feltNow a_last a_kept m_hasSeconds m_hasTurned m_hasRound a_hasFeels a_isOn m_firstAct m_meanTop m_meanBy a_order m_rowMany m_newSteps 62 hr_n_89 hr_n_92) lk_RX12_220 ⟨rfl, rfl⟩ ⟨Nat.le_of_ble_eq_true rfl, Nat.le_of_ble_eq_true rfl⟩ 12 rfl rfl rfl [3] [0, 1, 2] rfl rfl (by decide) rfl hl.1 rfl (lv_room (Nat.le_of_ble_eq_true rfl)) dX12_readWhen_65 ⟨Nat.le_of_ble_eq_true rfl, Nat.le_of_ble_eq_true rfl⟩ (fun r_111 u_112 H locs hw hP hD hS => ?_)
        obtain ⟨he_r_111, hw⟩ := hw
        rcases hw with ⟨rfl, hf_114⟩ | ⟨rfl, hf_115⟩
        · skip
          refine lv_if_ne (tgt := 80) hx hb dX12_readWhen_68 (by decide) (fun h9 => absurd (by decide +kernel) h9) (fun _ => ?_)
          refine lv_aload_n hx hb dX12_readWhen_71 rfl (lv_at hl 1 rfl) ?_
          refine lv_bipush (v := 61) hx hb dX12_readWhen_72 (by decide) ?_
          refine z_callVi (As := [.int 61]) (rest := [.ref h0]) (wr := [(a_tape, .inl (cA.1 2, 900, .inl g_tape)), (a_c, .inl (cA.1 0, 1825, .inl g_103)), (a_words, .inl (cA.1 1, 105, .inr (.inl g_words)))]) ⟨hx, hb, hml, hown, hts⟩ hK hE hT hP hD hS hA (r_isSign l G cA h0 m_status m_thrown m_above m_under a_traySort a_trayMany a_numbers a_tape m_taped m_textEnd m_faultKind m_faultAt n_95 n_96 n_89 n_90 n_91 n_92 n_93 n_94 a_c a_words m_markMany a_there a_tried a_best a_found m_thereMany m_foundMany m_orderHow m_orderRing m_orderMany m_hasBest m_bestTop m_bestBy a_weights a_shared m_random m_truePlace m_trueWay m_seconds m_done m_feelings m_tries m_leftOver m_playDoor m_playRing m_isOpen m_isOver m_wasTried m_hasPlayed a_feltNow a_last a_kept m_hasSeconds m_hasTurned m_hasRound a_hasFeels a_isOn m_firstAct m_meanTop m_meanBy a_order m_rowMany m_newSteps 61 hr_n_89 hr_n_92) lk_RX12_220 ⟨rfl, rfl⟩ ⟨Nat.le_of_ble_eq_true rfl, Nat.le_of_ble_eq_true rfl⟩ 12 rfl rfl rfl [3] [0, 1, 2] rfl rfl (by decide) rfl hl.1 rfl (lv_room (Nat.le_of_ble_eq_true rfl)) dX12_readWhen_74 ⟨Nat.le_of_ble_eq_true rfl, Nat.le_of_ble_eq_true rfl⟩ (fun r_116 u_117 H locs hw hP hD hS => ?_)
          obtain ⟨he_r_116, hw⟩ := hw
          rcases hw with ⟨rfl, hf_119⟩ | ⟨rfl, hf_120⟩
          · skip
            refine lv_if_eq (tgt := 84) hx hb dX12_readWhen_77 (by decide) (fun _ => ?_) (fun h9 => absurd (by decide +kernel) h9)
            refine lv_iconst (v := 0) hx hb dX12_readWhen_84 (by decide) ?_
            refine z_callVv (As := [.int 0]) (rest := []) (wr := [(a_tape, .inl (cA.1 2, 900, .inl g_tape)), (a_c, .inl (cA.1 0, 1825, .inl g_103)), (a_words, .inl (cA.1 1, 105, .inr (.inl g_words)))]) ⟨hx, hb, hml, hown, hts⟩ hK hE hT hP hD hS hA (r_must_0 l G cA h0 m_status m_thrown m_above m_under a_traySort a_trayMany a_numbers a_tape m_taped m_textEnd m_faultKind m_faultAt n_95 n_96 n_89 n_90 n_91 n_92 n_93 n_94 a_c a_words m_markMany a_there a_tried a_best a_found m_thereMany m_foundMany m_orderHow m_orderRing m_orderMany m_hasBest m_bestTop m_bestBy a_weights a_shared m_random m_truePlace m_trueWay m_seconds m_done m_feelings m_tries m_leftOver m_playDoor m_playRing m_isOpen m_isOver m_wasTried m_hasPlayed a_feltNow a_last a_kept m_hasSeconds m_hasTurned m_hasRound a_hasFeels a_isOn m_firstAct m_meanTop m_meanBy a_order m_rowMany m_newSteps hr_n_90 hr_n_95 hr_n_89) lk_RX12_210 ⟨rfl, rfl⟩ ⟨Nat.le_of_ble_eq_true rfl, Nat.le_of_ble_eq_true rfl⟩ 12 rfl rfl rfl [3] [0, 1, 2] rfl rfl (by decide) rfl hl.1 rfl (lv_room (Nat.le_of_ble_eq_true rfl)) dX12_readWhen_85 ⟨Nat.le_of_ble_eq_true rfl, Nat.le_of_ble_eq_true rfl⟩ (fun u_124 H locs hw hP hD hS => ?_)
            obtain ⟨n_121, n_122⟩ := u_124
            try dsimp only at hw
            obtain ⟨he_n_121, he_n_122, hw⟩ := hw
            have hr_n_121 := hw
            refine lv_aload_n hx hb dX12_readWhen_88 rfl (lv_at hl 1 rfl) ?_
            refine va_get (D := G) (ci := 12) (v := .ref a_c) (C := RX12) (T := TX12) (N := 65) hx hb hts inT12 hown hK hP 3 rfl rfl 20 (by decide) (hts _ tw_1905) (fun _ h9 => h9) rfl dX12_readWhen_89 ?_
            refine lv_iload_n hx hb dX12_readWhen_92 rfl (lv_at hl 2 rfl) ?_
            refine lv_iconst (v := 2) hx hb dX12_readWhen_93 (by decide) ?_
            refine lv_iadd hx hb dX12_readWhen_94 ?_
            refine lv_topi (fun x_126 he_x_126 => ?_)
            have hq_x_126 := z_addq he_x_126 (rfl : w.toInt = _) hk_2 (by omega) (by omega)
            refine lv_iload_n hx hb dX12_readWhen_95 rfl (lv_at hl 0 rfl) ?_
            refine z_iast hx hb hK hP hD hS 1 0 rfl rfl (z_inN (by omega) (by omega)) dX12_readWhen_96 (fun g_127 hg_g_127 H locs hP hD hS => ?_)
            have hC_g_127 := z_ctUs hC_g_103 hg_g_127 (a := 1643) (b := 1817) (M := 6) (q := 5) (lo := (-2147483648)) (hi := 2147483647) (by decide +kernel) (by decide +kernel) (by omega) (by omega) (by omega) (z_full _)
            refine lv_aload_n hx hb dX12_readWhen_97 rfl (lv_at hl 1 rfl) ?_
            refine va_get (D := G) (ci := 12) (v := .ref a_c) (C := RX12) (T := TX12) (N := 65) hx hb hts inT12 hown hK hP 3 rfl rfl 20 (by decide) (hts _ tw_1905) (fun _ h9 => h9) rfl dX12_readWhen_98 ?_
            refine lv_iload_n hx hb dX12_readWhen_101 rfl (lv_at hl 2 rfl) ?_
            refine lv_iconst (v := 3) hx hb dX12_readWhen_102 (by decide) ?_
            refine lv_iadd hx hb dX12_readWhen_103 ?_
            refine lv_topi (fun x_128 he_x_128 => ?_)
            have hq_x_128 := z_addq he_x_128 (rfl : w.toInt = _) hk_3 (by omega) (by omega)
            refine lv_aload_n hx hb dX12_readWhen_104 rfl (lv_at hl 1 rfl) ?_
            refine lv_iconst (v := 0) hx hb dX12_readWhen_105 (by decide) ?_
            refine lv_iconst (v := 3) hx hb dX12_readWhen_106 (by decide) ?_
            refine z_callVi (As := [.int 0, .int 3]) (rest := [.int x_128, .ref a_c]) (wr := [(a_c, .inl (cA.1 0, 1825, .inl g_127)), (a_words, .inl (cA.1 1, 105, .inr (.inl g_words)))]) ⟨hx, hb, hml, hown, hts⟩ hK hE hT hP hD hS hA (r_count l G cA h0 m_status m_thrown m_above m_under a_traySort a_trayMany a_numbers a_tape m_taped m_textEnd m_faultKind m_faultAt n_121 n_122 n_89 n_90 n_91 n_92 n_93 n_94 a_c a_words m_markMany a_there a_tried a_best a_found m_thereMany m_foundMany m_orderHow m_orderRing m_orderMany m_hasBest m_bestTop m_bestBy a_weights a_shared m_random m_truePlace m_trueWay m_seconds m_done m_feelings m_tries m_leftOver m_playDoor m_playRing m_isOpen m_isOver m_wasTried m_hasPlayed a_feltNow a_last a_kept m_hasSeconds m_hasTurned m_hasRound a_hasFeels a_isOn m_firstAct m_meanTop m_meanBy a_order m_rowMany m_newSteps g_tape 0 3 (by decide +kernel) (by decide +kernel) hr_m_textEnd hr_n_90 hr_n_91 (z_rgw hr_n_121 (by decide) (by decide)) hr_n_89 hr_n_92 hr_n_93) lk_RX12_214 ⟨rfl, rfl⟩ ⟨Nat.le_of_ble_eq_true rfl, Nat.le_of_ble_eq_true rfl⟩ 12 rfl rfl rfl [3, 0] [1, 2] rfl rfl (by decide) rfl hl.1 rfl (lv_room (Nat.le_of_ble_eq_true rfl)) dX12_readWhen_107 ⟨Nat.le_of_ble_eq_true rfl, Nat.le_of_ble_eq_true rfl⟩ (fun r_137 u_138 H locs hw hP hD hS => ?_)
            obtain ⟨n_129, n_130, n_131, n_132, n_133, n_134, n_135, n_136⟩ := u_138
            try dsimp only at hw
            obtain ⟨he_r_137, he_n_129, he_n_130, he_n_131, he_n_132, he_n_133, he_n_134, he_n_135, he_n_136, hw⟩ := hw
            obtain ⟨hr_r_137, hr_n_129, hr_n_131, hr_n_132, hr_n_133, hr_n_134, hr_n_135, hf_140, hf_141, hf_142, hf_143, hf_144, hf_145⟩ := hw
            refine z_iast hx hb hK hP hD hS 0 0 rfl rfl (z_inN (by omega) (by omega)) dX12_readWhen_110 (fun g_146 hg_g_146 H locs hP hD hS => ?_)
            have hC_g_146 := z_ctUs hC_g_127 hg_g_146 (a := 1644) (b := 1818) (M := 6) (q := 0) (lo := (-2147483648)) (hi := 2147483647) (by decide +kernel) (by decide +kernel) (by omega) (by omega) (by omega) (z_full _)
            refine lv_goto (tgt := 167) hx hb dX12_readWhen_111 (by decide) ?_
            have hpost : (0 ≤ n_129.toInt ∧ n_129.toInt ≤ 9) ∧ (0 ≤ n_131.toInt ∧ n_131.toInt ≤ 4) ∧ (0 ≤ n_132.toInt ∧ n_132.toInt ≤ 900) ∧ (0 ≤ n_133.toInt ∧ n_133.toInt ≤ 900) ∧ (0 ≤ n_134.toInt ∧ n_134.toInt ≤ 9999) ∧ (0 ≤ n_135.toInt ∧ n_135.toInt ≤ 900) ∧ (zC g_146) ∧ (m_behind.toInt ≤ n_133.toInt) ∧ (0 < m_bad.toInt → 0 < n_129.toInt) ∧ (n_129.toInt ≤ 0 → n_131.toInt = 0 ∨ m_behind.toInt < n_133.toInt) := ⟨hr_n_129, hr_n_131, hr_n_132, hr_n_133, hr_n_134, hr_n_135, hC_g_146, (by omega), (by omega), (by omega)⟩
            have hX_147 : F_r_readWhen m_textEnd m_bad m_badAt m_behind m_number m_letters m_word g_tape g_c g_words w = ((n_129, n_130, n_131, n_132, n_133, n_134, n_135, n_136, g_146) : Int32 × Int32 × Int32 × Int32 × Int32 × Int32 × Int32 × Int64 × (Nat → Int32)) := by
              refine (F_r_readWhen_s ..).trans ?_
              extract_lets -merge -useContext +onlyGivenNames w9 y0_0 y0_1 y0_2 y0_3 y0_4 y0_5; have e9 : (n_1, n_2, n_3, n_4, n_5, n_6) = w9 := ((z_tS he_n_1 (z_tS he_n_2 (z_tS he_n_3 (z_tS he_n_4 (z_tS he_n_5 he_n_6.symm)))))).symm; clear_value w9; subst e9
              extract_lets -merge -useContext +onlyGivenNames w9 y9; have e9 : (1 : Int32) = w9 := he_r_12; clear_value w9; subst e9
              refine (if_neg (show ¬ (1 : Int32) = 0 by decide)).trans ?_
              extract_lets -merge -useContext +onlyGivenNames w9 y3_0 y3_1 y3_2 y3_3 y3_4 y3_5; have e9 : (n_76, n_77, n_78, n_79, n_80, n_81) = w9 := ((z_tS he_n_76 (z_tS he_n_77 (z_tS he_n_78 (z_tS he_n_79 (z_tS he_n_80 he_n_81.symm)))))).symm; clear_value w9; subst e9
              try (extract_lets -merge -useContext +onlyGivenNames y9; have e9 : g_87 = y9 := (by first | exact hg_g_87 | exact hg_g_87.symm); clear_value y9; subst e9)
              try (extract_lets -merge -useContext +onlyGivenNames y9; have e9 : x_88 = y9 := (by first | exact he_x_88 | exact he_x_88.symm); clear_value y9; subst e9)
              extract_lets -merge -useContext +onlyGivenNames w9 y6_0 y6_1 y6_2 y6_3 y6_4 y6_5 y6_6 y6_7 y6_8; have e9 : (r_97, n_89, n_90, n_91, n_92, n_93, n_94, n_95, n_96) = w9 := ((z_tS he_r_97 (z_tS he_n_89 (z_tS he_n_90 (z_tS he_n_91 (z_tS he_n_92 (z_tS he_n_93 (z_tS he_n_94 (z_tS he_n_95 he_n_96.symm))))))))).symm; clear_value w9; subst e9
              try (extract_lets -merge -useContext +onlyGivenNames y9; have e9 : g_103 = y9 := (by first | exact hg_g_103 | exact hg_g_103.symm); clear_value y9; subst e9)
              refine (if_neg c_104).trans ?_
              extract_lets -merge -useContext +onlyGivenNames w9 y9; have e9 : (0 : Int32) = w9 := he_r_106; clear_value w9; subst e9
              refine (if_pos rfl).trans ?_
              extract_lets -merge -useContext +onlyGivenNames w9 y9; have e9 : (0 : Int32) = w9 := he_r_111; clear_value w9; subst e9
              refine (if_pos rfl).trans ?_
              extract_lets -merge -useContext +onlyGivenNames w9 y9; have e9 : (0 : Int32) = w9 := he_r_116; clear_value w9; subst e9
              refine (if_pos rfl).trans ?_
              extract_lets -merge -useContext +onlyGivenNames w9 y15_0 y15_1; have e9 : (n_121, n_122) = w9 := ((z_tS he_n_121 he_n_122.symm)).symm; clear_value w9; subst e9
              try (extract_lets -merge -useContext +onlyGivenNames y9; have e9 : x_126 = y9 := (by first | exact he_x_126 | exact he_x_126.symm); clear_value y9; subst e9)
              try (extract_lets -merge -useContext +onlyGivenNames y9; have e9 : g_127 = y9 := (by first | exact hg_g_127 | exact hg_g_127.symm); clear_value y9; subst e9)
              try (extract_lets -merge -useContext +onlyGivenNames y9; have e9 : x_128 = y9 := (by first | exact he_x_128 | exact he_x_128.symm); clear_value y9; subst e9)
              extract_lets -merge -useContext +onlyGivenNames w9 y19_0 y19_1 y19_2 y19_3 y19_4 y19_5 y19_6 y19_7 y19_8; have e9 : (r_137, n_129, n_130, n_131, n_132, n_133, n_134, n_135, n_136) = w9 := ((z_tS he_r_137 (z_tS he_n_129 (z_tS he_n_130 (z_tS he_n_131 (z_tS he_n_132 (z_tS he_n_133 (z_tS he_n_134 (z_tS he_n_135 he_n_136.symm))))))))).symm; clear_value w9; subst e9
              try (extract_lets -merge -useContext +onlyGivenNames y9; have e9 : g_146 = y9 := (by first | exact hg_g_146 | exact hg_g_146.symm); clear_value y9; subst e9)
              exact rfl
            exact hret _ _ _ _ _ (n_129, n_130, n_131, n_132, n_133, n_134, n_135, n_136, g_146) [2, 3, 0, 1] hP hD hS rfl (by decide) dX12_readWhen_167 ⟨(congrArg (fun z9 => z9.1) hX_147).symm, (congrArg (fun z9 => z9.2.1) hX_147).symm, (congrArg (fun z9 => z9.2.2.1) hX_147).symm, (congrArg (fun z9 => z9.2.2.2.1) hX_147).symm, (congrArg (fun z9 => z9.2.2.2.2.1) hX_147).symm, (congrArg (fun z9 => z9.2.2.2.2.2.1) hX_147).symm, (congrArg (fun z9 => z9.2.2.2.2.2.2.1) hX_147).symm, (congrArg (fun z9 => z9.2.2.2.2.2.2.2.1) hX_147).symm, (congrArg (fun z9 => z9.2.2.2.2.2.2.2.2) hX_147).symm, hpost⟩
          · skip
            refine lv_if_eq (tgt := 84) hx hb dX12_readWhen_77 (by decide) (fun h9 => absurd h9 (by decide +kernel)) (fun _ => ?_)
            refine lv_iconst (v := 1) hx hb dX12_readWhen_80 (by decide) ?_
            refine lv_goto (tgt := 85) hx hb dX12_readWhen_81 (by decide) ?_
            refine z_callVv (As := [.int 1]) (rest := []) (wr := [(a_c, .inl (cA.1 0, 1825, .inl g_103)), (a_words, .inl (cA.1 1, 105, .inr (.inl g_words)))]) ⟨hx, hb, hml, hown, hts⟩ hK hE hT hP hD hS hA (r_must_1 l G cA h0 m_status m_thrown m_above m_under a_traySort a_trayMany a_numbers a_tape m_taped m_textEnd m_faultKind m_faultAt n_95 n_96 n_89 n_90 n_91 n_92 n_93 n_94 a_c a_words m_markMany a_there a_tried a_best a_found m_thereMany m_foundMany m_orderHow m_orderRing m_orderMany m_hasBest m_bestTop m_bestBy a_weights a_shared m_random m_truePlace m_trueWay m_seconds m_done m_feelings m_tries m_leftOver m_playDoor m_playRing m_isOpen m_isOver m_wasTried m_hasPlayed a_feltNow a_last a_kept m_hasSeconds m_hasTurned m_hasRound a_hasFeels a_isOn m_firstAct m_meanTop m_meanBy a_order m_rowMany m_newSteps g_tape hr_m_textEnd hr_n_90 hr_n_91 hr_n_95 hr_n_89 hr_n_92 hr_n_93) lk_RX12_210 ⟨rfl, rfl⟩ ⟨Nat.le_of_ble_eq_true rfl, Nat.le_of_ble_eq_true rfl⟩ 12 rfl rfl rfl [3, 0] [1, 2] rfl rfl (by decide) rfl hl.1 rfl (lv_room (Nat.le_of_ble_eq_true rfl)) dX12_readWhen_85 ⟨Nat.le_of_ble_eq_true rfl, Nat.le_of_ble_eq_true rfl⟩ (fun u_155 H locs hw hP hD hS => ?_)
            obtain ⟨n_148, n_149, n_150, n_151, n_152, n_153⟩ := u_155
            try dsimp only at hw
            obtain ⟨he_n_148, he_n_149, he_n_150, he_n_151, he_n_152, he_n_153, hw⟩ := hw
            obtain ⟨hr_n_148, hr_n_149, hr_n_150, hr_n_151, hr_n_152, hf_157, hf_158, hf_159⟩ := hw
            refine lv_aload_n hx hb dX12_readWhen_88 rfl (lv_at hl 1 rfl) ?_
            refine va_get (D := G) (ci := 12) (v := .ref a_c) (C := RX12) (T := TX12) (N := 65) hx hb hts inT12 hown hK hP 2 rfl rfl 20 (by decide) (hts _ tw_1905) (fun _ h9 => h9) rfl dX12_readWhen_89 ?_
            refine lv_iload_n hx hb dX12_readWhen_92 rfl (lv_at hl 2 rfl) ?_
            refine lv_iconst (v := 2) hx hb dX12_readWhen_93 (by decide) ?_
            refine lv_iadd hx hb dX12_readWhen_94 ?_
            refine lv_topi (fun x_160 he_x_160 => ?_)
            have hq_x_160 := z_addq he_x_160 (rfl : w.toInt = _) hk_2 (by omega) (by omega)
            refine lv_iload_n hx hb dX12_readWhen_95 rfl (lv_at hl 0 rfl) ?_
            refine z_iast hx hb hK hP hD hS 0 0 rfl rfl (z_inN (by omega) (by omega)) dX12_readWhen_96 (fun g_161 hg_g_161 H locs hP hD hS => ?_)
            have hC_g_161 := z_ctUs hC_g_103 hg_g_161 (a := 1643) (b := 1817) (M := 6) (q := 5) (lo := (-2147483648)) (hi := 2147483647) (by decide +kernel) (by decide +kernel) (by omega) (by omega) (by omega) (z_full _)
            refine lv_aload_n hx hb dX12_readWhen_97 rfl (lv_at hl 1 rfl) ?_
            refine va_get (D := G) (ci := 12) (v := .ref a_c) (C := RX12) (T := TX12) (N := 65) hx hb hts inT12 hown hK hP 2 rfl rfl 20 (by decide) (hts _ tw_1905) (fun _ h9 => h9) rfl dX12_readWhen_98 ?_
            refine lv_iload_n hx hb dX12_readWhen_101 rfl (lv_at hl 2 rfl) ?_
            refine lv_iconst (v := 3) hx hb dX12_readWhen_102 (by decide) ?_
            refine lv_iadd hx hb dX12_readWhen_103 ?_
            refine lv_topi (fun x_162 he_x_162 => ?_)
            have hq_x_162 := z_addq he_x_162 (rfl : w.toInt = _) hk_3 (by omega) (by omega)
            refine lv_aload_n hx hb dX12_readWhen_104 rfl (lv_at hl 1 rfl) ?_
            refine lv_iconst (v := 0) hx hb dX12_readWhen_105 (by decide) ?_
            refine lv_iconst (v := 3) hx hb dX12_readWhen_106 (by decide) ?_
            refine z_callVi (As := [.int 0, .int 3]) (rest := [.int x_162, .ref a_c]) (wr := [(a_c, .inl (cA.1 0, 1825, .inl g_161)), (a_words, .inl (cA.1 1, 105, .inr (.inl g_words)))]) ⟨hx, hb, hml, hown, hts⟩ hK hE hT hP hD hS hA (r_count l G cA h0 m_status m_thrown m_above m_under a_traySort a_trayMany a_numbers a_tape m_taped m_textEnd m_faultKind m_faultAt n_95 n_96 n_148 n_149 n_150 n_151 n_152 n_153 a_c a_words m_markMany a_there a_tried a_best a_found m_thereMany m_foundMany m_orderHow m_orderRing m_orderMany m_hasBest m_bestTop m_bestBy a_weights a_shared m_random m_truePlace m_trueWay m_seconds m_done m_feelings m_tries m_leftOver m_playDoor m_playRing m_isOpen m_isOver m_wasTried m_hasPlayed a_feltNow a_last a_kept m_hasSeconds m_hasTurned m_hasRound a_hasFeels a_isOn m_firstAct m_meanTop m_meanBy a_order m_rowMany m_newSteps g_tape 0 3 (by decide +kernel) (by decide +kernel) hr_m_textEnd hr_n_149 hr_n_150 hr_n_95 hr_n_148 hr_n_151 hr_n_152) lk_RX12_214 ⟨rfl, rfl⟩ ⟨Nat.le_of_ble_eq_true rfl, Nat.le_of_ble_eq_true rfl⟩ 12 rfl rfl rfl [2, 3] [0, 1] rfl rfl (by decide) rfl hl.1 rfl (lv_room (Nat.le_of_ble_eq_true rfl)) dX12_readWhen_107 ⟨Nat.le_of_ble_eq_true rfl, Nat.le_of_ble_eq_true rfl⟩ (fun r_171 u_172 H locs hw hP hD hS => ?_)
            obtain ⟨n_163, n_164, n_165, n_166, n_167, n_168, n_169, n_170⟩ := u_172
            try dsimp only at hw
            obtain ⟨he_r_171, he_n_163, he_n_164, he_n_165, he_n_166, he_n_167, he_n_168, he_n_169, he_n_170, hw⟩ := hw
            obtain ⟨hr_r_171, hr_n_163, hr_n_165, hr_n_166, hr_n_167, hr_n_168, hr_n_169, hf_174, hf_175, hf_176, hf_177, hf_178, hf_179⟩ := hw
            refine z_iast hx hb hK hP hD hS 0 0 rfl rfl (z_inN (by omega) (by omega)) dX12_readWhen_110 (fun g_180 hg_g_180 H locs hP hD hS => ?_)
            have hC_g_180 := z_ctUs hC_g_161 hg_g_180 (a := 1644) (b := 1818) (M := 6) (q := 0) (lo := (-2147483648)) (hi := 2147483647) (by decide +kernel) (by decide +kernel) (by omega) (by omega) (by omega) (z_full _)
            refine lv_goto (tgt := 167) hx hb dX12_readWhen_111 (by decide) ?_
            have hpost : (0 ≤ n_163.toInt ∧ n_163.toInt ≤ 9) ∧ (0 ≤ n_165.toInt ∧ n_165.toInt ≤ 4) ∧ (0 ≤ n_166.toInt ∧ n_166.toInt ≤ 900) ∧ (0 ≤ n_167.toInt ∧ n_167.toInt ≤ 900) ∧ (0 ≤ n_168.toInt ∧ n_168.toInt ≤ 9999) ∧ (0 ≤ n_169.toInt ∧ n_169.toInt ≤ 900) ∧ (zC g_180) ∧ (m_behind.toInt ≤ n_167.toInt) ∧ (0 < m_bad.toInt → 0 < n_163.toInt) ∧ (n_163.toInt ≤ 0 → n_165.toInt = 0 ∨ m_behind.toInt < n_167.toInt) := ⟨hr_n_163, hr_n_165, hr_n_166, hr_n_167, hr_n_168, hr_n_169, hC_g_180, (by omega), (by omega), (by omega)⟩
            have hX_181 : F_r_readWhen m_textEnd m_bad m_badAt m_behind m_number m_letters m_word g_tape g_c g_words w = ((n_163, n_164, n_165, n_166, n_167, n_168, n_169, n_170, g_180) : Int32 × Int32 × Int32 × Int32 × Int32 × Int32 × Int32 × Int64 × (Nat → Int32)) := by
              refine (F_r_readWhen_s ..).trans ?_
              extract_lets -merge -useContext +onlyGivenNames w9 y0_0 y0_1 y0_2 y0_3 y0_4 y0_5; have e9 : (n_1, n_2, n_3, n_4, n_5, n_6) = w9 := ((z_tS he_n_1 (z_tS he_n_2 (z_tS he_n_3 (z_tS he_n_4 (z_tS he_n_5 he_n_6.symm)))))).symm; clear_value w9; subst e9
              extract_lets -merge -useContext +onlyGivenNames w9 y9; have e9 : (1 : Int32) = w9 := he_r_12; clear_value w9; subst e9
              refine (if_neg (show ¬ (1 : Int32) = 0 by decide)).trans ?_
              extract_lets -merge -useContext +onlyGivenNames w9 y3_0 y3_1 y3_2 y3_3 y3_4 y3_5; have e9 : (n_76, n_77, n_78, n_79, n_80, n_81) = w9 := ((z_tS he_n_76 (z_tS he_n_77 (z_tS he_n_78 (z_tS he_n_79 (z_tS he_n_80 he_n_81.symm)))))).symm; clear_value w9; subst e9
              try (extract_lets -merge -useContext +onlyGivenNames y9; have e9 : g_87 = y9 := (by first | exact hg_g_87 | exact hg_g_87.symm); clear_value y9; subst e9)
              try (extract_lets -merge -useContext +onlyGivenNames y9; have e9 : x_88 = y9 := (by first | exact he_x_88 | exact he_x_88.symm); clear_value y9; subst e9)
              extract_lets -merge -useContext +onlyGivenNames w9 y6_0 y6_1 y6_2 y6_3 y6_4 y6_5 y6_6 y6_7 y6_8; have e9 : (r_97, n_89, n_90, n_91, n_92, n_93, n_94, n_95, n_96) = w9 := ((z_tS he_r_97 (z_tS he_n_89 (z_tS he_n_90 (z_tS he_n_91 (z_tS he_n_92 (z_tS he_n_93 (z_tS he_n_94 (z_tS he_n_95 he_n_96.symm))))))))).symm; clear_value w9; subst e9
              try (extract_lets -merge -useContext +onlyGivenNames y9; have e9 : g_103 = y9 := (by first | exact hg_g_103 | exact hg_g_103.symm); clear_value y9; subst e9)
              refine (if_neg c_104).trans ?_
              extract_lets -merge -useContext +onlyGivenNames w9 y9; have e9 : (0 : Int32) = w9 := he_r_106; clear_value w9; subst e9
              refine (if_pos rfl).trans ?_
              extract_lets -merge -useContext +onlyGivenNames w9 y9; have e9 : (0 : Int32) = w9 := he_r_111; clear_value w9; subst e9
              refine (if_pos rfl).trans ?_
              extract_lets -merge -useContext +onlyGivenNames w9 y9; have e9 : (1 : Int32) = w9 := he_r_116; clear_value w9; subst e9
              refine (if_neg (show ¬ (1 : Int32) = 0 by decide)).trans ?_
              extract_lets -merge -useContext +onlyGivenNames w9 y15_0 y15_1 y15_2 y15_3 y15_4 y15_5; have e9 : (n_148, n_149, n_150, n_151, n_152, n_153) = w9 := ((z_tS he_n_148 (z_tS he_n_149 (z_tS he_n_150 (z_tS he_n_151 (z_tS he_n_152 he_n_153.symm)))))).symm; clear_value w9; subst e9
              try (extract_lets -merge -useContext +onlyGivenNames y9; have e9 : x_160 = y9 := (by first | exact he_x_160 | exact he_x_160.symm); clear_value y9; subst e9)
              try (extract_lets -merge -useContext +onlyGivenNames y9; have e9 : g_161 = y9 := (by first | exact hg_g_161 | exact hg_g_161.symm); clear_value y9; subst e9)
              try (extract_lets -merge -useContext +onlyGivenNames y9; have e9 : x_162 = y9 := (by first | exact he_x_162 | exact he_x_162.symm); clear_value y9; subst e9)
              extract_lets -merge -useContext +onlyGivenNames w9 y19_0 y19_1 y19_2 y19_3 y19_4 y19_5 y19_6 y19_7 y19_8; have e9 : (r_171, n_163, n_164, n_165, n_166, n_167, n_168, n_169, n_170) = w9 := ((z_tS he_r_171 (z_tS he_n_163 (z_tS he_n_164 (z_tS he_n_165 (z_tS he_n_166 (z_tS he_n_167 (z_tS he_n_168 (z_tS he_n_169 he_n_170.symm))))))))).symm; clear_value w9; subst e9
              try (extract_lets -merge -useContext +onlyGivenNames y9; have e9 : g_180 = y9 := (by first | exact hg_g_180 | exact hg_g_180.symm); clear_value y9; subst e9)
              exact rfl
            exact hret _ _ _ _ _ (n_163, n_164, n_165, n_166, n_167, n_168, n_169, n_170, g_180) [2, 3, 0, 1] hP hD hS rfl (by decide) dX12_readWhen_167 ⟨(congrArg (fun z9 => z9.1) hX_181).symm, (congrArg (fun z9 => z9.2.1) hX_181).symm, (congrArg (fun z9 => z9.2.2.1) hX_181).symm, (congrArg (fun z9 => z9.2.2.2.1) hX_181).symm, (congrArg (fun z9 => z9.2.2.2.2.1) hX_181).symm, (congrArg (fun z9 => z9.2.2.2.2.2.1) hX_181).symm, (congrArg (fun z9 => z9.2.2.2.2.2.2.1) hX_181).symm, (congrArg (fun z9 => z9.2.2.2.2.2.2.2.1) hX_181).symm, (congrArg (fun z9 => z9.2.2.2.2.2.2.2.2) hX_181).symm, hpost⟩
        · skip
          refine lv_if_ne (tgt := 80) hx hb dX12_readWhen_68 (by decide) (fun _ => ?_) (fun h9 => absurd h9 (by decide +kernel))
          refine lv_iconst (v := 1) hx hb dX12_readWhen_80 (by decide) ?_
          refine lv_goto (tgt := 85) hx hb dX12_readWhen_81 (by decide) ?_
          refine z_callVv (As := [.int 1]) (rest := []) (wr := [(a_c, .inl (cA.1 0, 1825, .inl g_103)), (a_words, .inl (cA.1 1, 105, .inr (.inl g_words)))]) ⟨hx, hb, hml, hown, hts⟩ hK hE hT hP hD hS hA (r_must_1 l G cA h0 m_status m_thrown m_above m_under a_traySort a_trayMany a_numbers a_tape m_taped m_textEnd m_faultKind m_faultAt n_95 n_96 n_89 n_90 n_91 n_92 n_93 n_94 a_c a_words m_markMany a_there a_tried a_best a_found m_thereMany m_foundMany m_orderHow m_orderRing m_orderMany m_hasBest m_bestTop m_bestBy a_weights a_shared m_random m_truePlace m_trueWay m_seconds m_done m_feelings m_tries m_leftOver m_playDoor m_playRing m_isOpen m_isOver m_wasTried m_hasPlayed a_feltNow a_last a_kept m_hasSeconds m_hasTurned m_hasRound a_hasFeels a_isOn m_firstAct m_meanTop m_meanBy a_order m_rowMany m_newSteps g_tape hr_m_textEnd hr_n_90 hr_n_91 hr_n_95 hr_n_89 hr_n_92 hr_n_93) lk_RX12_210 ⟨rfl, rfl⟩ ⟨Nat.le_of_ble_eq_true rfl, Nat.le_of_ble_eq_true rfl⟩ 12 rfl rfl rfl [3, 0] [1, 2] rfl rfl (by decide) rfl hl.1 rfl (lv_room (Nat.le_of_ble_eq_true rfl)) dX12_readWhen_85 ⟨Nat.le_of_ble_eq_true rfl, Nat.le_of_ble_eq_true rfl⟩ (fun u_189 H locs hw hP hD hS => ?_)
          obtain ⟨n_182, n_183, n_184, n_185, n_186, n_187⟩ := u_189
          try dsimp only at hw
          obtain ⟨he_n_182, he_n_183, he_n_184, he_n_185, he_n_186, he_n_187, hw⟩ := hw
          obtain ⟨hr_n_182, hr_n_183, hr_n_184, hr_n_185, hr_n_186, hf_191, hf_192, hf_193⟩ := hw
          refine lv_aload_n hx hb dX12_readWhen_88 rfl (lv_at hl 1 rfl) ?_
          refine va_get (D := G) (ci := 12) (v := .ref a_c) (C := RX12) (T := TX12) (N := 65) hx hb hts inT12 hown hK hP 2 rfl rfl 20 (by decide) (hts _ tw_1905) (fun _ h9 => h9) rfl dX12_readWhen_89 ?_
          refine lv_iload_n hx hb dX12_readWhen_92 rfl (lv_at hl 2 rfl) ?_
          refine lv_iconst (v := 2) hx hb dX12_readWhen_93 (by decide) ?_
          refine lv_iadd hx hb dX12_readWhen_94 ?_
          refine lv_topi (fun x_194 he_x_194 => ?_)
          have hq_x_194 := z_addq he_x_194 (rfl : w.toInt = _) hk_2 (by omega) (by omega)
          refine lv_iload_n hx hb dX12_readWhen_95 rfl (lv_at hl 0 rfl) ?_
          refine z_iast hx hb hK hP hD hS 0 0 rfl rfl (z_inN (by omega) (by omega)) dX12_readWhen_96 (fun g_195 hg_g_195 H locs hP hD hS => ?_)
          have hC_g_195 := z_ctUs hC_g_103 hg_g_195 (a := 1643) (b := 1817) (M := 6) (q := 5) (lo := (-2147483648)) (hi := 2147483647) (by decide +kernel) (by decide +kernel) (by omega) (by omega) (by omega) (z_full _)
          refine lv_aload_n hx hb dX12_readWhen_97 rfl (lv_at hl 1 rfl) ?_
          refine va_get (D := G) (ci := 12) (v := .ref a_c) (C := RX12) (T := TX12) (N := 65) hx hb hts inT12 hown hK hP 2 rfl rfl 20 (by decide) (hts _ tw_1905) (fun _ h9 => h9) rfl dX12_readWhen_98 ?_
          refine lv_iload_n hx hb dX12_readWhen_101 rfl (lv_at hl 2 rfl) ?_
          refine lv_iconst (v := 3) hx hb dX12_readWhen_102 (by decide) ?_
          refine lv_iadd hx hb dX12_readWhen_103 ?_
          refine lv_topi (fun x_196 he_x_196 => ?_)
          have hq_x_196 := z_addq he_x_196 (rfl : w.toInt = _) hk_3 (by omega) (by omega)
          refine lv_aload_n hx hb dX12_readWhen_104 rfl (lv_at hl 1 rfl) ?_
          refine lv_iconst (v := 0) hx hb dX12_readWhen_105 (by decide) ?_
          refine lv_iconst (v := 3) hx hb dX12_readWhen_106 (by decide) ?_
          refine z_callVi (As := [.int 0, .int 3]) (rest := [.int x_196, .ref a_c]) (wr := [(a_c, .inl (cA.1 0, 1825, .inl g_195)), (a_words, .inl (cA.1 1, 105, .inr (.inl g_words)))]) ⟨hx, hb, hml, hown, hts⟩ hK hE hT hP hD hS hA (r_count l G cA h0 m_status m_thrown m_above m_under a_traySort a_trayMany a_numbers a_tape m_taped m_textEnd m_faultKind m_faultAt n_95 n_96 n_182 n_183 n_184 n_185 n_186 n_187 a_c a_words m_markMany a_there a_tried a_best a_found m_thereMany m_foundMany m_orderHow m_orderRing m_orderMany m_hasBest m_bestTop m_bestBy a_weights a_shared m_random m_truePlace m_trueWay m_seconds m_done m_feelings m_tries m_leftOver m_playDoor m_playRing m_isOpen m_isOver m_wasTried m_hasPlayed a_feltNow a_last a_kept m_hasSeconds m_hasTurned m_hasRound a_hasFeels a_isOn m_firstAct m_meanTop m_meanBy a_order m_rowMany m_newSteps g_tape 0 3 (by decide +kernel) (by decide +kernel) hr_m_textEnd hr_n_183 hr_n_184 hr_n_95 hr_n_182 hr_n_185 hr_n_186) lk_RX12_214 ⟨rfl, rfl⟩ ⟨Nat.le_of_ble_eq_true rfl, Nat.le_of_ble_eq_true rfl⟩ 12 rfl rfl rfl [2, 3] [0, 1] rfl rfl (by decide) rfl hl.1 rfl (lv_room (Nat.le_of_ble_eq_true rfl)) dX12_readWhen_107 ⟨Nat.le_of_ble_eq_true rfl, Nat.le_of_ble_eq_true rfl⟩ (fun r_205 u_206 H locs hw hP hD hS => ?_)
          obtain ⟨n_197, n_198, n_199, n_200, n_201, n_202, n_203, n_204⟩ := u_206
          try dsimp only at hw
          obtain ⟨he_r_205, he_n_197, he_n_198, he_n_199, he_n_200, he_n_201, he_n_202, he_n_203, he_n_204, hw⟩ := hw
          obtain ⟨hr_r_205, hr_n_197, hr_n_199, hr_n_200, hr_n_201, hr_n_202, hr_n_203, hf_208, hf_209, hf_210, hf_211, hf_212, hf_213⟩ := hw
          refine z_iast hx hb hK hP hD hS 0 0 rfl rfl (z_inN (by omega) (by omega)) dX12_readWhen_110 (fun g_214 hg_g_214 H locs hP hD hS => ?_)
          have hC_g_214 := z_ctUs hC_g_195 hg_g_214 (a := 1644) (b := 1818) (M := 6) (q := 0) (lo := (-2147483648)) (hi := 2147483647) (by decide +kernel) (by decide +kernel) (by omega) (by omega) (by omega) (z_full _)
          refine lv_goto (tgt := 167) hx hb dX12_readWhen_111 (by decide) ?_
          have hpost : (0 ≤ n_197.toInt ∧ n_197.toInt ≤ 9) ∧ (0 ≤ n_199.toInt ∧ n_199.toInt ≤ 4) ∧ (0 ≤ n_200.toInt ∧ n_200.toInt ≤ 900) ∧ (0 ≤ n_201.toInt ∧ n_201.toInt ≤ 900) ∧ (0 ≤ n_202.toInt ∧ n_202.toInt ≤ 9999) ∧ (0 ≤ n_203.toInt ∧ n_203.toInt ≤ 900) ∧ (zC g_214) ∧ (m_behind.toInt ≤ n_201.toInt) ∧ (0 < m_bad.toInt → 0 < n_197.toInt) ∧ (n_197.toInt ≤ 0 → n_199.toInt = 0 ∨ m_behind.toInt < n_201.toInt) := ⟨hr_n_197, hr_n_199, hr_n_200, hr_n_201, hr_n_202, hr_n_203, hC_g_214, (by omega), (by omega), (by omega)⟩
          have hX_215 : F_r_readWhen m_textEnd m_bad m_badAt m_behind m_number m_letters m_word g_tape g_c g_words w = ((n_197, n_198, n_199, n_200, n_201, n_202, n_203, n_204, g_214) : Int32 × Int32 × Int32 × Int32 × Int32 × Int32 × Int32 × Int64 × (Nat → Int32)) := by
            refine (F_r_readWhen_s ..).trans ?_
            extract_lets -merge -useContext +onlyGivenNames w9 y0_0 y0_1 y0_2 y0_3 y0_4 y0_5; have e9 : (n_1, n_2, n_3, n_4, n_5, n_6) = w9 := ((z_tS he_n_1 (z_tS he_n_2 (z_tS he_n_3 (z_tS he_n_4 (z_tS he_n_5 he_n_6.symm)))))).symm; clear_value w9; subst e9
            extract_lets -merge -useContext +onlyGivenNames w9 y9; have e9 : (1 : Int32) = w9 := he_r_12; clear_value w9; subst e9
            refine (if_neg (show ¬ (1 : Int32) = 0 by decide)).trans ?_
            extract_lets -merge -useContext +onlyGivenNames w9 y3_0 y3_1 y3_2 y3_3 y3_4 y3_5; have e9 : (n_76, n_77, n_78, n_79, n_80, n_81) = w9 := ((z_tS he_n_76 (z_tS he_n_77 (z_tS he_n_78 (z_tS he_n_79 (z_tS he_n_80 he_n_81.symm)))))).symm; clear_value w9; subst e9
            try (extract_lets -merge -useContext +onlyGivenNames y9; have e9 : g_87 = y9 := (by first | exact hg_g_87 | exact hg_g_87.symm); clear_value y9; subst e9)
            try (extract_lets -merge -useContext +onlyGivenNames y9; have e9 : x_88 = y9 := (by first | exact he_x_88 | exact he_x_88.symm); clear_value y9; subst e9)
            extract_lets -merge -useContext +onlyGivenNames w9 y6_0 y6_1 y6_2 y6_3 y6_4 y6_5 y6_6 y6_7 y6_8; have e9 : (r_97, n_89, n_90, n_91, n_92, n_93, n_94, n_95, n_96) = w9 := ((z_tS he_r_97 (z_tS he_n_89 (z_tS he_n_90 (z_tS he_n_91 (z_tS he_n_92 (z_tS he_n_93 (z_tS he_n_94 (z_tS he_n_95 he_n_96.symm))))))))).symm; clear_value w9; subst e9
            try (extract_lets -merge -useContext +onlyGivenNames y9; have e9 : g_103 = y9 := (by first | exact hg_g_103 | exact hg_g_103.symm); clear_value y9; subst e9)
            refine (if_neg c_104).trans ?_
            extract_lets -merge -useContext +onlyGivenNames w9 y9; have e9 : (0 : Int32) = w9 := he_r_106; clear_value w9; subst e9
            refine (if_pos rfl).trans ?_
            extract_lets -merge -useContext +onlyGivenNames w9 y9; have e9 : (1 : Int32) = w9 := he_r_111; clear_value w9; subst e9
            refine (if_neg (show ¬ (1 : Int32) = 0 by decide)).trans ?_
            extract_lets -merge -useContext +onlyGivenNames w9 y13_0 y13_1 y13_2 y13_3 y13_4 y13_5; have e9 : (n_182, n_183, n_184, n_185, n_186, n_187) = w9 := ((z_tS he_n_182 (z_tS he_n_183 (z_tS he_n_184 (z_tS he_n_185 (z_tS he_n_186 he_n_187.symm)))))).symm; clear_value w9; subst e9
            try (extract_lets -merge -useContext +onlyGivenNames y9; have e9 : x_194 = y9 := (by first | exact he_x_194 | exact he_x_194.symm); clear_value y9; subst e9)
            try (extract_lets -merge -useContext +onlyGivenNames y9; have e9 : g_195 = y9 := (by first | exact hg_g_195 | exact hg_g_195.symm); clear_value y9; subst e9)
            try (extract_lets -merge -useContext +onlyGivenNames y9; have e9 : x_196 = y9 := (by first | exact he_x_196 | exact he_x_196.symm); clear_value y9; subst e9)
            extract_lets -merge -useContext +onlyGivenNames w9 y17_0 y17_1 y17_2 y17_3 y17_4 y17_5 y17_6 y17_7 y17_8; have e9 : (r_205, n_197, n_198, n_199, n_200, n_201, n_202, n_203, n_204) = w9 := ((z_tS he_r_205 (z_tS he_n_197 (z_tS he_n_198 (z_tS he_n_199 (z_tS he_n_200 (z_tS he_n_201 (z_tS he_n_202 (z_tS he_n_203 he_n_204.symm))))))))).symm; clear_value w9; subst e9
            try (extract_lets -merge -useContext +onlyGivenNames y9; have e9 : g_214 = y9 := (by first | exact hg_g_214 | exact hg_g_214.symm); clear_value y9; subst e9)
            exact rfl
          exact hret _ _ _ _ _ (n_197, n_198, n_199, n_200, n_201, n_202, n_203, n_204, g_214) [2, 3, 0, 1] hP hD hS rfl (by decide) dX12_readWhen_167 ⟨(congrArg (fun z9 => z9.1) hX_215).symm, (congrArg (fun z9 => z9.2.1) hX_215).symm, (congrArg (fun z9 => z9.2.2.1) hX_215).symm, (congrArg (fun z9 => z9.2.2.2.1) hX_215).symm, (congrArg (fun z9 => z9.2.2.2.2.1) hX_215).symm, (congrArg (fun z9 => z9.2.2.2.2.2.1) hX_215).symm, (congrArg (fun z9 => z9.2.2.2.2.2.2.1) hX_215).symm, (congrArg (fun z9 => z9.2.2.2.2.2.2.2.1) hX_215).symm, (congrArg (fun z9 => z9.2.2.2.2.2.2.2.2) hX_215).symm, hpost⟩
      · skip
        refine lv_if_ne (tgt := 80) hx hb dX12_readWhen_59 (by decide) (fun _ => ?_) (fun h9 => absurd h9 (by decide +kernel))
        refine lv_iconst (v := 1) hx hb dX12_readWhen_80 (by decide) ?_
        refine lv_goto (tgt := 85) hx hb dX12_readWhen_81 (by decide) ?_
        refine z_callVv (As := [.int 1]) (rest := []) (wr := [(a_c, .inl (cA.1 0, 1825, .inl g_103)), (a_words, .inl (cA.1 1, 105, .inr (.inl g_words)))]) ⟨hx, hb, hml, hown, hts⟩ hK hE hT hP hD hS hA (r_must_1 l G cA h0 m_status m_thrown m_above m_under a_traySort a_trayMany a_numbers a_tape m_taped m_textEnd m_faultKind m_faultAt n_95 n_96 n_89 n_90 n_91 n_92 n_93 n_94 a_c a_words m_markMany a_there a_tried a_best a_found m_thereMany m_foundMany m_orderHow m_orderRing m_orderMany m_hasBest m_bestTop m_bestBy a_weights a_shared m_random m_truePlace m_trueWay m_seconds m_done m_feelings m_tries m_leftOver m_playDoor m_playRing m_isOpen m_isOver m_wasTried m_hasPlayed a_feltNow a_last a_kept m_hasSeconds m_hasTurned m_hasRound a_hasFeels a_isOn m_firstAct m_meanTop m_meanBy a_order m_rowMany m_newSteps g_tape hr_m_textEnd hr_n_90 hr_n_91 hr_n_95 hr_n_89 hr_n_92 hr_n_93) lk_RX12_210 ⟨rfl, rfl⟩ ⟨Nat.le_of_ble_eq_true rfl, Nat.le_of_ble_eq_true rfl⟩ 12 rfl rfl rfl [3, 0] [1, 2] rfl rfl (by decide) rfl hl.1 rfl (lv_room (Nat.le_of_ble_eq_true rfl)) dX12_readWhen_85 ⟨Nat.le_of_ble_eq_true rfl, Nat.le_of_ble_eq_true rfl⟩ (fun u_223 H locs hw hP hD hS => ?_)
        obtain ⟨n_216, n_217, n_218, n_219, n_220, n_221⟩ := u_223
        try dsimp only at hw
        obtain ⟨he_n_216, he_n_217, he_n_218, he_n_219, he_n_220, he_n_221, hw⟩ := hw
        obtain ⟨hr_n_216, hr_n_217, hr_n_218, hr_n_219, hr_n_220, hf_225, hf_226, hf_227⟩ := hw
        refine lv_aload_n hx hb dX12_readWhen_88 rfl (lv_at hl 1 rfl) ?_
        refine va_get (D := G) (ci := 12) (v := .ref a_c) (C := RX12) (T := TX12) (N := 65) hx hb hts inT12 hown hK hP 2 rfl rfl 20 (by decide) (hts _ tw_1905) (fun _ h9 => h9) rfl dX12_readWhen_89 ?_
        refine lv_iload_n hx hb dX12_readWhen_92 rfl (lv_at hl 2 rfl) ?_
        refine lv_iconst (v := 2) hx hb dX12_readWhen_93 (by decide) ?_
        refine lv_iadd hx hb dX12_readWhen_94 ?_
        refine lv_topi (fun x_228 he_x_228 => ?_)
        have hq_x_228 := z_addq he_x_228 (rfl : w.toInt = _) hk_2 (by omega) (by omega)
        refine lv_iload_n hx hb dX12_readWhen_95 rfl (lv_at hl 0 rfl) ?_
        refine z_iast hx hb hK hP hD hS 0 0 rfl rfl (z_inN (by omega) (by omega)) dX12_readWhen_96 (fun g_229 hg_g_229 H locs hP hD hS => ?_)
        have hC_g_229 := z_ctUs hC_g_103 hg_g_229 (a := 1643) (b := 1817) (M := 6) (q := 5) (lo := (-2147483648)) (hi := 2147483647) (by decide +kernel) (by decide +kernel) (by omega) (by omega) (by omega) (z_full _)
        refine lv_aload_n hx hb dX12_readWhen_97 rfl (lv_at hl 1 rfl) ?_
        refine va_get (D := G) (ci := 12) (v := .ref a_c) (C := RX12) (T := TX12) (N := 65) hx hb hts inT12 hown hK hP 2 rfl rfl 20 (by decide) (hts _ tw_1905) (fun _ h9 => h9) rfl dX12_readWhen_98 ?_
        refine lv_iload_n hx hb dX12_readWhen_101 rfl (lv_at hl 2 rfl) ?_
        refine lv_iconst (v := 3) hx hb dX12_readWhen_102 (by decide) ?_
        refine lv_iadd hx hb dX12_readWhen_103 ?_
        refine lv_topi (fun x_230 he_x_230 => ?_)
        have hq_x_230 := z_addq he_x_230 (rfl : w.toInt = _) hk_3 (by omega) (by omega)
        refine lv_aload_n hx hb dX12_readWhen_104 rfl (lv_at hl 1 rfl) ?_
        refine lv_iconst (v := 0) hx hb dX12_readWhen_105 (by decide) ?_
        refine lv_iconst (v := 3) hx hb dX12_readWhen_106 (by decide) ?_
        refine z_callVi (As := [.int 0, .int 3]) (rest := [.int x_230, .ref a_c]) (wr := [(a_c, .inl (cA.1 0, 1825, .inl g_229)), (a_words, .inl (cA.1 1, 105, .inr (.inl g_words)))]) ⟨hx, hb, hml, hown, hts⟩ hK hE hT hP hD hS hA (r_count l G cA h0 m_status m_thrown m_above m_under a_traySort a_trayMany a_numbers a_tape m_taped m_textEnd m_faultKind m_faultAt n_95 n_96 n_216 n_217 n_218 n_219 n_220 n_221 a_c a_words m_markMany a_there a_tried a_best a_found m_thereMany m_foundMany m_orderHow m_orderRing m_orderMany m_hasBest m_bestTop m_bestBy a_weights a_shared m_random m_truePlace m_trueWay m_seconds m_done m_feelings m_tries m_leftOver m_playDoor m_playRing m_isOpen m_isOver m_wasTried m_hasPlayed a_feltNow a_last a_kept m_hasSeconds m_hasTurned m_hasRound a_hasFeels a_isOn m_firstAct m_meanTop m_meanBy a_order m_rowMany m_newSteps g_tape 0 3 (by decide +kernel) (by decide +kernel) hr_m_textEnd hr_n_217 hr_n_218 hr_n_95 hr_n_216 hr_n_219 hr_n_220) lk_RX12_214 ⟨rfl, rfl⟩ ⟨Nat.le_of_ble_eq_true rfl, Nat.le_of_ble_eq_true rfl⟩ 12 rfl rfl rfl [2, 3] [0, 1] rfl rfl (by decide) rfl hl.1 rfl (lv_room (Nat.le_of_ble_eq_true rfl)) dX12_readWhen_107 ⟨Nat.le_of_ble_eq_true rfl, Nat.le_of_ble_eq_true rfl⟩ (fun r_239 u_240 H locs hw hP hD hS => ?_)
        obtain ⟨n_231, n_232, n_233, n_234, n_235, n_236, n_237, n_238⟩ := u_240
        try dsimp only at hw
        obtain ⟨he_r_239, he_n_231, he_n_232, he_n_233, he_n_234, he_n_235, he_n_236, he_n_237, he_n_238, hw⟩ := hw
        obtain ⟨hr_r_239, hr_n_231, hr_n_233, hr_n_234, hr_n_235, hr_n_236, hr_n_237, hf_242, hf_243, hf_244, hf_245, hf_246, hf_247⟩ := hw
        refine z_iast hx hb hK hP hD hS 0 0 rfl rfl (z_inN (by omega) (by omega)) dX12_readWhen_110 (fun g_248 hg_g_248 H locs hP hD hS => ?_)
        have hC_g_248 := z_ctUs hC_g_229 hg_g_248 (a := 1644) (b := 1818) (M := 6) (q := 0) (lo := (-2147483648)) (hi := 2147483647) (by decide +kernel) (by decide +kernel) (by omega) (by omega) (by omega) (z_full _)
        refine lv_goto (tgt := 167) hx hb dX12_readWhen_111 (by decide) ?_
        have hpost : (0 ≤ n_231.toInt ∧ n_231.toInt ≤ 9) ∧ (0 ≤ n_233.toInt ∧ n_233.toInt ≤ 4) ∧ (0 ≤ n_234.toInt ∧ n_234.toInt ≤ 900) ∧ (0 ≤ n_235.toInt ∧ n_235.toInt ≤ 900) ∧ (0 ≤ n_236.toInt ∧ n_236.toInt ≤ 9999) ∧ (0 ≤ n_237.toInt ∧ n_237.toInt ≤ 900) ∧ (zC g_248) ∧ (m_behind.toInt ≤ n_235.toInt) ∧ (0 < m_bad.toInt → 0 < n_231.toInt) ∧ (n_231.toInt ≤ 0 → n_233.toInt = 0 ∨ m_behind.toInt < n_235.toInt) := ⟨hr_n_231, hr_n_233, hr_n_234, hr_n_235, hr_n_236, hr_n_237, hC_g_248, (by omega), (by omega), (by omega)⟩
        have hX_249 : F_r_readWhen m_textEnd m_bad m_badAt m_behind m_number m_letters m_word g_tape g_c g_words w = ((n_231, n_232, n_233, n_234, n_235, n_236, n_237, n_238, g_248) : Int32 × Int32 × Int32 × Int32 × Int32 × Int32 × Int32 × Int64 × (Nat → Int32)) := by
          refine (F_r_readWhen_s ..).trans ?_
          extract_lets -merge -useContext +onlyGivenNames w9 y0_0 y0_1 y0_2 y0_3 y0_4 y0_5; have e9 : (n_1, n_2, n_3, n_4, n_5, n_6) = w9 := ((z_tS he_n_1 (z_tS he_n_2 (z_tS he_n_3 (z_tS he_n_4 (z_tS he_n_5 he_n_6.symm)))))).symm; clear_value w9; subst e9
          extract_lets -merge -useContext +onlyGivenNames w9 y9; have e9 : (1 : Int32) = w9 := he_r_12; clear_value w9; subst e9
          refine (if_neg (show ¬ (1 : Int32) = 0 by decide)).trans ?_
          extract_lets -merge -useContext +onlyGivenNames w9 y3_0 y3_1 y3_2 y3_3 y3_4 y3_5; have e9 : (n_76, n_77, n_78, n_79, n_80, n_81) = w9 := ((z_tS he_n_76 (z_tS he_n_77 (z_tS he_n_78 (z_tS he_n_79 (z_tS he_n_80 he_n_81.symm)))))).symm; clear_value w9; subst e9
          try (extract_lets -merge -useContext +onlyGivenNames y9; have e9 : g_87 = y9 := (by first | exact hg_g_87 | exact hg_g_87.symm); clear_value y9; subst e9)
          try (extract_lets -merge -useContext +onlyGivenNames y9; have e9 : x_88 = y9 := (by first | exact he_x_88 | exact he_x_88.symm); clear_value y9; subst e9)
          extract_lets -merge -useContext +onlyGivenNames w9 y6_0 y6_1 y6_2 y6_3 y6_4 y6_5 y6_6 y6_7 y6_8; have e9 : (r_97, n_89, n_90, n_91, n_92, n_93, n_94, n_95, n_96) = w9 := ((z_tS he_r_97 (z_tS he_n_89 (z_tS he_n_90 (z_tS he_n_91 (z_tS he_n_92 (z_tS he_n_93 (z_tS he_n_94 (z_tS he_n_95 he_n_96.symm))))))))).symm; clear_value w9; subst e9
          try (extract_lets -merge -useContext +onlyGivenNames y9; have e9 : g_103 = y9 := (by first | exact hg_g_103 | exact hg_g_103.symm); clear_value y9; subst e9)
          refine (if_neg c_104).trans ?_
          extract_lets -merge -useContext +onlyGivenNames w9 y9; have e9 : (1 : Int32) = w9 := he_r_106; clear_value w9; subst e9
          refine (if_neg (show ¬ (1 : Int32) = 0 by decide)).trans ?_
          extract_lets -merge -useContext +onlyGivenNames w9 y11_0 y11_1 y11_2 y11_3 y11_4 y11_5; have e9 : (n_216, n_217, n_218, n_219, n_220, n_221) = w9 := ((z_tS he_n_216 (z_tS he_n_217 (z_tS he_n_218 (z_tS he_n_219 (z_tS he_n_220 he_n_221.symm)))))).symm; clear_value w9; subst e9
          try (extract_lets -merge -useContext +onlyGivenNames y9; have e9 : x_228 = y9 := (by first | exact he_x_228 | exact he_x_228.symm); clear_value y9; subst e9)
          try (extract_lets -merge -useContext +onlyGivenNames y9; have e9 : g_229 = y9 := (by first | exact hg_g_229 | exact hg_g_229.symm); clear_value y9; subst e9)
          try (extract_lets -merge -useContext +onlyGivenNames y9; have e9 : x_230 = y9 := (by first | exact he_x_230 | exact he_x_230.symm); clear_value y9; subst e9)
          extract_lets -merge -useContext +onlyGivenNames w9 y15_0 y15_1 y15_2 y15_3 y15_4 y15_5 y15_6 y15_7 y15_8; have e9 : (r_239, n_231, n_232, n_233, n_234, n_235, n_236, n_237, n_238) = w9 := ((z_tS he_r_239 (z_tS he_n_231 (z_tS he_n_232 (z_tS he_n_233 (z_tS he_n_234 (z_tS he_n_235 (z_tS he_n_236 (z_tS he_n_237 he_n_238.symm))))))))).symm; clear_value w9; subst e9
          try (extract_lets -merge -useContext +onlyGivenNames y9; have e9 : g_248 = y9 := (by first | exact hg_g_248 | exact hg_g_248.symm); clear_value y9; subst e9)
          exact rfl
        exact hret _ _ _ _ _ (n_231, n_232, n_233, n_234, n_235, n_236, n_237, n_238, g_248) [2, 3, 0, 1] hP hD hS rfl (by decide) dX12_readWhen_167 ⟨(congrArg (fun z9 => z9.1) hX_249).symm, (congrArg (fun z9 => z9.2.1) hX_249).symm, (congrArg (fun z9 => z9.2.2.1) hX_249).symm, (congrArg (fun z9 => z9.2.2.2.1) hX_249).symm, (congrArg (fun z9 => z9.2.2.2.2.1) hX_249).symm, (congrArg (fun z9 => z9.2.2.2.2.2.1) hX_249).symm, (congrArg (fun z9 => z9.2.2.2.2.2.2.1) hX_249).symm, (congrArg (fun z9 => z9.2.2.2.2.2.2.2.1) hX_249).symm, (congrArg (fun z9 => z9.2.2.2.2.2.2.2.2) hX_249).symm, hpost⟩
    · have b_250 := z_feqF c_104
      refine lv_aload_n hx hb dX12_readWhen_43 rfl (lv_at hl 0 rfl) ?_
      refine va_get (D := G) (ci := 12) (v := .int n_92) (C := RX12) (T := TX12) (N := 65) hx hb hts inT12 hown hK hP 0 rfl rfl 17 (by decide) (hts _ tw_1902) (fun _ h9 => h9) rfl dX12_readWhen_44 ?_
      refine lv_goto (tgt := 51) hx hb dX12_readWhen_47 (by decide) ?_
      refine lv_istore_n (lv' := [(2, .int n_92), (0, .ref h0), (1, .int w)]) hx hb dX12_readWhen_51 rfl hl (by decide) rfl (fun ls hl => ?_)
      refine lv_aload_n hx hb dX12_readWhen_52 rfl (lv_at hl 1 rfl) ?_
      refine lv_aload_n hx hb dX12_readWhen_53 rfl (lv_at hl 1 rfl) ?_
      refine lv_bipush (v := 60) hx hb dX12_readWhen_54 (by decide) ?_
      refine z_callVi (As := [.int 60]) (rest := [.ref h0]) (wr := [(a_tape, .inl (cA.1 2, 900, .inl g_tape)), (a_c, .inl (cA.1 0, 1825, .inl g_103)), (a_words, .inl (cA.1 1, 105, .inr (.inl g_words)))]) ⟨hx, hb, hml, hown, hts⟩ hK hE hT hP hD hS hA (r_isSign l G cA h0 m_status m_thrown m_above m_under a_traySort a_trayMany a_numbers a_tape m_taped m_textEnd m_faultKind m_faultAt n_95 n_96 n_89 n_90 n_91 n_92 n_93 n_94 a_c a_words m_markMany a_there a_tried a_best a_found m_thereMany m_foundMany m_orderHow m_orderRing m_orderMany m_hasBest m_bestTop m_bestBy a_weights a_shared m_random m_truePlace m_trueWay m_seconds m_done m_feelings m_tries m_leftOver m_playDoor m_playRing m_isOpen m_isOver m_wasTried m_hasPlayed a_feltNow a_last a_kept m_hasSeconds m_hasTurned m_hasRound a_hasFeels a_isOn m_firstAct m_meanTop m_meanBy a_order m_rowMany m_newSteps 60 hr_n_89 hr_n_92) lk_RX12_220 ⟨rfl, rfl⟩ ⟨Nat.le_of_ble_eq_true rfl, Nat.le_of_ble_eq_true rfl⟩ 12 rfl rfl rfl [0] [1, 2, 3] rfl rfl (by decide) rfl hl.1 rfl (lv_room (Nat.le_of_ble_eq_true rfl)) dX12_readWhen_56 ⟨Nat.le_of_ble_eq_true rfl, Nat.le_of_ble_eq_true rfl⟩ (fun r_251 u_252 H locs hw hP hD hS => ?_)
      obtain ⟨he_r_251, hw⟩ := hw
      rcases hw with ⟨rfl, hf_254⟩ | ⟨rfl, hf_255⟩
      · skip
        refine lv_if_ne (tgt := 80) hx hb dX12_readWhen_59 (by decide) (fun h9 => absurd (by decide +kernel) h9) (fun _ => ?_)
        refine lv_aload_n hx hb dX12_readWhen_62 rfl (lv_at hl 1 rfl) ?_
        refine lv_bipush (v := 62) hx hb dX12_readWhen_63 (by decide) ?_
        refine z_callVi (As := [.int 62]) (rest := [.ref h0]) (wr := [(a_tape, .inl (cA.1 2, 900, .inl g_tape)), (a_c, .inl (cA.1 0, 1825, .inl g_103)), (a_words, .inl (cA.1 1, 105, .inr (.inl g_words)))]) ⟨hx, hb, hml, hown, hts⟩ hK hE hT hP hD hS hA (r_isSign l G cA h0 m_status m_thrown m_above m_under a_traySort a_trayMany a_numbers a_tape m_taped m_textEnd m_faultKind m_faultAt n_95 n_96 n_89 n_90 n_91 n_92 n_93 n_94 a_c a_words m_markMany a_there a_tried a_best a_found m_thereMany m_foundMany m_orderHow m_orderRing m_orderMany m_hasBest m_bestTop m_bestBy a_weights a_shared m_random m_truePlace m_trueWay m_seconds m_done m_feelings m_tries m_leftOver m_playDoor m_playRing m_isOpen m_isOver m_wasTried m_hasPlayed a_feltNow a_last a_kept m_hasSeconds m_hasTurned m_hasRound a_hasFeels a_isOn m_firstAct m_meanTop m_meanBy a_order m_rowMany m_newSteps 62 hr_n_89 hr_n_92) lk_RX12_220 ⟨rfl, rfl⟩ ⟨Nat.le_of_ble_eq_true rfl, Nat.le_of_ble_eq_true rfl⟩ 12 rfl rfl rfl [3] [0, 1, 2] rfl rfl (by decide) rfl hl.1 rfl (lv_room (Nat.le_of_ble_eq_true rfl)) dX12_readWhen_65 ⟨Nat.le_of_ble_eq_true rfl, Nat.le_of_ble_eq_true rfl⟩ (fun r_256 u_257 H locs hw hP hD hS => ?_)
        obtain ⟨he_r_256, hw⟩ := hw
        rcases hw with ⟨rfl, hf_259⟩ | ⟨rfl, hf_260⟩
        · skip
          refine lv_if_ne (tgt := 80) hx hb dX12_readWhen_68 (by decide) (fun h9 => absurd (by decide +kernel) h9) (fun _ => ?_)
          refine lv_aload_n hx hb dX12_readWhen_71 rfl (lv_at hl 1 rfl) ?_
          refine lv_bipush (v := 61) hx hb dX12_readWhen_72 (by decide) ?_
          refine z_callVi (As := [.int 61]) (rest := [.ref h0]) (wr := [(a_tape, .inl (cA.1 2, 900, .inl g_tape)), (a_c, .inl (cA.1 0, 1825, .inl g_103)), (a_words, .inl (cA.1 1, 105, .inr (.inl g_words)))]) ⟨hx, hb, hml, hown, hts⟩ hK hE hT hP hD hS hA (r_isSign l G cA h0 m_status m_thrown m_above m_under a_traySort a_trayMany a_numbers a_tape m_taped m_textEnd m_faultKind m_faultAt n_95 n_96 n_89 n_90 n_91 n_92 n_93 n_94 a_c a_words m_markMany a_there a_tried a_best a_found m_thereMany m_foundMany m_orderHow m_orderRing m_orderMany m_hasBest m_bestTop m_bestBy a_weights a_shared m_random m_truePlace m_trueWay m_seconds m_done m_feelings m_tries m_leftOver m_playDoor m_playRing m_isOpen m_isOver m_wasTried m_hasPlayed a_feltNow a_last a_kept m_hasSeconds m_hasTurned m_hasRound a_hasFeels a_isOn m_firstAct m_meanTop m_meanBy a_order m_rowMany m_newSteps 61 hr_n_89 hr_n_92) lk_RX12_220 ⟨rfl, rfl⟩ ⟨Nat.le_of_ble_eq_true rfl, Nat.le_of_ble_eq_true rfl⟩ 12 rfl rfl rfl [3] [0, 1, 2] rfl rfl (by decide) rfl hl.1 rfl (lv_room (Nat.le_of_ble_eq_true rfl)) dX12_readWhen_74 ⟨Nat.le_of_ble_eq_true rfl, Nat.le_of_ble_eq_true rfl⟩ (fun r_261 u_262 H locs hw hP hD hS => ?_)
          obtain ⟨he_r_261, hw⟩ := hw
          rcases hw with ⟨rfl, hf_264⟩ | ⟨rfl, hf_265⟩
          · skip
            refine lv_if_eq (tgt := 84) hx hb dX12_readWhen_77 (by decide) (fun _ => ?_) (fun h9 => absurd (by decide +kernel) h9)
            refine lv_iconst (v := 0) hx hb dX12_readWhen_84 (by decide) ?_
            refine z_callVv (As := [.int 0]) (rest := []) (wr := [(a_tape, .inl (cA.1 2, 900, .inl g_tape)), (a_c, .inl (cA.1 0, 1825, .inl g_103)), (a_words, .inl (cA.1 1, 105, .inr (.inl g_words)))]) ⟨hx, hb, hml, hown, hts⟩ hK hE hT hP hD hS hA (r_must_0 l G cA h0 m_status m_thrown m_above m_under a_traySort a_trayMany a_numbers a_tape m_taped m_textEnd m_faultKind m_faultAt n_95 n_96 n_89 n_90 n_91 n_92 n_93 n_94 a_c a_words m_markMany a_there a_tried a_best a_found m_thereMany m_foundMany m_orderHow m_orderRing m_orderMany m_hasBest m_bestTop m_bestBy a_weights a_shared m_random m_truePlace m_trueWay m_seconds m_done m_feelings m_tries m_leftOver m_playDoor m_playRing m_isOpen m_isOver m_wasTried m_hasPlayed a_feltNow a_last a_kept m_hasSeconds m_hasTurned m_hasRound a_hasFeels a_isOn m_firstAct m_meanTop m_meanBy a_order m_rowMany m_newSteps hr_n_90 hr_n_95 hr_n_89) lk_RX12_210 ⟨rfl, rfl⟩ ⟨Nat.le_of_ble_eq_true rfl, Nat.le_of_ble_eq_true rfl⟩ 12 rfl rfl rfl [3] [0, 1, 2] rfl rfl (by decide) rfl hl.1 rfl (lv_room (Nat.le_of_ble_eq_true rfl)) dX12_readWhen_85 ⟨Nat.le_of_ble_eq_true rfl, Nat.le_of_ble_eq_true rfl⟩ (fun u_269 H locs hw hP hD hS => ?_)
            obtain ⟨n_266, n_267⟩ := u_269
            try dsimp only at hw
            obtain ⟨he_n_266, he_n_267, hw⟩ := hw
            have hr_n_266 := hw
            refine lv_aload_n hx hb dX12_readWhen_88 rfl (lv_at hl 1 rfl) ?_
            refine va_get (D := G) (ci := 12) (v := .ref a_c) (C := RX12) (T := TX12) (N := 65) hx hb hts inT12 hown hK hP 3 rfl rfl 20 (by decide) (hts _ tw_1905) (fun _ h9 => h9) rfl dX12_readWhen_89 ?_
            refine lv_iload_n hx hb dX12_readWhen_92 rfl (lv_at hl 2 rfl) ?_
            refine lv_iconst (v := 2) hx hb dX12_readWhen_93 (by decide) ?_
            refine lv_iadd hx hb dX12_readWhen_94 ?_
            refine lv_topi (fun x_271 he_x_271 => ?_)
            have hq_x_271 := z_addq he_x_271 (rfl : w.toInt = _) hk_2 (by omega) (by omega)
            refine lv_iload_n hx hb dX12_readWhen_95 rfl (lv_at hl 0 rfl) ?_
            refine z_iast hx hb hK hP hD hS 1 0 rfl rfl (z_inN (by omega) (by omega)) dX12_readWhen_96 (fun g_272 hg_g_272 H locs hP hD hS => ?_)
            have hC_g_272 := z_ctUs hC_g_103 hg_g_272 (a := 1643) (b := 1817) (M := 6) (q := 5) (lo := (-2147483648)) (hi := 2147483647) (by decide +kernel) (by decide +kernel) (by omega) (by omega) (by omega) (z_full _)
            refine lv_aload_n hx hb dX12_readWhen_97 rfl (lv_at hl 1 rfl) ?_
            refine va_get (D := G) (ci := 12) (v := .ref a_c) (C := RX12) (T := TX12) (N := 65) hx hb hts inT12 hown hK hP 3 rfl rfl 20 (by decide) (hts _ tw_1905) (fun _ h9 => h9) rfl dX12_readWhen_98 ?_
            refine lv_iload_n hx hb dX12_readWhen_101 rfl (lv_at hl 2 rfl) ?_
            refine lv_iconst (v := 3) hx hb dX12_readWhen_102 (by decide) ?_
            refine lv_iadd hx hb dX12_readWhen_103 ?_
            refine lv_topi (fun x_273 he_x_273 => ?_)
            have hq_x_273 := z_addq he_x_273 (rfl : w.toInt = _) hk_3 (by omega) (by omega)
            refine lv_aload_n hx hb dX12_readWhen_104 rfl (lv_at hl 1 rfl) ?_
            refine lv_iconst (v := 0) hx hb dX12_readWhen_105 (by decide) ?_
            refine lv_iconst (v := 3) hx hb dX12_readWhen_106 (by decide) ?_
            refine z_callVi (As := [.int 0, .int 3]) (rest := [.int x_273, .ref a_c]) (wr := [(a_c, .inl (cA.1 0, 1825, .inl g_272)), (a_words, .inl (cA.1 1, 105, .inr (.inl g_words)))]) ⟨hx, hb, hml, hown, hts⟩ hK hE hT hP hD hS hA (r_count l G cA h0 m_status m_thrown m_above m_under a_traySort a_trayMany a_numbers a_tape m_taped m_textEnd m_faultKind m_faultAt n_266 n_267 n_89 n_90 n_91 n_92 n_93 n_94 a_c a_words m_markMany a_there a_tried a_best a_found m_thereMany m_foundMany m_orderHow m_orderRing m_orderMany m_hasBest m_bestTop m_bestBy a_weights a_shared m_random m_truePlace m_trueWay m_seconds m_done m_feelings m_tries m_leftOver m_playDoor m_playRing m_isOpen m_isOver m_wasTried m_hasPlayed a_feltNow a_last a_kept m_hasSeconds m_hasTurned m_hasRound a_hasFeels a_isOn m_firstAct m_meanTop m_meanBy a_order m_rowMany m_newSteps g_tape 0 3 (by decide +kernel) (by decide +kernel) hr_m_textEnd hr_n_90 hr_n_91 (z_rgw hr_n_266 (by decide) (by decide)) hr_n_89 hr_n_92 hr_n_93) lk_RX12_214 ⟨rfl, rfl⟩ ⟨Nat.le_of_ble_eq_true rfl, Nat.le_of_ble_eq_true rfl⟩ 12 rfl rfl rfl [3, 0] [1, 2] rfl rfl (by decide) rfl hl.1 rfl (lv_room (Nat.le_of_ble_eq_true rfl)) dX12_readWhen_107 ⟨Nat.le_of_ble_eq_true rfl, Nat.le_of_ble_eq_true rfl⟩ (fun r_282 u_283 H locs hw hP hD hS => ?_)
            obtain ⟨n_274, n_275, n_276, n_277, n_278, n_279, n_280, n_281⟩ := u_283
            try dsimp only at hw
            obtain ⟨he_r_282, he_n_274, he_n_275, he_n_276, he_n_277, he_n_278, he_n_279, he_n_280, he_n_281, hw⟩ := hw
            obtain ⟨hr_r_282, hr_n_274, hr_n_276, hr_n_277, hr_n_278, hr_n_279, hr_n_280, hf_285, hf_286, hf_287, hf_288, hf_289, hf_290⟩ := hw
            refine z_iast hx hb hK hP hD hS 0 0 rfl rfl (z_inN (by omega) (by omega)) dX12_readWhen_110 (fun g_291 hg_g_291 H locs hP hD hS => ?_)
            have hC_g_291 := z_ctUs hC_g_272 hg_g_291 (a := 1644) (b := 1818) (M := 6) (q := 0) (lo := (-2147483648)) (hi := 2147483647) (by decide +kernel) (by decide +kernel) (by omega) (by omega) (by omega) (z_full _)
            refine lv_goto (tgt := 167) hx hb dX12_readWhen_111 (by decide) ?_
            have hpost : (0 ≤ n_274.toInt ∧ n_274.toInt ≤ 9) ∧ (0 ≤ n_276.toInt ∧ n_276.toInt ≤ 4) ∧ (0 ≤ n_277.toInt ∧ n_277.toInt ≤ 900) ∧ (0 ≤ n_278.toInt ∧ n_278.toInt ≤ 900) ∧ (0 ≤ n_279.toInt ∧ n_279.toInt ≤ 9999) ∧ (0 ≤ n_280.toInt ∧ n_280.toInt ≤ 900) ∧ (zC g_291) ∧ (m_behind.toInt ≤ n_278.toInt) ∧ (0 < m_bad.toInt → 0 < n_274.toInt) ∧ (n_274.toInt ≤ 0 → n_276.toInt = 0 ∨ m_behind.toInt < n_278.toInt) := ⟨hr_n_274, hr_n_276, hr_n_277, hr_n_278, hr_n_279, hr_n_280, hC_g_291, (by omega), (by omega), (by omega)⟩
            have hX_292 : F_r_readWhen m_textEnd m_bad m_badAt m_behind m_number m_letters m_word g_tape g_c g_words w = ((n_274, n_275, n_276, n_277, n_278, n_279, n_280, n_281, g_291) : Int32 × Int32 × Int32 × Int32 × Int32 × Int32 × Int32 × Int64 × (Nat → Int32)) := by
              refine (F_r_readWhen_s ..).trans ?_
              extract_lets -merge -useContext +onlyGivenNames w9 y0_0 y0_1 y0_2 y0_3 y0_4 y0_5; have e9 : (n_1, n_2, n_3, n_4, n_5, n_6) = w9 := ((z_tS he_n_1 (z_tS he_n_2 (z_tS he_n_3 (z_tS he_n_4 (z_tS he_n_5 he_n_6.symm)))))).symm; clear_value w9; subst e9
              extract_lets -merge -useContext +onlyGivenNames w9 y9; have e9 : (1 : Int32) = w9 := he_r_12; clear_value w9; subst e9
              refine (if_neg (show ¬ (1 : Int32) = 0 by decide)).trans ?_
              extract_lets -merge -useContext +onlyGivenNames w9 y3_0 y3_1 y3_2 y3_3 y3_4 y3_5; have e9 : (n_76, n_77, n_78, n_79, n_80, n_81) = w9 := ((z_tS he_n_76 (z_tS he_n_77 (z_tS he_n_78 (z_tS he_n_79 (z_tS he_n_80 he_n_81.symm)))))).symm; clear_value w9; subst e9
              try (extract_lets -merge -useContext +onlyGivenNames y9; have e9 : g_87 = y9 := (by first | exact hg_g_87 | exact hg_g_87.symm); clear_value y9; subst e9)
              try (extract_lets -merge -useContext +onlyGivenNames y9; have e9 : x_88 = y9 := (by first | exact he_x_88 | exact he_x_88.symm); clear_value y9; subst e9)
              extract_lets -merge -useContext +onlyGivenNames w9 y6_0 y6_1 y6_2 y6_3 y6_4 y6_5 y6_6 y6_7 y6_8; have e9 : (r_97, n_89, n_90, n_91, n_92, n_93, n_94, n_95, n_96) = w9 := ((z_tS he_r_97 (z_tS he_n_89 (z_tS he_n_90 (z_tS he_n_91 (z_tS he_n_92 (z_tS he_n_93 (z_tS he_n_94 (z_tS he_n_95 he_n_96.symm))))))))).symm; clear_value w9; subst e9
              try (extract_lets -merge -useContext +onlyGivenNames y9; have e9 : g_103 = y9 := (by first | exact hg_g_103 | exact hg_g_103.symm); clear_value y9; subst e9)
              refine (if_pos c_104).trans ?_
              extract_lets -merge -useContext +onlyGivenNames w9 y9; have e9 : (0 : Int32) = w9 := he_r_251; clear_value w9; subst e9
              refine (if_pos rfl).trans ?_
              extract_lets -merge -useContext +onlyGivenNames w9 y9; have e9 : (0 : Int32) = w9 := he_r_256; clear_value w9; subst e9
              refine (if_pos rfl).trans ?_
              extract_lets -merge -useContext +onlyGivenNames w9 y9; have e9 : (0 : Int32) = w9 := he_r_261; clear_value w9; subst e9
              refine (if_pos rfl).trans ?_
              extract_lets -merge -useContext +onlyGivenNames w9 y15_0 y15_1; have e9 : (n_266, n_267) = w9 := ((z_tS he_n_266 he_n_267.symm)).symm; clear_value w9; subst e9
              try (extract_lets -merge -useContext +onlyGivenNames y9; have e9 : x_271 = y9 := (by first | exact he_x_271 | exact he_x_271.symm); clear_value y9; subst e9)
              try (extract_lets -merge -useContext +onlyGivenNames y9; have e9 : g_272 = y9 := (by first | exact hg_g_272 | exact hg_g_272.symm); clear_value y9; subst e9)
              try (extract_lets -merge -useContext +onlyGivenNames y9; have e9 : x_273 = y9 := (by first | exact he_x_273 | exact he_x_273.symm); clear_value y9; subst e9)
              extract_lets -merge -useContext +onlyGivenNames w9 y19_0 y19_1 y19_2 y19_3 y19_4 y19_5 y19_6 y19_7 y19_8; have e9 : (r_282, n_274, n_275, n_276, n_277, n_278, n_279, n_280, n_281) = w9 := ((z_tS he_r_282 (z_tS he_n_274 (z_tS he_n_275 (z_tS he_n_276 (z_tS he_n_277 (z_tS he_n_278 (z_tS he_n_279 (z_tS he_n_280 he_n_281.symm))))))))).symm; clear_value w9; subst e9
              try (extract_lets -merge -useContext +onlyGivenNames y9; have e9 : g_291 = y9 := (by first | exact hg_g_291 | exact hg_g_291.symm); clear_value y9; subst e9)
              exact rfl
            exact hret _ _ _ _ _ (n_274, n_275, n_276, n_277, n_278, n_279, n_280, n_281, g_291) [2, 3, 0, 1] hP hD hS rfl (by decide) dX12_readWhen_167 ⟨(congrArg (fun z9 => z9.1) hX_292).symm, (congrArg (fun z9 => z9.2.1) hX_292).symm, (congrArg (fun z9 => z9.2.2.1) hX_292).symm, (congrArg (fun z9 => z9.2.2.2.1) hX_292).symm, (congrArg (fun z9 => z9.2.2.2.2.1) hX_292).symm, (congrArg (fun z9 => z9.2.2.2.2.2.1) hX_292).symm, (congrArg (fun z9 => z9.2.2.2.2.2.2.1) hX_292).symm, (congrArg (fun z9 => z9.2.2.2.2.2.2.2.1) hX_292).symm, (congrArg (fun z9 => z9.2.2.2.2.2.2.2.2) hX_292).symm, hpost⟩
          · skip
            refine lv_if_eq (tgt := 84) hx hb dX12_readWhen_77 (by decide) (fun h9 => absurd h9 (by decide +kernel)) (fun _ => ?_)
            refine lv_iconst (v := 1) hx hb dX12_readWhen_80 (by decide) ?_
            refine lv_goto (tgt := 85) hx hb dX12_readWhen_81 (by decide) ?_
            refine z_callVv (As := [.int 1]) (rest := []) (wr := [(a_c, .inl (cA.1 0, 1825, .inl g_103)), (a_words, .inl (cA.1 1, 105, .inr (.inl g_words)))]) ⟨hx, hb, hml, hown, hts⟩ hK hE hT hP hD hS hA (r_must_1 l G cA h0 m_status m_thrown m_above m_under a_traySort a_trayMany a_numbers a_tape m_taped m_textEnd m_faultKind m_faultAt n_95 n_96 n_89 n_90 n_91 n_92 n_93 n_94 a_c a_words m_markMany a_there a_tried a_best a_found m_thereMany m_foundMany m_orderHow m_orderRing m_orderMany m_hasBest m_bestTop m_bestBy a_weights a_shared m_random m_truePlace m_trueWay m_seconds m_done m_feelings m_tries m_leftOver m_playDoor m_playRing m_isOpen m_isOver m_wasTried m_hasPlayed a_feltNow a_last a_kept m_hasSeconds m_hasTurned m_hasRound a_hasFeels a_isOn m_firstAct m_meanTop m_meanBy a_order m_rowMany m_newSteps g_tape hr_m_textEnd hr_n_90 hr_n_91 hr_n_95 hr_n_89 hr_n_92 hr_n_93) lk_RX12_210 ⟨rfl, rfl⟩ ⟨Nat.le_of_ble_eq_true rfl, Nat.le_of_ble_eq_true rfl⟩ 12 rfl rfl rfl [3, 0] [1, 2] rfl rfl (by decide) rfl hl.1 rfl (lv_room (Nat.le_of_ble_eq_true rfl)) dX12_readWhen_85 ⟨Nat.le_of_ble_eq_true rfl, Nat.le_of_ble_eq_true rfl⟩ (fun u_300 H locs hw hP hD hS => ?_)
            obtain ⟨n_293, n_294, n_295, n_296, n_297, n_298⟩ := u_300
            try dsimp only at hw
            obtain ⟨he_n_293, he_n_294, he_n_295, he_n_296, he_n_297, he_n_298, hw⟩ := hw
            obtain ⟨hr_n_293, hr_n_294, hr_n_295, hr_n_296, hr_n_297, hf_302, hf_303, hf_304⟩ := hw
            refine lv_aload_n hx hb dX12_readWhen_88 rfl (lv_at hl 1 rfl) ?_
            refine va_get (D := G) (ci := 12) (v := .ref a_c) (C := RX12) (T := TX12) (N := 65) hx hb hts inT12 hown hK hP 2 rfl rfl 20 (by decide) (hts _ tw_1905) (fun _ h9 => h9) rfl dX12_readWhen_89 ?_
            refine lv_iload_n hx hb dX12_readWhen_92 rfl (lv_at hl 2 rfl) ?_
            refine lv_iconst (v := 2) hx hb dX12_readWhen_93 (by decide) ?_
            refine lv_iadd hx hb dX12_readWhen_94 ?_
            refine lv_topi (fun x_305 he_x_305 => ?_)
            have hq_x_305 := z_addq he_x_305 (rfl : w.toInt = _) hk_2 (by omega) (by omega)
            refine lv_iload_n hx hb dX12_readWhen_95 rfl (lv_at hl 0 rfl) ?_
            refine z_iast hx hb hK hP hD hS 0 0 rfl rfl (z_inN (by omega) (by omega)) dX12_readWhen_96 (fun g_306 hg_g_306 H locs hP hD hS => ?_)
            have hC_g_306 := z_ctUs hC_g_103 hg_g_306 (a := 1643) (b := 1817) (M := 6) (q := 5) (lo := (-2147483648)) (hi := 2147483647) (by decide +kernel) (by decide +kernel) (by omega) (by omega) (by omega) (z_full _)
            refine lv_aload_n hx hb dX12_readWhen_97 rfl (lv_at hl 1 rfl) ?_
            refine va_get (D := G) (ci := 12) (v := .ref a_c) (C := RX12) (T := TX12) (N := 65) hx hb hts inT12 hown hK hP 2 rfl rfl 20 (by decide) (hts _ tw_1905) (fun _ h9 => h9) rfl dX12_readWhen_98 ?_
            refine lv_iload_n hx hb dX12_readWhen_101 rfl (lv_at hl 2 rfl) ?_
            refine lv_iconst (v := 3) hx hb dX12_readWhen_102 (by decide) ?_
            refine lv_iadd hx hb dX12_readWhen_103 ?_
            refine lv_topi (fun x_307 he_x_307 => ?_)
            have hq_x_307 := z_addq he_x_307 (rfl : w.toInt = _) hk_3 (by omega) (by omega)
            refine lv_aload_n hx hb dX12_readWhen_104 rfl (lv_at hl 1 rfl) ?_
            refine lv_iconst (v := 0) hx hb dX12_readWhen_105 (by decide) ?_
            refine lv_iconst (v := 3) hx hb dX12_readWhen_106 (by decide) ?_
            refine z_callVi (As := [.int 0, .int 3]) (rest := [.int x_307, .ref a_c]) (wr := [(a_c, .inl (cA.1 0, 1825, .inl g_306)), (a_words, .inl (cA.1 1, 105, .inr (.inl g_words)))]) ⟨hx, hb, hml, hown, hts⟩ hK hE hT hP hD hS hA (r_count l G cA h0 m_status m_thrown m_above m_under a_traySort a_trayMany a_numbers a_tape m_taped m_textEnd m_faultKind m_faultAt n_95 n_96 n_293 n_294 n_295 n_296 n_297 n_298 a_c a_words m_markMany a_there a_tried a_best a_found m_thereMany m_foundMany m_orderHow m_orderRing m_orderMany m_hasBest m_bestTop m_bestBy a_weights a_shared m_random m_truePlace m_trueWay m_seconds m_done m_feelings m_tries m_leftOver m_playDoor m_playRing m_isOpen m_isOver m_wasTried m_hasPlayed a_feltNow a_last a_kept m_hasSeconds m_hasTurned m_hasRound a_hasFeels a_isOn m_firstAct m_meanTop m_meanBy a_order m_rowMany m_newSteps g_tape 0 3 (by decide +kernel) (by decide +kernel) hr_m_textEnd hr_n_294 hr_n_295 hr_n_95 hr_n_293 hr_n_296 hr_n_297) lk_RX12_214 ⟨rfl, rfl⟩ ⟨Nat.le_of_ble_eq_true rfl, Nat.le_of_ble_eq_true rfl⟩ 12 rfl rfl rfl [2, 3] [0, 1] rfl rfl (by decide) rfl hl.1 rfl (lv_room (Nat.le_of_ble_eq_true rfl)) dX12_readWhen_107 ⟨Nat.le_of_ble_eq_true rfl, Nat.le_of_ble_eq_true rfl⟩ (fun r_316 u_317 H locs hw hP hD hS => ?_)
            obtain ⟨n_308, n_309, n_310, n_311, n_312, n_313, n_314, n_315⟩ := u_317
            try dsimp only at hw
            obtain ⟨he_r_316, he_n_308, he_n_309, he_n_310, he_n_311, he_n_312, he_n_313, he_n_314, he_n_315, hw⟩ := hw
            obtain ⟨hr_r_316, hr_n_308, hr_n_310, hr_n_311, hr_n_312, hr_n_313, hr_n_314, hf_319, hf_320, hf_321, hf_322, hf_323, hf_324⟩ := hw
            refine z_iast hx hb hK hP hD hS 0 0 rfl rfl (z_inN (by omega) (by omega)) dX12_readWhen_110 (fun g_325 hg_g_325 H locs hP hD hS => ?_)
            have hC_g_325 := z_ctUs hC_g_306 hg_g_325 (a := 1644) (b := 1818) (M := 6) (q := 0) (lo := (-2147483648)) (hi := 2147483647) (by decide +kernel) (by decide +kernel) (by omega) (by omega) (by omega) (z_full _)
            refine lv_goto (tgt := 167) hx hb dX12_readWhen_111 (by decide) ?_
            have hpost : (0 ≤ n_308.toInt ∧ n_308.toInt ≤ 9) ∧ (0 ≤ n_310.toInt ∧ n_310.toInt ≤ 4) ∧ (0 ≤ n_311.toInt ∧ n_311.toInt ≤ 900) ∧ (0 ≤ n_312.toInt ∧ n_312.toInt ≤ 900) ∧ (0 ≤ n_313.toInt ∧ n_313.toInt ≤ 9999) ∧ (0 ≤ n_314.toInt ∧ n_314.toInt ≤ 900) ∧ (zC g_325) ∧ (m_behind.toInt ≤ n_312.toInt) ∧ (0 < m_bad.toInt → 0 < n_308.toInt) ∧ (n_308.toInt ≤ 0 → n_310.toInt = 0 ∨ m_behind.toInt < n_312.toInt) := ⟨hr_n_308, hr_n_310, hr_n_311, hr_n_312, hr_n_313, hr_n_314, hC_g_325, (by omega), (by omega), (by omega)⟩
            have hX_326 : F_r_readWhen m_textEnd m_bad m_badAt m_behind m_number m_letters m_word g_tape g_c g_words w = ((n_308, n_309, n_310, n_311, n_312, n_313, n_314, n_315, g_325) : Int32 × Int32 × Int32 × Int32 × Int32 × Int32 × Int32 × Int64 × (Nat → Int32)) := by
              refine (F_r_readWhen_s ..).trans ?_
              extract_lets -merge -useContext +onlyGivenNames w9 y0_0 y0_1 y0_2 y0_3 y0_4 y0_5; have e9 : (n_1, n_2, n_3, n_4, n_5, n_6) = w9 := ((z_tS he_n_1 (z_tS he_n_2 (z_tS he_n_3 (z_tS he_n_4 (z_tS he_n_5 he_n_6.symm)))))).symm; clear_value w9; subst e9
              extract_lets -merge -useContext +onlyGivenNames w9 y9; have e9 : (1 : Int32) = w9 := he_r_12; clear_value w9; subst e9
              refine (if_neg (show ¬ (1 : Int32) = 0 by decide)).trans ?_
              extract_lets -merge -useContext +onlyGivenNames w9 y3_0 y3_1 y3_2 y3_3 y3_4 y3_5; have e9 : (n_76, n_77, n_78, n_79, n_80, n_81) = w9 := ((z_tS he_n_76 (z_tS he_n_77 (z_tS he_n_78 (z_tS he_n_79 (z_tS he_n_80 he_n_81.symm)))))).symm; clear_value w9; subst e9
              try (extract_lets -merge -useContext +onlyGivenNames y9; have e9 : g_87 = y9 := (by first | exact hg_g_87 | exact hg_g_87.symm); clear_value y9; subst e9)
              try (extract_lets -merge -useContext +onlyGivenNames y9; have e9 : x_88 = y9 := (by first | exact he_x_88 | exact he_x_88.symm); clear_value y9; subst e9)
              extract_lets -merge -useContext +onlyGivenNames w9 y6_0 y6_1 y6_2 y6_3 y6_4 y6_5 y6_6 y6_7 y6_8; have e9 : (r_97, n_89, n_90, n_91, n_92, n_93, n_94, n_95, n_96) = w9 := ((z_tS he_r_97 (z_tS he_n_89 (z_tS he_n_90 (z_tS he_n_91 (z_tS he_n_92 (z_tS he_n_93 (z_tS he_n_94 (z_tS he_n_95 he_n_96.symm))))))))).symm; clear_value w9; subst e9
              try (extract_lets -merge -useContext +onlyGivenNames y9; have e9 : g_103 = y9 := (by first | exact hg_g_103 | exact hg_g_103.symm); clear_value y9; subst e9)
              refine (if_pos c_104).trans ?_
              extract_lets -merge -useContext +onlyGivenNames w9 y9; have e9 : (0 : Int32) = w9 := he_r_251; clear_value w9; subst e9
              refine (if_pos rfl).trans ?_
              extract_lets -merge -useContext +onlyGivenNames w9 y9; have e9 : (0 : Int32) = w9 := he_r_256; clear_value w9; subst e9
              refine (if_pos rfl).trans ?_
              extract_lets -merge -useContext +onlyGivenNames w9 y9; have e9 : (1 : Int32) = w9 := he_r_261; clear_value w9; subst e9
              refine (if_neg (show ¬ (1 : Int32) = 0 by decide)).trans ?_
              extract_lets -merge -useContext +onlyGivenNames w9 y15_0 y15_1 y15_2 y15_3 y15_4 y15_5; have e9 : (n_293, n_294, n_295, n_296, n_297, n_298) = w9 := ((z_tS he_n_293 (z_tS he_n_294 (z_tS he_n_295 (z_tS he_n_296 (z_tS he_n_297 he_n_298.symm)))))).symm; clear_value w9; subst e9
              try (extract_lets -merge -useContext +onlyGivenNames y9; have e9 : x_305 = y9 := (by first | exact he_x_305 | exact he_x_305.symm); clear_value y9; subst e9)
              try (extract_lets -merge -useContext +onlyGivenNames y9; have e9 : g_306 = y9 := (by first | exact hg_g_306 | exact hg_g_306.symm); clear_value y9; subst e9)
              try (extract_lets -merge -useContext +onlyGivenNames y9; have e9 : x_307 = y9 := (by first | exact he_x_307 | exact he_x_307.symm); clear_value y9; subst e9)
              extract_lets -merge -useContext +onlyGivenNames w9 y19_0 y19_1 y19_2 y19_3 y19_4 y19_5 y19_6 y19_7 y19_8; have e9 : (r_316, n_308, n_309, n_310, n_311, n_312, n_313, n_314, n_315) = w9 := ((z_tS he_r_316 (z_tS he_n_308 (z_tS he_n_309 (z_tS he_n_310 (z_tS he_n_311 (z_tS he_n_312 (z_tS he_n_313 (z_tS he_n_314 he_n_315.symm))))))))).symm; clear_value w9; subst e9
              try (extract_lets -merge -useContext +onlyGivenNames y9; have e9 : g_325 = y9 := (by first | exact hg_g_325 | exact hg_g_325.symm); clear_value y9; subst e9)
              exact rfl
            exact hret _ _ _ _ _ (n_308, n_309, n_310, n_311, n_312, n_313, n_314, n_315, g_325) [2, 3, 0, 1] hP hD hS rfl (by decide) dX12_readWhen_167 ⟨(congrArg (fun z9 => z9.1) hX_326).symm, (congrArg (fun z9 => z9.2.1) hX_326).symm, (congrArg (fun z9 => z9.2.2.1) hX_326).symm, (congrArg (fun z9 => z9.2.2.2.1) hX_326).symm, (congrArg (fun z9 => z9.2.2.2.2.1) hX_326).symm, (congrArg (fun z9 => z9.2.2.2.2.2.1) hX_326).symm, (congrArg (fun z9 => z9.2.2.2.2.2.2.1) hX_326).symm, (congrArg (fun z9 => z9.2.2.2.2.2.2.2.1) hX_326).symm, (congrArg (fun z9 => z9.2.2.2.2.2.2.2.2) hX_326).symm, hpost⟩
        · skip
          refine lv_if_ne (tgt := 80) hx hb dX12_readWhen_68 (by decide) (fun _ => ?_) (fun h9 => absurd h9 (by decide +kernel))
          refine lv_iconst (v := 1) hx hb dX12_readWhen_80 (by decide) ?_
          refine lv_goto (tgt := 85) hx hb dX12_readWhen_81 (by decide) ?_
          refine z_callVv (As := [.int 1]) (rest := []) (wr := [(a_c, .inl (cA.1 0, 1825, .inl g_103)), (a_words, .inl (cA.1 1, 105, .inr (.inl g_words)))]) ⟨hx, hb, hml, hown, hts⟩ hK hE hT hP hD hS hA (r_must_1 l G cA h0 m_status m_thrown m_above m_under a_traySort a_trayMany a_numbers a_tape m_taped m_textEnd m_faultKind m_faultAt n_95 n_96 n_89 n_90 n_91 n_92 n_93 n_94 a_c a_words m_markMany a_there a_tried a_best a_found m_thereMany m_foundMany m_orderHow m_orderRing m_orderMany m_hasBest m_bestTop m_bestBy a_weights a_shared m_random m_truePlace m_trueWay m_seconds m_done m_feelings m_tries m_leftOver m_playDoor m_playRing m_isOpen m_isOver m_wasTried m_hasPlayed a_feltNow a_last a_kept m_hasSeconds m_hasTurned m_hasRound a_hasFeels a_isOn m_firstAct m_meanTop m_meanBy a_order m_rowMany m_newSteps g_tape hr_m_textEnd hr_n_90 hr_n_91 hr_n_95 hr_n_89 hr_n_92 hr_n_93) lk_RX12_210 ⟨rfl, rfl⟩ ⟨Nat.le_of_ble_eq_true rfl, Nat.le_of_ble_eq_true rfl⟩ 12 rfl rfl rfl [3, 0] [1, 2] rfl rfl (by decide) rfl hl.1 rfl (lv_room (Nat.le_of_ble_eq_true rfl)) dX12_readWhen_85 ⟨Nat.le_of_ble_eq_true rfl, Nat.le_of_ble_eq_true rfl⟩ (fun u_334 H locs hw hP hD hS => ?_)
          obtain ⟨n_327, n_328, n_329, n_330, n_331, n_332⟩ := u_334
          try dsimp only at hw
          obtain ⟨he_n_327, he_n_328, he_n_329, he_n_330, he_n_331, he_n_332, hw⟩ := hw
          obtain ⟨hr_n_327, hr_n_328, hr_n_329, hr_n_330, hr_n_331, hf_336, hf_337, hf_338⟩ := hw
          refine lv_aload_n hx hb dX12_readWhen_88 rfl (lv_at hl 1 rfl) ?_
          refine va_get (D := G) (ci := 12) (v := .ref a_c) (C := RX12) (T := TX12) (N := 65) hx hb hts inT12 hown hK hP 2 rfl rfl 20 (by decide) (hts _ tw_1905) (fun _ h9 => h9) rfl dX12_readWhen_89 ?_
          refine lv_iload_n hx hb dX12_readWhen_92 rfl (lv_at hl 2 rfl) ?_
          refine lv_iconst (v := 2) hx hb dX12_readWhen_93 (by decide) ?_
          refine lv_iadd hx hb dX12_readWhen_94 ?_
          refine lv_topi (fun x_339 he_x_339 => ?_)
          have hq_x_339 := z_addq he_x_339 (rfl : w.toInt = _) hk_2 (by omega) (by omega)
          refine lv_iload_n hx hb dX12_readWhen_95 rfl (lv_at hl 0 rfl) ?_
          refine z_iast hx hb hK hP hD hS 0 0 rfl rfl (z_inN (by omega) (by omega)) dX12_readWhen_96 (fun g_340 hg_g_340 H locs hP hD hS => ?_)
          have hC_g_340 := z_ctUs hC_g_103 hg_g_340 (a := 1643) (b := 1817) (M := 6) (q := 5) (lo := (-2147483648)) (hi := 2147483647) (by decide +kernel) (by decide +kernel) (by omega) (by omega) (by omega) (z_full _)
          refine lv_aload_n hx hb dX12_readWhen_97 rfl (lv_at hl 1 rfl) ?_
          refine va_get (D := G) (ci := 12) (v := .ref a_c) (C := RX12) (T := TX12) (N := 65) hx hb hts inT12 hown hK hP 2 rfl rfl 20 (by decide) (hts _ tw_1905) (fun _ h9 => h9) rfl dX12_readWhen_98 ?_
          refine lv_iload_n hx hb dX12_readWhen_101 rfl (lv_at hl 2 rfl) ?_
          refine lv_iconst (v := 3) hx hb dX12_readWhen_102 (by decide) ?_
          refine lv_iadd hx hb dX12_readWhen_103 ?_
          refine lv_topi (fun x_341 he_x_341 => ?_)
          have hq_x_341 := z_addq he_x_341 (rfl : w.toInt = _) hk_3 (by omega) (by omega)
          refine lv_aload_n hx hb dX12_readWhen_104 rfl (lv_at hl 1 rfl) ?_
          refine lv_iconst (v := 0) hx hb dX12_readWhen_105 (by decide) ?_
          refine lv_iconst (v := 3) hx hb dX12_readWhen_106 (by decide) ?_
          refine z_callVi (As := [.int 0, .int 3]) (rest := [.int x_341, .ref a_c]) (wr := [(a_c, .inl (cA.1 0, 1825, .inl g_340)), (a_words, .inl (cA.1 1, 105, .inr (.inl g_words)))]) ⟨hx, hb, hml, hown, hts⟩ hK hE hT hP hD hS hA (r_count l G cA h0 m_status m_thrown m_above m_under a_traySort a_trayMany a_numbers a_tape m_taped m_textEnd m_faultKind m_faultAt n_95 n_96 n_327 n_328 n_329 n_330 n_331 n_332 a_c a_words m_markMany a_there a_tried a_best a_found m_thereMany m_foundMany m_orderHow m_orderRing m_orderMany m_hasBest m_bestTop m_bestBy a_weights a_shared m_random m_truePlace m_trueWay m_seconds m_done m_feelings m_tries m_leftOver m_playDoor m_playRing m_isOpen m_isOver m_wasTried m_hasPlayed a_feltNow a_last a_kept m_hasSeconds m_hasTurned m_hasRound a_hasFeels a_isOn m_firstAct m_meanTop m_meanBy a_order m_rowMany m_newSteps g_tape 0 3 (by decide +kernel) (by decide +kernel) hr_m_textEnd hr_n_328 hr_n_329 hr_n_95 hr_n_327 hr_n_330 hr_n_331) lk_RX12_214 ⟨rfl, rfl⟩ ⟨Nat.le_of_ble_eq_true rfl, Nat.le_of_ble_eq_true rfl⟩ 12 rfl rfl rfl [2, 3] [0, 1] rfl rfl (by decide) rfl hl.1 rfl (lv_room (Nat.le_of_ble_eq_true rfl)) dX12_readWhen_107 ⟨Nat.le_of_ble_eq_true rfl, Nat.le_of_ble_eq_true rfl⟩ (fun r_350 u_351 H locs hw hP hD hS => ?_)
          obtain ⟨n_342, n_343, n_344, n_345, n_346, n_347, n_348, n_349⟩ := u_351
          try dsimp only at hw
          obtain ⟨he_r_350, he_n_342, he_n_343, he_n_344, he_n_345, he_n_346, he_n_347, he_n_348, he_n_349, hw⟩ := hw
          obtain ⟨hr_r_350, hr_n_342, hr_n_344, hr_n_345, hr_n_346, hr_n_347, hr_n_348, hf_353, hf_354, hf_355, hf_356, hf_357, hf_358⟩ := hw
          refine z_iast hx hb hK hP hD hS 0 0 rfl rfl (z_inN (by omega) (by omega)) dX12_readWhen_110 (fun g_359 hg_g_359 H locs hP hD hS => ?_)
          have hC_g_359 := z_ctUs hC_g_340 hg_g_359 (a := 1644) (b := 1818) (M := 6) (q := 0) (lo := (-2147483648)) (hi := 2147483647) (by decide +kernel) (by decide +kernel) (by omega) (by omega) (by omega) (z_full _)
          refine lv_goto (tgt := 167) hx hb dX12_readWhen_111 (by decide) ?_
          have hpost : (0 ≤ n_342.toInt ∧ n_342.toInt ≤ 9) ∧ (0 ≤ n_344.toInt ∧ n_344.toInt ≤ 4) ∧ (0 ≤ n_345.toInt ∧ n_345.toInt ≤ 900) ∧ (0 ≤ n_346.toInt ∧ n_346.toInt ≤ 900) ∧ (0 ≤ n_347.toInt ∧ n_347.toInt ≤ 9999) ∧ (0 ≤ n_348.toInt ∧ n_348.toInt ≤ 900) ∧ (zC g_359) ∧ (m_behind.toInt ≤ n_346.toInt) ∧ (0 < m_bad.toInt → 0 < n_342.toInt) ∧ (n_342.toInt ≤ 0 → n_344.toInt = 0 ∨ m_behind.toInt < n_346.toInt) := ⟨hr_n_342, hr_n_344, hr_n_345, hr_n_346, hr_n_347, hr_n_348, hC_g_359, (by omega), (by omega), (by omega)⟩
          have hX_360 : F_r_readWhen m_textEnd m_bad m_badAt m_behind m_number m_letters m_word g_tape g_c g_words w = ((n_342, n_343, n_344, n_345, n_346, n_347, n_348, n_349, g_359) : Int32 × Int32 × Int32 × Int32 × Int32 × Int32 × Int32 × Int64 × (Nat → Int32)) := by
            refine (F_r_readWhen_s ..).trans ?_
            extract_lets -merge -useContext +onlyGivenNames w9 y0_0 y0_1 y0_2 y0_3 y0_4 y0_5; have e9 : (n_1, n_2, n_3, n_4, n_5, n_6) = w9 := ((z_tS he_n_1 (z_tS he_n_2 (z_tS he_n_3 (z_tS he_n_4 (z_tS he_n_5 he_n_6.symm)))))).symm; clear_value w9; subst e9
            extract_lets -merge -useContext +onlyGivenNames w9 y9; have e9 : (1 : Int32) = w9 := he_r_12; clear_value w9; subst e9
            refine (if_neg (show ¬ (1 : Int32) = 0 by decide)).trans ?_
            extract_lets -merge -useContext +onlyGivenNames w9 y3_0 y3_1 y3_2 y3_3 y3_4 y3_5; have e9 : (n_76, n_77, n_78, n_79, n_80, n_81) = w9 := ((z_tS he_n_76 (z_tS he_n_77 (z_tS he_n_78 (z_tS he_n_79 (z_tS he_n_80 he_n_81.symm)))))).symm; clear_value w9; subst e9
            try (extract_lets -merge -useContext +onlyGivenNames y9; have e9 : g_87 = y9 := (by first | exact hg_g_87 | exact hg_g_87.symm); clear_value y9; subst e9)
            try (extract_lets -merge -useContext +onlyGivenNames y9; have e9 : x_88 = y9 := (by first | exact he_x_88 | exact he_x_88.symm); clear_value y9; subst e9)
            extract_lets -merge -useContext +onlyGivenNames w9 y6_0 y6_1 y6_2 y6_3 y6_4 y6_5 y6_6 y6_7 y6_8; have e9 : (r_97, n_89, n_90, n_91, n_92, n_93, n_94, n_95, n_96) = w9 := ((z_tS he_r_97 (z_tS he_n_89 (z_tS he_n_90 (z_tS he_n_91 (z_tS he_n_92 (z_tS he_n_93 (z_tS he_n_94 (z_tS he_n_95 he_n_96.symm))))))))).symm; clear_value w9; subst e9
            try (extract_lets -merge -useContext +onlyGivenNames y9; have e9 : g_103 = y9 := (by first | exact hg_g_103 | exact hg_g_103.symm); clear_value y9; subst e9)
            refine (if_pos c_104).trans ?_
            extract_lets -merge -useContext +onlyGivenNames w9 y9; have e9 : (0 : Int32) = w9 := he_r_251; clear_value w9; subst e9
            refine (if_pos rfl).trans ?_
            extract_lets -merge -useContext +onlyGivenNames w9 y9; have e9 : (1 : Int32) = w9 := he_r_256; clear_value w9; subst e9
            refine (if_neg (show ¬ (1 : Int32) = 0 by decide)).trans ?_
            extract_lets -merge -useContext +onlyGivenNames w9 y13_0 y13_1 y13_2 y13_3 y13_4 y13_5; have e9 : (n_327, n_328, n_329, n_330, n_331, n_332) = w9 := ((z_tS he_n_327 (z_tS he_n_328 (z_tS he_n_329 (z_tS he_n_330 (z_tS he_n_331 he_n_332.symm)))))).symm; clear_value w9; subst e9
            try (extract_lets -merge -useContext +onlyGivenNames y9; have e9 : x_339 = y9 := (by first | exact he_x_339 | exact he_x_339.symm); clear_value y9; subst e9)
            try (extract_lets -merge -useContext +onlyGivenNames y9; have e9 : g_340 = y9 := (by first | exact hg_g_340 | exact hg_g_340.symm); clear_value y9; subst e9)
            try (extract_lets -merge -useContext +onlyGivenNames y9; have e9 : x_341 = y9 := (by first | exact he_x_341 | exact he_x_341.symm); clear_value y9; subst e9)
            extract_lets -merge -useContext +onlyGivenNames w9 y17_0 y17_1 y17_2 y17_3 y17_4 y17_5 y17_6 y17_7 y17_8; have e9 : (r_350, n_342, n_343, n_344, n_345, n_346, n_347, n_348, n_349) = w9 := ((z_tS he_r_350 (z_tS he_n_342 (z_tS he_n_343 (z_tS he_n_344 (z_tS he_n_345 (z_tS he_n_346 (z_tS he_n_347 (z_tS he_n_348 he_n_349.symm))))))))).symm; clear_value w9; subst e9
            try (extract_lets -merge -useContext +onlyGivenNames y9; have e9 : g_359 = y9 := (by first | exact hg_g_359 | exact hg_g_359.symm); clear_value y9; subst e9)
            exact rfl
          exact hret _ _ _ _ _ (n_342, n_343, n_344, n_345, n_346, n_347, n_348, n_349, g_359) [2, 3, 0, 1] hP hD hS rfl (by decide) dX12_readWhen_167 ⟨(congrArg (fun z9 => z9.1) hX_360).symm, (congrArg (fun z9 => z9.2.1) hX_360).symm, (congrArg (fun z9 => z9.2.2.1) hX_360).symm, (congrArg (fun z9 => z9.2.2.2.1) hX_360).symm, (congrArg (fun z9 => z9.2.2.2.2.1) hX_360).symm, (congrArg (fun z9 => z9.2.2.2.2.2.1) hX_360).symm, (congrArg (fun z9 => z9.2.2.2.2.2.2.1) hX_360).symm, (congrArg (fun z9 => z9.2.2.2.2.2.2.2.1) hX_360).symm, (congrArg (fun z9 => z9.2.2.2.2.2.2.2.2) hX_360).symm, hpost⟩
      · skip
        refine lv_if_ne (tgt := 80) hx hb dX12_readWhen_59 (by decide) (fun _ => ?_) (fun h9 => absurd h9 (by decide +kernel))
        refine lv_iconst (v := 1) hx hb dX12_readWhen_80 (by decide) ?_
        refine lv_goto (tgt := 85) hx hb dX12_readWhen_81 (by decide) ?_
        refine z_callVv (As := [.int 1]) (rest := []) (wr := [(a_c, .inl (cA.1 0, 1825, .inl g_103)), (a_words, .inl (cA.1 1, 105, .inr (.inl g_words)))]) ⟨hx, hb, hml, hown, hts⟩ hK hE hT hP hD hS hA (r_must_1 l G cA h0 m_status m_thrown m_above m_under a_traySort a_trayMany a_numbers a_tape m_taped m_textEnd m_faultKind m_faultAt n_95 n_96 n_89 n_90 n_91 n_92 n_93 n_94 a_c a_words m_markMany a_there a_tried a_best a_found m_thereMany m_foundMany m_orderHow m_orderRing m_orderMany m_hasBest m_bestTop m_bestBy a_weights a_shared m_random m_truePlace m_trueWay m_seconds m_done m_feelings m_tries m_leftOver m_playDoor m_playRing m_isOpen m_isOver m_wasTried m_hasPlayed a_feltNow a_last a_kept m_hasSeconds m_hasTurned m_hasRound a_hasFeels a_isOn m_firstAct m_meanTop m_meanBy a_order m_rowMany m_newSteps g_tape hr_m_textEnd hr_n_90 hr_n_91 hr_n_95 hr_n_89 hr_n_92 hr_n_93) lk_RX12_210 ⟨rfl, rfl⟩ ⟨Nat.le_of_ble_eq_true rfl, Nat.le_of_ble_eq_true rfl⟩ 12 rfl rfl rfl [3, 0] [1, 2] rfl rfl (by decide) rfl hl.1 rfl (lv_room (Nat.le_of_ble_eq_true rfl)) dX12_readWhen_85 ⟨Nat.le_of_ble_eq_true rfl, Nat.le_of_ble_eq_true rfl⟩ (fun u_368 H locs hw hP hD hS => ?_)
        obtain ⟨n_361, n_362, n_363, n_364, n_365, n_366⟩ := u_368
        try dsimp only at hw
        obtain ⟨he_n_361, he_n_362, he_n_363, he_n_364, he_n_365, he_n_366, hw⟩ := hw
        obtain ⟨hr_n_361, hr_n_362, hr_n_363, hr_n_364, hr_n_365, hf_370, hf_371, hf_372⟩ := hw
        refine lv_aload_n hx hb dX12_readWhen_88 rfl (lv_at hl 1 rfl) ?_
        refine va_get (D := G) (ci := 12) (v := .ref a_c) (C := RX12) (T := TX12) (N := 65) hx hb hts inT12 hown hK hP 2 rfl rfl 20 (by decide) (hts _ tw_1905) (fun _ h9 => h9) rfl dX12_readWhen_89 ?_
        refine lv_iload_n hx hb dX12_readWhen_92 rfl (lv_at hl 2 rfl) ?_
        refine lv_iconst (v := 2) hx hb dX12_readWhen_93 (by decide) ?_
        refine lv_iadd hx hb dX12_readWhen_94 ?_
        refine lv_topi (fun x_373 he_x_373 => ?_)
        have hq_x_373 := z_addq he_x_373 (rfl : w.toInt = _) hk_2 (by omega) (by omega)
        refine lv_iload_n hx hb dX12_readWhen_95 rfl (lv_at hl 0 rfl) ?_
        refine z_iast hx hb hK hP hD hS 0 0 rfl rfl (z_inN (by omega) (by omega)) dX12_readWhen_96 (fun g_374 hg_g_374 H locs hP hD hS => ?_)
        have hC_g_374 := z_ctUs hC_g_103 hg_g_374 (a := 1643) (b := 1817) (M := 6) (q := 5) (lo := (-2147483648)) (hi := 2147483647) (by decide +kernel) (by decide +kernel) (by omega) (by omega) (by omega) (z_full _)
        refine lv_aload_n hx hb dX12_readWhen_97 rfl (lv_at hl 1 rfl) ?_
        refine va_get (D := G) (ci := 12) (v := .ref a_c) (C := RX12) (T := TX12) (N := 65) hx hb hts inT12 hown hK hP 2 rfl rfl 20 (by decide) (hts _ tw_1905) (fun _ h9 => h9) rfl dX12_readWhen_98 ?_
        refine lv_iload_n hx hb dX12_readWhen_101 rfl (lv_at hl 2 rfl) ?_
        refine lv_iconst (v := 3) hx hb dX12_readWhen_102 (by decide) ?_
        refine lv_iadd hx hb dX12_readWhen_103 ?_
        refine lv_topi (fun x_375 he_x_375 => ?_)
        have hq_x_375 := z_addq he_x_375 (rfl : w.toInt = _) hk_3 (by omega) (by omega)
        refine lv_aload_n hx hb dX12_readWhen_104 rfl (lv_at hl 1 rfl) ?_
        refine lv_iconst (v := 0) hx hb dX12_readWhen_105 (by decide) ?_
        refine lv_iconst (v := 3) hx hb dX12_readWhen_106 (by decide) ?_
        refine z_callVi (As := [.int 0, .int 3]) (rest := [.int x_375, .ref a_c]) (wr := [(a_c, .inl (cA.1 0, 1825, .inl g_374)), (a_words, .inl (cA.1 1, 105, .inr (.inl g_words)))]) ⟨hx, hb, hml, hown, hts⟩ hK hE hT hP hD hS hA (r_count l G cA h0 m_status m_thrown m_above m_under a_traySort a_trayMany a_numbers a_tape m_taped m_textEnd m_faultKind m_faultAt n_95 n_96 n_361 n_362 n_363 n_364 n_365 n_366 a_c a_words m_markMany a_there a_tried a_best a_found m_thereMany m_foundMany m_orderHow m_orderRing m_orderMany m_hasBest m_bestTop m_bestBy a_weights a_shared m_random m_truePlace m_trueWay m_seconds m_done m_feelings m_tries m_leftOver m_playDoor m_playRing m_isOpen m_isOver m_wasTried m_hasPlayed a_feltNow a_last a_kept m_hasSeconds m_hasTurned m_hasRound a_hasFeels a_isOn m_firstAct m_meanTop m_meanBy a_order m_rowMany m_newSteps g_tape 0 3 (by decide +kernel) (by decide +kernel) hr_m_textEnd hr_n_362 hr_n_363 hr_n_95 hr_n_361 hr_n_364 hr_n_365) lk_RX12_214 ⟨rfl, rfl⟩ ⟨Nat.le_of_ble_eq_true rfl, Nat.le_of_ble_eq_true rfl⟩ 12 rfl rfl rfl [2, 3] [0, 1] rfl rfl (by decide) rfl hl.1 rfl (lv_room (Nat.le_of_ble_eq_true rfl)) dX12_readWhen_107 ⟨Nat.le_of_ble_eq_true rfl, Nat.le_of_ble_eq_true rfl⟩ (fun r_384 u_385 H locs hw hP hD hS => ?_)
        obtain ⟨n_376, n_377, n_378, n_379, n_380, n_381, n_382, n_383⟩ := u_385
        try dsimp only at hw
        obtain ⟨he_r_384, he_n_376, he_n_377, he_n_378, he_n_379, he_n_380, he_n_381, he_n_382, he_n_383, hw⟩ := hw
        obtain ⟨hr_r_384, hr_n_376, hr_n_378, hr_n_379, hr_n_380, hr_n_381, hr_n_382, hf_387, hf_388, hf_389, hf_390, hf_391, hf_392⟩ := hw
        refine z_iast hx hb hK hP hD hS 0 0 rfl rfl (z_inN (by omega) (by omega)) dX12_readWhen_110 (fun g_393 hg_g_393 H locs hP hD hS => ?_)
        have hC_g_393 := z_ctUs hC_g_374 hg_g_393 (a := 1644) (b := 1818) (M := 6) (q := 0) (lo := (-2147483648)) (hi := 2147483647) (by decide +kernel) (by decide +kernel) (by omega) (by omega) (by omega) (z_full _)
        refine lv_goto (tgt := 167) hx hb dX12_readWhen_111 (by decide) ?_
        have hpost : (0 ≤ n_376.toInt ∧ n_376.toInt ≤ 9) ∧ (0 ≤ n_378.toInt ∧ n_378.toInt ≤ 4) ∧ (0 ≤ n_379.toInt ∧ n_379.toInt ≤ 900) ∧ (0 ≤ n_380.toInt ∧ n_380.toInt ≤ 900) ∧ (0 ≤ n_381.toInt ∧ n_381.toInt ≤ 9999) ∧ (0 ≤ n_382.toInt ∧ n_382.toInt ≤ 900) ∧ (zC g_393) ∧ (m_behind.toInt ≤ n_380.toInt) ∧ (0 < m_bad.toInt → 0 < n_376.toInt) ∧ (n_376.toInt ≤ 0 → n_378.toInt = 0 ∨ m_behind.toInt < n_380.toInt) := ⟨hr_n_376, hr_n_378, hr_n_379, hr_n_380, hr_n_381, hr_n_382, hC_g_393, (by omega), (by omega), (by omega)⟩
        have hX_394 : F_r_readWhen m_textEnd m_bad m_badAt m_behind m_number m_letters m_word g_tape g_c g_words w = ((n_376, n_377, n_378, n_379, n_380, n_381, n_382, n_383, g_393) : Int32 × Int32 × Int32 × Int32 × Int32 × Int32 × Int32 × Int64 × (Nat → Int32)) := by
          refine (F_r_readWhen_s ..).trans ?_
          extract_lets -merge -useContext +onlyGivenNames w9 y0_0 y0_1 y0_2 y0_3 y0_4 y0_5; have e9 : (n_1, n_2, n_3, n_4, n_5, n_6) = w9 := ((z_tS he_n_1 (z_tS he_n_2 (z_tS he_n_3 (z_tS he_n_4 (z_tS he_n_5 he_n_6.symm)))))).symm; clear_value w9; subst e9
          extract_lets -merge -useContext +onlyGivenNames w9 y9; have e9 : (1 : Int32) = w9 := he_r_12; clear_value w9; subst e9
          refine (if_neg (show ¬ (1 : Int32) = 0 by decide)).trans ?_
          extract_lets -merge -useContext +onlyGivenNames w9 y3_0 y3_1 y3_2 y3_3 y3_4 y3_5; have e9 : (n_76, n_77, n_78, n_79, n_80, n_81) = w9 := ((z_tS he_n_76 (z_tS he_n_77 (z_tS he_n_78 (z_tS he_n_79 (z_tS he_n_80 he_n_81.symm)))))).symm; clear_value w9; subst e9
          try (extract_lets -merge -useContext +onlyGivenNames y9; have e9 : g_87 = y9 := (by first | exact hg_g_87 | exact hg_g_87.symm); clear_value y9; subst e9)
          try (extract_lets -merge -useContext +onlyGivenNames y9; have e9 : x_88 = y9 := (by first | exact he_x_88 | exact he_x_88.symm); clear_value y9; subst e9)
          extract_lets -merge -useContext +onlyGivenNames w9 y6_0 y6_1 y6_2 y6_3 y6_4 y6_5 y6_6 y6_7 y6_8; have e9 : (r_97, n_89, n_90, n_91, n_92, n_93, n_94, n_95, n_96) = w9 := ((z_tS he_r_97 (z_tS he_n_89 (z_tS he_n_90 (z_tS he_n_91 (z_tS he_n_92 (z_tS he_n_93 (z_tS he_n_94 (z_tS he_n_95 he_n_96.symm))))))))).symm; clear_value w9; subst e9
          try (extract_lets -merge -useContext +onlyGivenNames y9; have e9 : g_103 = y9 := (by first | exact hg_g_103 | exact hg_g_103.symm); clear_value y9; subst e9)
          refine (if_pos c_104).trans ?_
          extract_lets -merge -useContext +onlyGivenNames w9 y9; have e9 : (1 : Int32) = w9 := he_r_251; clear_value w9; subst e9
          refine (if_neg (show ¬ (1 : Int32) = 0 by decide)).trans ?_
          extract_lets -merge -useContext +onlyGivenNames w9 y11_0 y11_1 y11_2 y11_3 y11_4 y11_5; have e9 : (n_361, n_362, n_363, n_364, n_365, n_366) = w9 := ((z_tS he_n_361 (z_tS he_n_362 (z_tS he_n_363 (z_tS he_n_364 (z_tS he_n_365 he_n_366.symm)))))).symm; clear_value w9; subst e9
          try (extract_lets -merge -useContext +onlyGivenNames y9; have e9 : x_373 = y9 := (by first | exact he_x_373 | exact he_x_373.symm); clear_value y9; subst e9)
          try (extract_lets -merge -useContext +onlyGivenNames y9; have e9 : g_374 = y9 := (by first | exact hg_g_374 | exact hg_g_374.symm); clear_value y9; subst e9)
          try (extract_lets -merge -useContext +onlyGivenNames y9; have e9 : x_375 = y9 := (by first | exact he_x_375 | exact he_x_375.symm); clear_value y9; subst e9)
          extract_lets -merge -useContext +onlyGivenNames w9 y15_0 y15_1 y15_2 y15_3 y15_4 y15_5 y15_6 y15_7 y15_8; have e9 : (r_384, n_376, n_377, n_378, n_379, n_380, n_381, n_382, n_383) = w9 := ((z_tS he_r_384 (z_tS he_n_376 (z_tS he_n_377 (z_tS he_n_378 (z_tS he_n_379 (z_tS he_n_380 (z_tS he_n_381 (z_tS he_n_382 he_n_383.symm))))))))).symm; clear_value w9; subst e9
          try (extract_lets -merge -useContext +onlyGivenNames y9; have e9 : g_393 = y9 := (by first | exact hg_g_393 | exact hg_g_393.symm); clear_value y9; subst e9)
          exact rfl
        exact hret _ _ _ _ _ (n_376, n_377, n_378, n_379, n_380, n_381, n_382, n_383, g_393) [2, 3, 0, 1] hP hD hS rfl (by decide) dX12_readWhen_167 ⟨(congrArg (fun z9 => z9.1) hX_394).symm, (congrArg (fun z9 => z9.2.1) hX_394).symm, (congrArg (fun z9 => z9.2.2.1) hX_394).symm, (congrArg (fun z9 => z9.2.2.2.1) hX_394).symm, (congrArg (fun z9 => z9.2.2.2.2.1) hX_394).symm, (congrArg (fun z9 => z9.2.2.2.2.2.1) hX_394).symm, (congrArg (fun z9 => z9.2.2.2.2.2.2.1) hX_394).symm, (congrArg (fun z9 => z9.2.2.2.2.2.2.2.1) hX_394).symm, (congrArg (fun z9 => z9.2.2.2.2.2.2.2.2) hX_394).symm, hpost⟩
