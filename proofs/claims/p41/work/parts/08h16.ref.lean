set_option maxHeartbeats 40000000 in
set_option maxRecDepth 100000 in
theorem r_readFeels (l : Launch) (G : va_G) (cA : zCA) (h0 : Nat) (m_status : Int32) (m_thrown : Int32) (m_above : Int64) (m_under : Int64) (a_traySort : Nat) (a_trayMany : Nat) (a_numbers : Nat) (a_tape : Nat) (m_taped : Int32) (m_textEnd : Int32) (m_faultKind : Int32) (m_faultAt : Int32) (m_bad : Int32) (m_badAt : Int32) (m_token : Int32) (m_at : Int32) (m_behind : Int32) (m_number : Int32) (m_letters : Int32) (m_word : Int64) (a_c : Nat) (a_words : Nat) (m_markMany : Int32) (a_there : Nat) (a_tried : Nat) (a_best : Nat) (a_found : Nat) (m_thereMany : Int32) (m_foundMany : Int32) (m_orderHow : Int32) (m_orderRing : Int32) (m_orderMany : Int32) (m_hasBest : Int32) (m_bestTop : Int64) (m_bestBy : Int64) (a_weights : Nat) (a_shared : Nat) (m_random : Int32) (m_truePlace : Int32) (m_trueWay : Int32) (m_seconds : Int32) (m_done : Int32) (m_feelings : Int32) (m_tries : Int32) (m_leftOver : Int32) (m_playDoor : Int32) (m_playRing : Int32) (m_isOpen : Int32) (m_isOver : Int32) (m_wasTried : Int32) (m_hasPlayed : Int32) (a_feltNow : Nat) (a_last : Nat) (a_kept : Nat) (m_hasSeconds : Int32) (m_hasTurned : Int32) (m_hasRound : Int32) (a_hasFeels : Nat) (a_isOn : Nat) (m_firstAct : Int32) (m_meanTop : Int64) (m_meanBy : Int64) (a_order : Nat) (m_rowMany : Int32) (m_newSteps : Int32) (g_tape : Nat → Int32) (g_c : Nat → Int32) (g_words : Nat → Int64) (g_hasFeels : Nat → Int32) (g_isOn : Nat → Int32) (hr_m_textEnd : 0 ≤ m_textEnd.toInt ∧ m_textEnd.toInt ≤ 900) (hr_m_at : 0 ≤ m_at.toInt ∧ m_at.toInt ≤ 900) (hr_m_behind : 0 ≤ m_behind.toInt ∧ m_behind.toInt ≤ 900) (hr_m_bad : 0 ≤ m_bad.toInt ∧ m_bad.toInt ≤ 0) (hr_m_token : 0 ≤ m_token.toInt ∧ m_token.toInt ≤ 4) (hr_m_number : 0 ≤ m_number.toInt ∧ m_number.toInt ≤ 9999) (hr_m_letters : 0 ≤ m_letters.toInt ∧ m_letters.toInt ≤ 900) (hC_g_c : zC g_c) (hC_g_hasFeels : zRg 3 0 1 g_hasFeels) (hC_g_isOn : zRg 10 0 1 g_isOn) (hNW0 : zNw g_c g_isOn) (hNF0 : zNf g_c) : zCv l yX12_readFeels cX12_readFeels 6 none ({ frames := 4, cells := 0, slots := 0, locals := 90 }) G cA [.ref h0] [(h0, .inr (12, [.int m_status, .int m_thrown, .long m_above, .long m_under, .ref a_traySort, .ref a_trayMany, .ref a_numbers, .ref a_tape, .int m_taped, .int m_textEnd, .int m_faultKind, .int m_faultAt, .int m_bad, .int m_badAt, .int m_token, .int m_at, .int m_behind, .int m_number, .int m_letters, .long m_word, .ref a_c, .ref a_words, .int m_markMany, .ref a_there, .ref a_tried, .ref a_best, .ref a_found, .int m_thereMany, .int m_foundMany, .int m_orderHow, .int m_orderRing, .int m_orderMany, .int m_hasBest, .long m_bestTop, .long m_bestBy, .ref a_weights, .ref a_shared, .int m_random, .int m_truePlace, .int m_trueWay, .int m_seconds, .int m_done, .int m_feelings, .int m_tries, .int m_leftOver, .int m_playDoor, .int m_playRing, .int m_isOpen, .int m_isOver, .int m_wasTried, .int m_hasPlayed, .ref a_feltNow, .ref a_last, .ref a_kept, .int m_hasSeconds, .int m_hasTurned, .int m_hasRound, .ref a_hasFeels, .ref a_isOn, .int m_firstAct, .long m_meanTop, .long m_meanBy, .ref a_order, .int m_rowMany, .int m_newSteps])), (a_tape, .inl (cA.1 2, 900, .inl g_tape)), (a_c, .inl (cA.1 0, 1825, .inl g_c)), (a_words, .inl (cA.1 1, 105, .inr (.inl g_words))), (a_hasFeels, .inl (cA.1 3, 3, .inl g_hasFeels)), (a_isOn, .inl (cA.1 3, 10, .inl g_isOn))] (S := Int32 × Int32 × Int32 × Int32 × Int32 × Int32 × Int32 × Int64 × (Nat → Int32) × (Nat → Int32)) (fun (u : Int32 × Int32 × Int32 × Int32 × Int32 × Int32 × Int32 × Int64 × (Nat → Int32) × (Nat → Int32)) => (u.1 = (F_r_readFeels m_textEnd m_bad m_badAt m_behind m_number m_letters m_word g_tape g_c g_words g_hasFeels).1) ∧ (u.2.1 = (F_r_readFeels m_textEnd m_bad m_badAt m_behind m_number m_letters m_word g_tape g_c g_words g_hasFeels).2.1) ∧ (u.2.2.1 = (F_r_readFeels m_textEnd m_bad m_badAt m_behind m_number m_letters m_word g_tape g_c g_words g_hasFeels).2.2.1) ∧ (u.2.2.2.1 = (F_r_readFeels m_textEnd m_bad m_badAt m_behind m_number m_letters m_word g_tape g_c g_words g_hasFeels).2.2.2.1) ∧ (u.2.2.2.2.1 = (F_r_readFeels m_textEnd m_bad m_badAt m_behind m_number m_letters m_word g_tape g_c g_words g_hasFeels).2.2.2.2.1) ∧ (u.2.2.2.2.2.1 = (F_r_readFeels m_textEnd m_bad m_badAt m_behind m_number m_letters m_word g_tape g_c g_words g_hasFeels).2.2.2.2.2.1) ∧ (u.2.2.2.2.2.2.1 = (F_r_readFeels m_textEnd m_bad m_badAt m_behind m_number m_letters m_word g_tape g_c g_words g_hasFeels).2.2.2.2.2.2.1) ∧ (u.2.2.2.2.2.2.2.1 = (F_r_readFeels m_textEnd m_bad m_badAt m_behind m_number m_letters m_word g_tape g_c g_words g_hasFeels).2.2.2.2.2.2.2.1) ∧ (u.2.2.2.2.2.2.2.2.1 = (F_r_readFeels m_textEnd m_bad m_badAt m_behind m_number m_letters m_word g_tape g_c g_words g_hasFeels).2.2.2.2.2.2.2.2.1) ∧ (u.2.2.2.2.2.2.2.2.2 = (F_r_readFeels m_textEnd m_bad m_badAt m_behind m_number m_letters m_word g_tape g_c g_words g_hasFeels).2.2.2.2.2.2.2.2.2) ∧ ((0 ≤ u.1.toInt ∧ u.1.toInt ≤ 9) ∧ (0 ≤ u.2.2.1.toInt ∧ u.2.2.1.toInt ≤ 4) ∧ (0 ≤ u.2.2.2.1.toInt ∧ u.2.2.2.1.toInt ≤ 900) ∧ (0 ≤ u.2.2.2.2.1.toInt ∧ u.2.2.2.2.1.toInt ≤ 900) ∧ (0 ≤ u.2.2.2.2.2.1.toInt ∧ u.2.2.2.2.2.1.toInt ≤ 9999) ∧ (0 ≤ u.2.2.2.2.2.2.1.toInt ∧ u.2.2.2.2.2.2.1.toInt ≤ 900) ∧ (zRg 3 0 1 u.2.2.2.2.2.2.2.2.1) ∧ (zC u.2.2.2.2.2.2.2.2.2) ∧ (zNw u.2.2.2.2.2.2.2.2.2 g_isOn) ∧ (m_behind.toInt ≤ u.2.2.2.2.1.toInt) ∧ (0 < m_bad.toInt → 0 < u.1.toInt) ∧ (u.1.toInt ≤ 0 → u.2.2.1.toInt = 0 ∨ m_behind.toInt < u.2.2.2.2.1.toInt) ∧ (u.1.toInt ≤ 0 → u.2.2.1.toInt = 3 → u.2.2.2.2.2.1.toInt = 59 → zNf u.2.2.2.2.2.2.2.2.2))) (fun (u : Int32 × Int32 × Int32 × Int32 × Int32 × Int32 × Int32 × Int64 × (Nat → Int32) × (Nat → Int32)) => [(h0, .inr (12, [.int m_status, .int m_thrown, .long m_above, .long m_under, .ref a_traySort, .ref a_trayMany, .ref a_numbers, .ref a_tape, .int m_taped, .int m_textEnd, .int m_faultKind, .int m_faultAt, .int u.1, .int u.2.1, .int u.2.2.1, .int u.2.2.2.1, .int u.2.2.2.2.1, .int u.2.2.2.2.2.1, .int u.2.2.2.2.2.2.1, .long u.2.2.2.2.2.2.2.1, .ref a_c, .ref a_words, .int m_markMany, .ref a_there, .ref a_tried, .ref a_best, .ref a_found, .int m_thereMany, .int m_foundMany, .int m_orderHow, .int m_orderRing, .int m_orderMany, .int m_hasBest, .long m_bestTop, .long m_bestBy, .ref a_weights, .ref a_shared, .int m_random, .int m_truePlace, .int m_trueWay, .int m_seconds, .int m_done, .int m_feelings, .int m_tries, .int m_leftOver, .int m_playDoor, .int m_playRing, .int m_isOpen, .int m_isOver, .int m_wasTried, .int m_hasPlayed, .ref a_feltNow, .ref a_last, .ref a_kept, .int m_hasSeconds, .int m_hasTurned, .int m_hasRound, .ref a_hasFeels, .ref a_isOn, .int m_firstAct, .long m_meanTop, .long m_meanBy, .ref a_order, .int m_rowMany, .int m_newSteps])), (a_tape, .inl (cA.1 2, 900, .inl g_tape)), (a_c, .inl (cA.1 0, 1825, .inl u.2.2.2.2.2.2.2.2.2)), (a_words, .inl (cA.1 1, 105, .inr (.inl g_words))), (a_hasFeels, .inl (cA.1 3, 3, .inl u.2.2.2.2.2.2.2.2.1)), (a_isOn, .inl (cA.1 3, 10, .inl g_isOn))]) 0 0 := by
  have hk_0 : (0 : Int32).toInt = 0 := by decide +kernel
  have hk_1 : (1 : Int32).toInt = 1 := by decide +kernel
  have hk_2 : (2 : Int32).toInt = 2 := by decide +kernel
  have hk_4 : (4 : Int32).toInt = 4 := by decide +kernel
  have hk_5 : (5 : Int32).toInt = 5 := by decide +kernel
  have hk_8 : (8 : Int32).toInt = 8 := by decide +kernel
  have hk_9 : (9 : Int32).toInt = 9 := by decide +kernel
  have hk_16 : (16 : Int32).toInt = 16 := by decide +kernel
  have hk_59 : (59 : Int32).toInt = 59 := by decide +kernel
  have hk_1471 : (1471 : Int32).toInt = 1471 := by decide +kernel
  have hk_1477 : (1477 : Int32).toInt = 1477 := by decide +kernel
  refine z_start2v (own := RX12) (by decide) (Nat.le_of_ble_eq_true rfl) rfl ?_
  intro p e s m args below meth c A ls Q hx hb hml hts hown hK hE hT hP hD hS hA hl hret
  have hl : lv_has ls 6 [(0, .ref h0)] := hl
  refine lv_aload_n hx hb dX12_readFeels_0 rfl (lv_at hl 0 rfl) ?_
  refine z_callVv (As := []) (rest := []) (wr := [(a_c, .inl (cA.1 0, 1825, .inl g_c)), (a_words, .inl (cA.1 1, 105, .inr (.inl g_words))), (a_hasFeels, .inl (cA.1 3, 3, .inl g_hasFeels)), (a_isOn, .inl (cA.1 3, 10, .inl g_isOn))]) ⟨hx, hb, hml, hown, hts⟩ hK hE hT hP hD hS hA (r_next2 l G cA h0 m_status m_thrown m_above m_under a_traySort a_trayMany a_numbers a_tape m_taped m_textEnd m_faultKind m_faultAt m_bad m_badAt m_token m_at m_behind m_number m_letters m_word a_c a_words m_markMany a_there a_tried a_best a_found m_thereMany m_foundMany m_orderHow m_orderRing m_orderMany m_hasBest m_bestTop m_bestBy a_weights a_shared m_random m_truePlace m_trueWay m_seconds m_done m_feelings m_tries m_leftOver m_playDoor m_playRing m_isOpen m_isOver m_wasTried m_hasPlayed a_feltNow a_last a_kept m_hasSeconds m_hasTurned m_hasRound a_hasFeels a_isOn m_firstAct m_meanTop m_meanBy a_order m_rowMany m_newSteps g_tape hr_m_textEnd hr_m_at hr_m_behind hr_m_token hr_m_number hr_m_letters) lk_RX12_184 ⟨rfl, rfl⟩ ⟨Nat.le_of_ble_eq_true rfl, Nat.le_of_ble_eq_true rfl⟩ 12 rfl rfl rfl [0, 1] [2, 3, 4, 5] rfl rfl (by decide) rfl hl.1 rfl (lv_room (Nat.le_of_ble_eq_true rfl)) dX12_readFeels_1 ⟨Nat.le_of_ble_eq_true rfl, Nat.le_of_ble_eq_true rfl⟩ (fun u_8 H locs hw hP hD hS => ?_)
  obtain ⟨n_1, n_2, n_3, n_4, n_5, n_6⟩ := u_8
  try dsimp only at hw
  obtain ⟨he_n_1, he_n_2, he_n_3, he_n_4, he_n_5, he_n_6, hw⟩ := hw
  obtain ⟨hr_n_1, hr_n_2, hr_n_3, hr_n_4, hr_n_5, hf_10, hf_11⟩ := hw
  refine lv_aload_n hx hb dX12_readFeels_4 rfl (lv_at hl 0 rfl) ?_
  refine lv_iconst (v := 0) hx hb dX12_readFeels_5 (by decide) ?_
  refine lv_iconst (v := 0) hx hb dX12_readFeels_6 (by decide) ?_
  refine z_callVi (As := [.int 0, .int 0]) (rest := []) (wr := [(a_hasFeels, .inl (cA.1 3, 3, .inl g_hasFeels)), (a_isOn, .inl (cA.1 3, 10, .inl g_isOn)), (a_tape, .inl (cA.1 2, 900, .inl g_tape))]) ⟨hx, hb, hml, hown, hts⟩ hK hE hT hP hD hS hA (r_readOld_0 l G cA h0 m_status m_thrown m_above m_under a_traySort a_trayMany a_numbers a_tape m_taped m_textEnd m_faultKind m_faultAt m_bad m_badAt n_1 n_2 n_3 n_4 n_5 n_6 a_c a_words m_markMany a_there a_tried a_best a_found m_thereMany m_foundMany m_orderHow m_orderRing m_orderMany m_hasBest m_bestTop m_bestBy a_weights a_shared m_random m_truePlace m_trueWay m_seconds m_done m_feelings m_tries m_leftOver m_playDoor m_playRing m_isOpen m_isOver m_wasTried m_hasPlayed a_feltNow a_last a_kept m_hasSeconds m_hasTurned m_hasRound a_hasFeels a_isOn m_firstAct m_meanTop m_meanBy a_order m_rowMany m_newSteps g_c g_words hr_n_2 (z_rgw hr_m_bad (by decide) (by decide)) hr_n_1 hr_n_5 hC_g_c) lk_RX12_217 ⟨rfl, rfl⟩ ⟨Nat.le_of_ble_eq_true rfl, Nat.le_of_ble_eq_true rfl⟩ 12 rfl rfl rfl [4, 0, 1] [2, 3, 5] rfl rfl (by decide) rfl hl.1 rfl (lv_room (Nat.le_of_ble_eq_true rfl)) dX12_readFeels_7 ⟨Nat.le_of_ble_eq_true rfl, Nat.le_of_ble_eq_true rfl⟩ (fun r_14 u_15 H locs hw hP hD hS => ?_)
  obtain ⟨n_12, n_13⟩ := u_15
  try dsimp only at hw
  obtain ⟨he_r_14, he_n_12, he_n_13, hw⟩ := hw
  obtain ⟨hr_r_14, hr_n_12, hf_17, hf_18, hf_19⟩ := hw
  refine lv_istore_n (lv' := [(1, .int r_14), (0, .ref h0)]) hx hb dX12_readFeels_10 rfl hl (by decide) rfl (fun ls hl => ?_)
  refine lv_aload_n hx hb dX12_readFeels_11 rfl (lv_at hl 1 rfl) ?_
  refine va_get (D := G) (ci := 12) (v := .int n_12) (C := RX12) (T := TX12) (N := 65) hx hb hts inT12 hown hK hP 3 rfl rfl 12 (by decide) (hts _ tw_1897) (fun _ h9 => h9) rfl dX12_readFeels_12 ?_
  refine lv_if_ne (tgt := 36) hx hb dX12_readFeels_15 (by decide) (fun c_20 => ?_) (fun c_20 => ?_)
  · have b_21 := z_fneT c_20
    refine lv_aload_n hx hb dX12_readFeels_36 rfl (lv_at hl 1 rfl) ?_
    refine va_get (D := G) (ci := 12) (v := .int n_12) (C := RX12) (T := TX12) (N := 65) hx hb hts inT12 hown hK hP 3 rfl rfl 12 (by decide) (hts _ tw_1897) (fun _ h9 => h9) rfl dX12_readFeels_37 ?_
    refine lv_if_le (tgt := 44) hx hb dX12_readFeels_40 (by decide) (fun h9 => (z_no (by have h8 := z_fleT h9; omega))) (fun c_22 => ?_)
    have b_23 := z_fgtF c_22
    have hpost : (0 ≤ n_12.toInt ∧ n_12.toInt ≤ 9) ∧ (0 ≤ n_1.toInt ∧ n_1.toInt ≤ 4) ∧ (0 ≤ n_2.toInt ∧ n_2.toInt ≤ 900) ∧ (0 ≤ n_3.toInt ∧ n_3.toInt ≤ 900) ∧ (0 ≤ n_4.toInt ∧ n_4.toInt ≤ 9999) ∧ (0 ≤ n_5.toInt ∧ n_5.toInt ≤ 900) ∧ (zRg 3 0 1 g_hasFeels) ∧ (zC g_c) ∧ (zNw g_c g_isOn) ∧ (m_behind.toInt ≤ n_3.toInt) ∧ (0 < m_bad.toInt → 0 < n_12.toInt) ∧ (n_12.toInt ≤ 0 → n_1.toInt = 0 ∨ m_behind.toInt < n_3.toInt) ∧ (n_12.toInt ≤ 0 → n_1.toInt = 3 → n_4.toInt = 59 → zNf g_c) := ⟨hr_n_12, hr_n_1, hr_n_2, hr_n_3, hr_n_4, hr_n_5, hC_g_hasFeels, hC_g_c, hNW0, (by omega), (by omega), (by omega), (fun _ _ _ => hNF0)⟩
    have hX_24 : F_r_readFeels m_textEnd m_bad m_badAt m_behind m_number m_letters m_word g_tape g_c g_words g_hasFeels = ((n_12, n_13, n_1, n_2, n_3, n_4, n_5, n_6, g_hasFeels, g_c) : Int32 × Int32 × Int32 × Int32 × Int32 × Int32 × Int32 × Int64 × (Nat → Int32) × (Nat → Int32)) := by
      refine (F_r_readFeels_s ..).trans ?_
      extract_lets -merge -useContext +onlyGivenNames w9 y0_0 y0_1 y0_2 y0_3 y0_4 y0_5; have e9 : (n_1, n_2, n_3, n_4, n_5, n_6) = w9 := ((z_tS he_n_1 (z_tS he_n_2 (z_tS he_n_3 (z_tS he_n_4 (z_tS he_n_5 he_n_6.symm)))))).symm; clear_value w9; subst e9
      extract_lets -merge -useContext +onlyGivenNames w9 y1_0 y1_1 y1_2; have e9 : (r_14, n_12, n_13) = w9 := ((z_tS he_r_14 (z_tS he_n_12 he_n_13.symm))).symm; clear_value w9; subst e9
      refine (if_neg c_20).trans ?_
      exact rfl
    exact hret _ _ _ _ _ (n_12, n_13, n_1, n_2, n_3, n_4, n_5, n_6, g_hasFeels, g_c) [3, 2, 4, 5, 0, 1] hP hD hS rfl (by decide) dX12_readFeels_43 ⟨(congrArg (fun z9 => z9.1) hX_24).symm, (congrArg (fun z9 => z9.2.1) hX_24).symm, (congrArg (fun z9 => z9.2.2.1) hX_24).symm, (congrArg (fun z9 => z9.2.2.2.1) hX_24).symm, (congrArg (fun z9 => z9.2.2.2.2.1) hX_24).symm, (congrArg (fun z9 => z9.2.2.2.2.2.1) hX_24).symm, (congrArg (fun z9 => z9.2.2.2.2.2.2.1) hX_24).symm, (congrArg (fun z9 => z9.2.2.2.2.2.2.2.1) hX_24).symm, (congrArg (fun z9 => z9.2.2.2.2.2.2.2.2.1) hX_24).symm, (congrArg (fun z9 => z9.2.2.2.2.2.2.2.2.2) hX_24).symm, hpost⟩
  · have b_25 := z_feqF c_20
    refine lv_aload_n hx hb dX12_readFeels_18 rfl (lv_at hl 1 rfl) ?_
    refine va_get (D := G) (ci := 12) (v := .ref a_hasFeels) (C := RX12) (T := TX12) (N := 65) hx hb hts inT12 hown hK hP 3 rfl rfl 57 (by decide) (hts _ tw_1940) (fun _ h9 => h9) rfl dX12_readFeels_19 ?_
    refine lv_iload_n hx hb dX12_readFeels_22 rfl (lv_at hl 0 rfl) ?_
    refine va_zald hx hb hK hP 0 3 rfl rfl (z_inN (by omega) (by omega)) dX12_readFeels_23 ?_
    refine lv_topi (fun x_26 he_x_26 => ?_)
    have hr_x_26 := z_rg hC_g_hasFeels he_x_26 (by omega) (by omega)
    refine lv_if_eq (tgt := 36) hx hb dX12_readFeels_24 (by decide) (fun c_27 => ?_) (fun c_27 => ?_)
    · have b_28 := z_feqT c_27
      refine lv_aload_n hx hb dX12_readFeels_36 rfl (lv_at hl 1 rfl) ?_
      refine va_get (D := G) (ci := 12) (v := .int n_12) (C := RX12) (T := TX12) (N := 65) hx hb hts inT12 hown hK hP 3 rfl rfl 12 (by decide) (hts _ tw_1897) (fun _ h9 => h9) rfl dX12_readFeels_37 ?_
      refine lv_if_le (tgt := 44) hx hb dX12_readFeels_40 (by decide) (fun c_29 => ?_) (fun h9 => (z_no (by have h8 := z_fgtF h9; omega)))
      have b_30 := z_fleT c_29
      have hn_k_31 : 0 ≤ r_14.toInt ∧ r_14.toInt ≤ 2 := by omega
      refine lv_aload_n hx hb dX12_readFeels_44 rfl (lv_at hl 1 rfl) ?_
      refine va_get (D := G) (ci := 12) (v := .ref a_hasFeels) (C := RX12) (T := TX12) (N := 65) hx hb hts inT12 hown hK hP 3 rfl rfl 57 (by decide) (hts _ tw_1940) (fun _ h9 => h9) rfl dX12_readFeels_45 ?_
      refine lv_iload_n hx hb dX12_readFeels_48 rfl (lv_at hl 0 rfl) ?_
      refine lv_iconst (v := 1) hx hb dX12_readFeels_49 (by decide) ?_
      refine z_zast hx hb hK hP hD hS 0 3 rfl rfl (z_inN (by omega) (by omega)) dX12_readFeels_50 (fun g_32 hg_g_32 H locs hP hD hS => ?_)
      have hC_g_32 := z_rgZ hC_g_hasFeels hg_g_32 (Or.inr rfl)
      refine lv_aload_n hx hb dX12_readFeels_51 rfl (lv_at hl 1 rfl) ?_
      refine z_callVv (As := []) (rest := []) (wr := [(a_hasFeels, .inl (cA.1 3, 3, .inl g_32)), (a_isOn, .inl (cA.1 3, 10, .inl g_isOn)), (a_c, .inl (cA.1 0, 1825, .inl g_c)), (a_words, .inl (cA.1 1, 105, .inr (.inl g_words)))]) ⟨hx, hb, hml, hown, hts⟩ hK hE hT hP hD hS hA (r_next2 l G cA h0 m_status m_thrown m_above m_under a_traySort a_trayMany a_numbers a_tape m_taped m_textEnd m_faultKind m_faultAt n_12 n_13 n_1 n_2 n_3 n_4 n_5 n_6 a_c a_words m_markMany a_there a_tried a_best a_found m_thereMany m_foundMany m_orderHow m_orderRing m_orderMany m_hasBest m_bestTop m_bestBy a_weights a_shared m_random m_truePlace m_trueWay m_seconds m_done m_feelings m_tries m_leftOver m_playDoor m_playRing m_isOpen m_isOver m_wasTried m_hasPlayed a_feltNow a_last a_kept m_hasSeconds m_hasTurned m_hasRound a_hasFeels a_isOn m_firstAct m_meanTop m_meanBy a_order m_rowMany m_newSteps g_tape hr_m_textEnd hr_n_2 hr_n_3 hr_n_1 hr_n_4 hr_n_5) lk_RX12_184 ⟨rfl, rfl⟩ ⟨Nat.le_of_ble_eq_true rfl, Nat.le_of_ble_eq_true rfl⟩ 12 rfl rfl rfl [3, 2] [0, 1, 4, 5] rfl rfl (by decide) rfl hl.1 rfl (lv_room (Nat.le_of_ble_eq_true rfl)) dX12_readFeels_52 ⟨Nat.le_of_ble_eq_true rfl, Nat.le_of_ble_eq_true rfl⟩ (fun u_40 H locs hw hP hD hS => ?_)
      obtain ⟨n_33, n_34, n_35, n_36, n_37, n_38⟩ := u_40
      try dsimp only at hw
      obtain ⟨he_n_33, he_n_34, he_n_35, he_n_36, he_n_37, he_n_38, hw⟩ := hw
      obtain ⟨hr_n_33, hr_n_34, hr_n_35, hr_n_36, hr_n_37, hf_42, hf_43⟩ := hw
      refine lv_aload_n hx hb dX12_readFeels_55 rfl (lv_at hl 1 rfl) ?_
      refine va_get (D := G) (ci := 12) (v := .ref a_c) (C := RX12) (T := TX12) (N := 65) hx hb hts inT12 hown hK hP 4 rfl rfl 20 (by decide) (hts _ tw_1905) (fun _ h9 => h9) rfl dX12_readFeels_56 ?_
      refine lv_sipush (v := 1471) hx hb dX12_readFeels_59 (by decide) ?_
      refine lv_iload_n hx hb dX12_readFeels_62 rfl (lv_at hl 0 rfl) ?_
      refine lv_iadd hx hb dX12_readFeels_63 ?_
      refine lv_topi (fun x_44 he_x_44 => ?_)
      have hq_x_44 := z_addq he_x_44 hk_1471 (rfl : r_14.toInt = _) (by omega) (by omega)
      refine va_iald hx hb hK hP 2 0 rfl rfl (z_inN (by omega) (by omega)) dX12_readFeels_64 ?_
      refine lv_topi (fun x_45 he_x_45 => ?_)
      have hr_x_45 := z_ct hC_g_c he_x_45 (a := 1471) (b := 1473) (lo := 0) (hi := 4) (by decide +kernel) (by decide) (by omega) (by omega)
      have hw2_x_45 := (hNW0).1 r_14.toInt.toNat (by omega) (by omega)
      rw [← z_at he_x_45 (a := 1471 + r_14.toInt.toNat) (by omega)] at hw2_x_45
      refine lv_istore_n (lv' := [(2, .int x_45), (1, .int r_14), (0, .ref h0)]) hx hb dX12_readFeels_65 rfl hl (by decide) rfl (fun ls hl => ?_)
      rcases (show x_45.toInt = 2 ∨ x_45.toInt = 3 ∨ x_45.toInt = 4 by omega) with h_46 | h_46 | h_46
      · skip
        refine lv_iconst (v := 0) hx hb dX12_readFeels_66 (by decide) ?_
        refine lv_istore_n (lv' := [(3, .int 0), (2, .int x_45), (1, .int r_14), (0, .ref h0)]) hx hb dX12_readFeels_67 rfl hl (by decide) rfl (fun ls hl => ?_)
        refine lv_iconst (v := 0) hx hb dX12_readFeels_68 (by decide) ?_
        refine lv_istore (lv' := [(4, .int 0), (3, .int 0), (2, .int x_45), (1, .int r_14), (0, .ref h0)]) hx hb dX12_readFeels_69 hl (by decide) rfl (fun ls hl => ?_)
        refine lv_iconst (v := 1) hx hb dX12_readFeels_71 (by decide) ?_
        refine lv_istore (lv' := [(5, .int 1), (4, .int 0), (3, .int 0), (2, .int x_45), (1, .int r_14), (0, .ref h0)]) hx hb dX12_readFeels_72 hl (by decide) rfl (fun ls hl => ?_)
        have hlp_861 : ∀ (n_L74a : Nat) (v_367 : Int32) (v_368 : Int32) (v_369 : Int32) (g_370 : Nat → Int32) (v_371 : Int32) (v_372 : Int32) (v_373 : Int32) (v_374 : Int32) (v_375 : Int32) (v_376 : Int64) (H : Heap) (locs : List Loc) (ls : Array Slot), (900 - v_373.toInt + v_369.toInt).toNat < n_L74a → (0 ≤ v_367.toInt ∧ v_367.toInt ≤ 16) → (0 ≤ v_368.toInt ∧ v_368.toInt ≤ 256) → (0 ≤ v_369.toInt ∧ v_369.toInt ≤ 1) → (zC g_370) → (0 ≤ v_371.toInt ∧ v_371.toInt ≤ 4) → (0 ≤ v_372.toInt ∧ v_372.toInt ≤ 900) → (0 ≤ v_373.toInt ∧ v_373.toInt ≤ 900) → (0 ≤ v_374.toInt ∧ v_374.toInt ≤ 9999) → (0 ≤ v_375.toInt ∧ v_375.toInt ≤ 900) → (zNw g_370 g_isOn) → (zFl g_c g_370 r_14.toInt x_45.toInt v_367.toInt v_368.toInt) → (v_367.toInt ≤ 4) → (v_368.toInt ≤ 16 * v_367.toInt) → ((g_370 1460).toInt = (g_c 1460).toInt) → (m_behind.toInt ≤ v_373.toInt) → (n_12.toInt ≤ 0 → v_371.toInt = 0 ∨ m_behind.toInt < v_373.toInt) → (F_r_readFeels m_textEnd m_bad m_badAt m_behind m_number m_letters m_word g_tape g_c g_words g_hasFeels = F_r_readFeels_L74a m_textEnd g_tape r_14 n_12 n_13 g_32 x_45 n_L74a v_367 v_368 v_369 g_370 v_371 v_372 v_373 v_374 v_375 v_376) → va_P G vwCl [(a_hasFeels, .inl (cA.1 3, 3, .inl g_32)), (a_isOn, .inl (cA.1 3, 10, .inl g_isOn)), (a_c, .inl (cA.1 0, 1825, .inl g_370)), (a_words, .inl (cA.1 1, 105, .inr (.inl g_words))), (h0, .inr (12, [.int m_status, .int m_thrown, .long m_above, .long m_under, .ref a_traySort, .ref a_trayMany, .ref a_numbers, .ref a_tape, .int m_taped, .int m_textEnd, .int m_faultKind, .int m_faultAt, .int n_12, .int n_13, .int v_371, .int v_372, .int v_373, .int v_374, .int v_375, .long v_376, .ref a_c, .ref a_words, .int m_markMany, .ref a_there, .ref a_tried, .ref a_best, .ref a_found, .int m_thereMany, .int m_foundMany, .int m_orderHow, .int m_orderRing, .int m_orderMany, .int m_hasBest, .long m_bestTop, .long m_bestBy, .ref a_weights, .ref a_shared, .int m_random, .int m_truePlace, .int m_trueWay, .int m_seconds, .int m_done, .int m_feelings, .int m_tries, .int m_leftOver, .int m_playDoor, .int m_playRing, .int m_isOpen, .int m_isOver, .int m_wasTried, .int m_hasPlayed, .ref a_feltNow, .ref a_last, .ref a_kept, .int m_hasSeconds, .int m_hasTurned, .int m_hasRound, .ref a_hasFeels, .ref a_isOn, .int m_firstAct, .long m_meanTop, .long m_meanBy, .ref a_order, .int m_rowMany, .int m_newSteps])), (a_tape, .inl (cA.1 2, 900, .inl g_tape))] H → va_D A [(a_hasFeels, .inl (cA.1 3, 3, .inl g_32)), (a_isOn, .inl (cA.1 3, 10, .inl g_isOn)), (a_c, .inl (cA.1 0, 1825, .inl g_370)), (a_words, .inl (cA.1 1, 105, .inr (.inl g_words))), (h0, .inr (12, [.int m_status, .int m_thrown, .long m_above, .long m_under, .ref a_traySort, .ref a_trayMany, .ref a_numbers, .ref a_tape, .int m_taped, .int m_textEnd, .int m_faultKind, .int m_faultAt, .int n_12, .int n_13, .int v_371, .int v_372, .int v_373, .int v_374, .int v_375, .long v_376, .ref a_c, .ref a_words, .int m_markMany, .ref a_there, .ref a_tried, .ref a_best, .ref a_found, .int m_thereMany, .int m_foundMany, .int m_orderHow, .int m_orderRing, .int m_orderMany, .int m_hasBest, .long m_bestTop, .long m_bestBy, .ref a_weights, .ref a_shared, .int m_random, .int m_truePlace, .int m_trueWay, .int m_seconds, .int m_done, .int m_feelings, .int m_tries, .int m_leftOver, .int m_playDoor, .int m_playRing, .int m_isOpen, .int m_isOver, .int m_wasTried, .int m_hasPlayed, .ref a_feltNow, .ref a_last, .ref a_kept, .int m_hasSeconds, .int m_hasTurned, .int m_hasRound, .ref a_hasFeels, .ref a_isOn, .int m_firstAct, .long m_meanTop, .long m_meanBy, .ref a_order, .int m_rowMany, .int m_newSteps])), (a_tape, .inl (cA.1 2, 900, .inl g_tape))] → va_S A s.heap H locs → lv_has ls 6 [(0, .ref h0), (1, .int r_14), (2, .int x_45), (3, .int v_367), (4, .int v_368), (5, .int v_369)] → W p l e ({ frames := 4, cells := 0, slots := 0, locals := 90 }) s m args below meth c H locs 0 0 Q (F0 m 74 ls []) := by
          intro n_L74a
          induction n_L74a with
          | zero =>
            intro v_367 v_368 v_369 g_370 v_371 v_372 v_373 v_374 v_375 v_376 H locs ls hmu_hlp_861 hr_v_367 hr_v_368 hr_v_369 hC_g_370 hr_v_371 hr_v_372 hr_v_373 hr_v_374 hr_v_375 hs_607 hi_608 hi_609 hi_610 hi_611 hi_612 hi_613 hF_L74a hP hD hS hl
            exact absurd hmu_hlp_861 (Nat.not_lt_zero _)
          | succ n_L74a ih_862 =>
            intro v_367 v_368 v_369 g_370 v_371 v_372 v_373 v_374 v_375 v_376 H locs ls hmu_hlp_861 hr_v_367 hr_v_368 hr_v_369 hC_g_370 hr_v_371 hr_v_372 hr_v_373 hr_v_374 hr_v_375 hs_607 hi_608 hi_609 hi_610 hi_611 hi_612 hi_613 hF_L74a hP hD hS hl
            refine lv_iload hx hb dX12_readFeels_74 (lv_at hl 5 rfl) ?_
            refine lv_if_eq (tgt := 262) hx hb dX12_readFeels_76 (by decide) (fun c_863 => ?_) (fun c_863 => ?_)
            · have b_864 := z_feqT c_863
              refine lv_aload_n hx hb dX12_readFeels_262 rfl (lv_at hl 0 rfl) ?_
              refine va_get (D := G) (ci := 12) (v := .int n_12) (C := RX12) (T := TX12) (N := 65) hx hb hts inT12 hown hK hP 4 rfl rfl 12 (by decide) (hts _ tw_1897) (fun _ h9 => h9) rfl dX12_readFeels_263 ?_
              refine lv_if_ne (tgt := 295) hx hb dX12_readFeels_266 (by decide) (fun h9 => (z_no (by have h8 := z_fneT h9; omega))) (fun c_865 => ?_)
              have b_866 := z_feqF c_865
              refine lv_aload_n hx hb dX12_readFeels_269 rfl (lv_at hl 0 rfl) ?_
              refine lv_bipush (v := 59) hx hb dX12_readFeels_270 (by decide) ?_
              refine z_callVi (As := [.int 59]) (rest := []) (wr := [(a_hasFeels, .inl (cA.1 3, 3, .inl g_32)), (a_isOn, .inl (cA.1 3, 10, .inl g_isOn)), (a_c, .inl (cA.1 0, 1825, .inl g_370)), (a_words, .inl (cA.1 1, 105, .inr (.inl g_words))), (a_tape, .inl (cA.1 2, 900, .inl g_tape))]) ⟨hx, hb, hml, hown, hts⟩ hK hE hT hP hD hS hA (r_isSign l G cA h0 m_status m_thrown m_above m_under a_traySort a_trayMany a_numbers a_tape m_taped m_textEnd m_faultKind m_faultAt n_12 n_13 v_371 v_372 v_373 v_374 v_375 v_376 a_c a_words m_markMany a_there a_tried a_best a_found m_thereMany m_foundMany m_orderHow m_orderRing m_orderMany m_hasBest m_bestTop m_bestBy a_weights a_shared m_random m_truePlace m_trueWay m_seconds m_done m_feelings m_tries m_leftOver m_playDoor m_playRing m_isOpen m_isOver m_wasTried m_hasPlayed a_feltNow a_last a_kept m_hasSeconds m_hasTurned m_hasRound a_hasFeels a_isOn m_firstAct m_meanTop m_meanBy a_order m_rowMany m_newSteps 59 hr_v_371 hr_v_374) lk_RX12_220 ⟨rfl, rfl⟩ ⟨Nat.le_of_ble_eq_true rfl, Nat.le_of_ble_eq_true rfl⟩ 12 rfl rfl rfl [4] [0, 1, 2, 3, 5] rfl rfl (by decide) rfl hl.1 rfl (lv_room (Nat.le_of_ble_eq_true rfl)) dX12_readFeels_272 ⟨Nat.le_of_ble_eq_true rfl, Nat.le_of_ble_eq_true rfl⟩ (fun r_867 u_868 H locs hw hP hD hS => ?_)
              obtain ⟨he_r_867, hw⟩ := hw
              rcases hw with ⟨rfl, hf_870⟩ | ⟨rfl, hf_871⟩
              · skip
                refine lv_if_eq (tgt := 295) hx hb dX12_readFeels_275 (by decide) (fun _ => ?_) (fun h9 => absurd (by decide +kernel) h9)
                have hpost : (0 ≤ n_12.toInt ∧ n_12.toInt ≤ 9) ∧ (0 ≤ v_371.toInt ∧ v_371.toInt ≤ 4) ∧ (0 ≤ v_372.toInt ∧ v_372.toInt ≤ 900) ∧ (0 ≤ v_373.toInt ∧ v_373.toInt ≤ 900) ∧ (0 ≤ v_374.toInt ∧ v_374.toInt ≤ 9999) ∧ (0 ≤ v_375.toInt ∧ v_375.toInt ≤ 900) ∧ (zRg 3 0 1 g_32) ∧ (zC g_370) ∧ (zNw g_370 g_isOn) ∧ (m_behind.toInt ≤ v_373.toInt) ∧ (0 < m_bad.toInt → 0 < n_12.toInt) ∧ (n_12.toInt ≤ 0 → v_371.toInt = 0 ∨ m_behind.toInt < v_373.toInt) ∧ (n_12.toInt ≤ 0 → v_371.toInt = 3 → v_374.toInt = 59 → zNf g_370) := ⟨hr_n_12, hr_v_371, hr_v_372, hr_v_373, hr_v_374, hr_v_375, hC_g_32, hC_g_370, hs_607, (by omega), (by omega), (by omega), (fun h1 h2 h3 => (zFl_end hi_608 hC_g_370.1 hNF0 (by omega) (by omega) (by omega) (by rw [h_46]; omega)))⟩
                have hX_872 : F_r_readFeels m_textEnd m_bad m_badAt m_behind m_number m_letters m_word g_tape g_c g_words g_hasFeels = ((n_12, n_13, v_371, v_372, v_373, v_374, v_375, v_376, g_32, g_370) : Int32 × Int32 × Int32 × Int32 × Int32 × Int32 × Int32 × Int64 × (Nat → Int32) × (Nat → Int32)) := by
                  refine hF_L74a.trans ?_
                  refine (F_r_readFeels_L74a_s ..).trans ?_
                  refine (if_pos c_863).trans ?_
                  extract_lets -merge -useContext +onlyGivenNames w9 y9; have e9 : (0 : Int32) = w9 := he_r_867; clear_value w9; subst e9
                  refine (if_pos rfl).trans ?_
                  exact rfl
                exact hret _ _ _ _ _ (n_12, n_13, v_371, v_372, v_373, v_374, v_375, v_376, g_32, g_370) [5, 4, 2, 3, 0, 1] hP hD hS rfl (by decide) dX12_readFeels_295 ⟨(congrArg (fun z9 => z9.1) hX_872).symm, (congrArg (fun z9 => z9.2.1) hX_872).symm, (congrArg (fun z9 => z9.2.2.1) hX_872).symm, (congrArg (fun z9 => z9.2.2.2.1) hX_872).symm, (congrArg (fun z9 => z9.2.2.2.2.1) hX_872).symm, (congrArg (fun z9 => z9.2.2.2.2.2.1) hX_872).symm, (congrArg (fun z9 => z9.2.2.2.2.2.2.1) hX_872).symm, (congrArg (fun z9 => z9.2.2.2.2.2.2.2.1) hX_872).symm, (congrArg (fun z9 => z9.2.2.2.2.2.2.2.2.1) hX_872).symm, (congrArg (fun z9 => z9.2.2.2.2.2.2.2.2.2) hX_872).symm, hpost⟩
              · skip
                refine lv_if_eq (tgt := 295) hx hb dX12_readFeels_275 (by decide) (fun h9 => absurd h9 (by decide +kernel)) (fun _ => ?_)
                refine lv_iload_n hx hb dX12_readFeels_278 rfl (lv_at hl 3 rfl) ?_
                refine lv_iload_n hx hb dX12_readFeels_279 rfl (lv_at hl 2 rfl) ?_
                refine lv_iload_n hx hb dX12_readFeels_280 rfl (lv_at hl 2 rfl) ?_
                refine lv_imul hx hb dX12_readFeels_281 ?_
                refine lv_topi (fun x_873 he_x_873 => ?_)
                have hq_x_873 := z_mulq he_x_873 (by omega : x_45.toInt = 2) (rfl : x_45.toInt = _) (by omega) (by omega)
                refine lv_icmp_ge (tgt := 295) hx hb dX12_readFeels_282 (by decide) (fun c_874 => ?_) (fun c_874 => ?_)
                · have b_875 := z_fgeT c_874
                  have hpost : (0 ≤ n_12.toInt ∧ n_12.toInt ≤ 9) ∧ (0 ≤ v_371.toInt ∧ v_371.toInt ≤ 4) ∧ (0 ≤ v_372.toInt ∧ v_372.toInt ≤ 900) ∧ (0 ≤ v_373.toInt ∧ v_373.toInt ≤ 900) ∧ (0 ≤ v_374.toInt ∧ v_374.toInt ≤ 9999) ∧ (0 ≤ v_375.toInt ∧ v_375.toInt ≤ 900) ∧ (zRg 3 0 1 g_32) ∧ (zC g_370) ∧ (zNw g_370 g_isOn) ∧ (m_behind.toInt ≤ v_373.toInt) ∧ (0 < m_bad.toInt → 0 < n_12.toInt) ∧ (n_12.toInt ≤ 0 → v_371.toInt = 0 ∨ m_behind.toInt < v_373.toInt) ∧ (n_12.toInt ≤ 0 → v_371.toInt = 3 → v_374.toInt = 59 → zNf g_370) := ⟨hr_n_12, hr_v_371, hr_v_372, hr_v_373, hr_v_374, hr_v_375, hC_g_32, hC_g_370, hs_607, (by omega), (by omega), (by omega), (fun h1 h2 h3 => (zFl_end hi_608 hC_g_370.1 hNF0 (by omega) (by omega) (by omega) (by rw [h_46]; omega)))⟩
                  have hX_876 : F_r_readFeels m_textEnd m_bad m_badAt m_behind m_number m_letters m_word g_tape g_c g_words g_hasFeels = ((n_12, n_13, v_371, v_372, v_373, v_374, v_375, v_376, g_32, g_370) : Int32 × Int32 × Int32 × Int32 × Int32 × Int32 × Int32 × Int64 × (Nat → Int32) × (Nat → Int32)) := by
                    refine hF_L74a.trans ?_
                    refine (F_r_readFeels_L74a_s ..).trans ?_
                    refine (if_pos c_863).trans ?_
                    extract_lets -merge -useContext +onlyGivenNames w9 y9; have e9 : (1 : Int32) = w9 := he_r_867; clear_value w9; subst e9
                    refine (if_neg (show ¬ (1 : Int32) = 0 by decide)).trans ?_
                    try (extract_lets -merge -useContext +onlyGivenNames y9; have e9 : x_873 = y9 := (by first | exact he_x_873 | exact he_x_873.symm); clear_value y9; subst e9)
                    refine (if_pos c_874).trans ?_
                    exact rfl
                  exact hret _ _ _ _ _ (n_12, n_13, v_371, v_372, v_373, v_374, v_375, v_376, g_32, g_370) [5, 4, 2, 3, 0, 1] hP hD hS rfl (by decide) dX12_readFeels_295 ⟨(congrArg (fun z9 => z9.1) hX_876).symm, (congrArg (fun z9 => z9.2.1) hX_876).symm, (congrArg (fun z9 => z9.2.2.1) hX_876).symm, (congrArg (fun z9 => z9.2.2.2.1) hX_876).symm, (congrArg (fun z9 => z9.2.2.2.2.1) hX_876).symm, (congrArg (fun z9 => z9.2.2.2.2.2.1) hX_876).symm, (congrArg (fun z9 => z9.2.2.2.2.2.2.1) hX_876).symm, (congrArg (fun z9 => z9.2.2.2.2.2.2.2.1) hX_876).symm, (congrArg (fun z9 => z9.2.2.2.2.2.2.2.2.1) hX_876).symm, (congrArg (fun z9 => z9.2.2.2.2.2.2.2.2.2) hX_876).symm, hpost⟩
                · have b_877 := z_fltF c_874
                  refine lv_aload_n hx hb dX12_readFeels_285 rfl (lv_at hl 0 rfl) ?_
                  refine lv_bipush (v := 8) hx hb dX12_readFeels_286 (by decide) ?_
                  refine lv_aload_n hx hb dX12_readFeels_288 rfl (lv_at hl 0 rfl) ?_
                  refine va_get (D := G) (ci := 12) (v := .int v_372) (C := RX12) (T := TX12) (N := 65) hx hb hts inT12 hown hK hP 5 rfl rfl 15 (by decide) (hts _ tw_1900) (fun _ h9 => h9) rfl dX12_readFeels_289 ?_
                  refine z_callVv (As := [.int 8, .int v_372]) (rest := []) (wr := [(a_hasFeels, .inl (cA.1 3, 3, .inl g_32)), (a_isOn, .inl (cA.1 3, 10, .inl g_isOn)), (a_c, .inl (cA.1 0, 1825, .inl g_370)), (a_words, .inl (cA.1 1, 105, .inr (.inl g_words))), (a_tape, .inl (cA.1 2, 900, .inl g_tape))]) ⟨hx, hb, hml, hown, hts⟩ hK hE hT hP hD hS hA (r_fail l G cA h0 m_status m_thrown m_above m_under a_traySort a_trayMany a_numbers a_tape m_taped m_textEnd m_faultKind m_faultAt n_12 n_13 v_371 v_372 v_373 v_374 v_375 v_376 a_c a_words m_markMany a_there a_tried a_best a_found m_thereMany m_foundMany m_orderHow m_orderRing m_orderMany m_hasBest m_bestTop m_bestBy a_weights a_shared m_random m_truePlace m_trueWay m_seconds m_done m_feelings m_tries m_leftOver m_playDoor m_playRing m_isOpen m_isOver m_wasTried m_hasPlayed a_feltNow a_last a_kept m_hasSeconds m_hasTurned m_hasRound a_hasFeels a_isOn m_firstAct m_meanTop m_meanBy a_order m_rowMany m_newSteps 8 v_372 (by decide +kernel) hr_n_12) lk_RX12_180 ⟨rfl, rfl⟩ ⟨Nat.le_of_ble_eq_true rfl, Nat.le_of_ble_eq_true rfl⟩ 12 rfl rfl rfl [5] [0, 1, 2, 3, 4] rfl rfl (by decide) rfl hl.1 rfl (lv_room (Nat.le_of_ble_eq_true rfl)) dX12_readFeels_292 ⟨Nat.le_of_ble_eq_true rfl, Nat.le_of_ble_eq_true rfl⟩ (fun u_881 H locs hw hP hD hS => ?_)
                  obtain ⟨n_878, n_879⟩ := u_881
                  try dsimp only at hw
                  obtain ⟨he_n_878, he_n_879, hw⟩ := hw
                  obtain ⟨hr_n_878, hf_883⟩ := hw
                  have hpost : (0 ≤ n_878.toInt ∧ n_878.toInt ≤ 9) ∧ (0 ≤ v_371.toInt ∧ v_371.toInt ≤ 4) ∧ (0 ≤ v_372.toInt ∧ v_372.toInt ≤ 900) ∧ (0 ≤ v_373.toInt ∧ v_373.toInt ≤ 900) ∧ (0 ≤ v_374.toInt ∧ v_374.toInt ≤ 9999) ∧ (0 ≤ v_375.toInt ∧ v_375.toInt ≤ 900) ∧ (zRg 3 0 1 g_32) ∧ (zC g_370) ∧ (zNw g_370 g_isOn) ∧ (m_behind.toInt ≤ v_373.toInt) ∧ (0 < m_bad.toInt → 0 < n_878.toInt) ∧ (n_878.toInt ≤ 0 → v_371.toInt = 0 ∨ m_behind.toInt < v_373.toInt) ∧ (n_878.toInt ≤ 0 → v_371.toInt = 3 → v_374.toInt = 59 → zNf g_370) := ⟨(z_rgw hr_n_878 (by decide) (by decide)), hr_v_371, hr_v_372, hr_v_373, hr_v_374, hr_v_375, hC_g_32, hC_g_370, hs_607, (by omega), (by omega), (by omega), (fun h1 h2 h3 => (zFl_end hi_608 hC_g_370.1 hNF0 (by omega) (by omega) (by omega) (by rw [h_46]; omega)))⟩
                  have hX_884 : F_r_readFeels m_textEnd m_bad m_badAt m_behind m_number m_letters m_word g_tape g_c g_words g_hasFeels = ((n_878, n_879, v_371, v_372, v_373, v_374, v_375, v_376, g_32, g_370) : Int32 × Int32 × Int32 × Int32 × Int32 × Int32 × Int32 × Int64 × (Nat → Int32) × (Nat → Int32)) := by
                    refine hF_L74a.trans ?_
                    refine (F_r_readFeels_L74a_s ..).trans ?_
                    refine (if_pos c_863).trans ?_
                    extract_lets -merge -useContext +onlyGivenNames w9 y9; have e9 : (1 : Int32) = w9 := he_r_867; clear_value w9; subst e9
                    refine (if_neg (show ¬ (1 : Int32) = 0 by decide)).trans ?_
                    try (extract_lets -merge -useContext +onlyGivenNames y9; have e9 : x_873 = y9 := (by first | exact he_x_873 | exact he_x_873.symm); clear_value y9; subst e9)
                    refine (if_neg c_874).trans ?_
                    extract_lets -merge -useContext +onlyGivenNames w9 y5_0 y5_1; have e9 : (n_878, n_879) = w9 := ((z_tS he_n_878 he_n_879.symm)).symm; clear_value w9; subst e9
                    exact rfl
                  exact hret _ _ _ _ _ (n_878, n_879, v_371, v_372, v_373, v_374, v_375, v_376, g_32, g_370) [5, 4, 2, 3, 0, 1] hP hD hS rfl (by decide) dX12_readFeels_295 ⟨(congrArg (fun z9 => z9.1) hX_884).symm, (congrArg (fun z9 => z9.2.1) hX_884).symm, (congrArg (fun z9 => z9.2.2.1) hX_884).symm, (congrArg (fun z9 => z9.2.2.2.1) hX_884).symm, (congrArg (fun z9 => z9.2.2.2.2.1) hX_884).symm, (congrArg (fun z9 => z9.2.2.2.2.2.1) hX_884).symm, (congrArg (fun z9 => z9.2.2.2.2.2.2.1) hX_884).symm, (congrArg (fun z9 => z9.2.2.2.2.2.2.2.1) hX_884).symm, (congrArg (fun z9 => z9.2.2.2.2.2.2.2.2.1) hX_884).symm, (congrArg (fun z9 => z9.2.2.2.2.2.2.2.2.2) hX_884).symm, hpost⟩
            · have b_885 := z_fneF c_863
              refine lv_aload_n hx hb dX12_readFeels_79 rfl (lv_at hl 0 rfl) ?_
              refine va_get (D := G) (ci := 12) (v := .int n_12) (C := RX12) (T := TX12) (N := 65) hx hb hts inT12 hown hK hP 4 rfl rfl 12 (by decide) (hts _ tw_1897) (fun _ h9 => h9) rfl dX12_readFeels_80 ?_
              refine lv_if_ne (tgt := 262) hx hb dX12_readFeels_83 (by decide) (fun h9 => (z_no (by have h8 := z_fneT h9; omega))) (fun c_886 => ?_)
              have b_887 := z_feqF c_886
              refine lv_aload_n hx hb dX12_readFeels_86 rfl (lv_at hl 0 rfl) ?_
              refine va_get (D := G) (ci := 12) (v := .int v_371) (C := RX12) (T := TX12) (N := 65) hx hb hts inT12 hown hK hP 4 rfl rfl 14 (by decide) (hts _ tw_1899) (fun _ h9 => h9) rfl dX12_readFeels_87 ?_
              refine lv_iconst (v := 2) hx hb dX12_readFeels_90 (by decide) ?_
              refine lv_icmp_eq (tgt := 98) hx hb dX12_readFeels_91 (by decide) (fun c_888 => ?_) (fun c_888 => ?_)
              · have b_889 := z_feqT c_888
                refine lv_aload_n hx hb dX12_readFeels_98 rfl (lv_at hl 0 rfl) ?_
                refine va_get (D := G) (ci := 12) (v := .int n_12) (C := RX12) (T := TX12) (N := 65) hx hb hts inT12 hown hK hP 4 rfl rfl 12 (by decide) (hts _ tw_1897) (fun _ h9 => h9) rfl dX12_readFeels_99 ?_
                refine lv_if_ne (tgt := 123) hx hb dX12_readFeels_102 (by decide) (fun h9 => (z_no (by have h8 := z_fneT h9; omega))) (fun c_890 => ?_)
                have b_891 := z_feqF c_890
                refine lv_aload_n hx hb dX12_readFeels_105 rfl (lv_at hl 0 rfl) ?_
                refine va_get (D := G) (ci := 12) (v := .int v_374) (C := RX12) (T := TX12) (N := 65) hx hb hts inT12 hown hK hP 4 rfl rfl 17 (by decide) (hts _ tw_1902) (fun _ h9 => h9) rfl dX12_readFeels_106 ?_
                refine lv_bipush (v := 16) hx hb dX12_readFeels_109 (by decide) ?_
                refine lv_icmp_le (tgt := 123) hx hb dX12_readFeels_111 (by decide) (fun c_892 => ?_) (fun c_892 => ?_)
                · have b_893 := z_fleT c_892
                  refine lv_aload_n hx hb dX12_readFeels_123 rfl (lv_at hl 0 rfl) ?_
                  refine va_get (D := G) (ci := 12) (v := .int n_12) (C := RX12) (T := TX12) (N := 65) hx hb hts inT12 hown hK hP 4 rfl rfl 12 (by decide) (hts _ tw_1897) (fun _ h9 => h9) rfl dX12_readFeels_124 ?_
                  refine lv_if_ne (tgt := 147) hx hb dX12_readFeels_127 (by decide) (fun h9 => (z_no (by have h8 := z_fneT h9; omega))) (fun c_894 => ?_)
                  have b_895 := z_feqF c_894
                  refine lv_iload_n hx hb dX12_readFeels_130 rfl (lv_at hl 3 rfl) ?_
                  refine lv_iload_n hx hb dX12_readFeels_131 rfl (lv_at hl 2 rfl) ?_
                  refine lv_iload_n hx hb dX12_readFeels_132 rfl (lv_at hl 2 rfl) ?_
                  refine lv_imul hx hb dX12_readFeels_133 ?_
                  refine lv_topi (fun x_896 he_x_896 => ?_)
                  have hq_x_896 := z_mulq he_x_896 (by omega : x_45.toInt = 2) (rfl : x_45.toInt = _) (by omega) (by omega)
                  refine lv_icmp_ne (tgt := 147) hx hb dX12_readFeels_134 (by decide) (fun c_897 => ?_) (fun c_897 => ?_)
                  · have b_898 := z_fneT c_897
                    refine lv_iload_n hx hb dX12_readFeels_147 rfl (lv_at hl 3 rfl) ?_
                    refine lv_iload_n hx hb dX12_readFeels_148 rfl (lv_at hl 2 rfl) ?_
                    refine lv_irem hx hb dX12_readFeels_149 (z_nz (by omega)) ?_
                    refine lv_topi (fun x_899 he_x_899 => ?_)
                    have hq_x_899 := z_remq he_x_899 (rfl : v_367.toInt = _) (by omega : x_45.toInt = 2) (by omega) (by decide)
                    refine lv_if_ne (tgt := 160) hx hb dX12_readFeels_150 (by decide) (fun c_900 => ?_) (fun c_900 => ?_)
                    · have b_901 := z_fneT c_900
                      refine lv_iload hx hb dX12_readFeels_160 (lv_at hl 4 rfl) ?_
                      refine lv_aload_n hx hb dX12_readFeels_162 rfl (lv_at hl 0 rfl) ?_
                      refine va_get (D := G) (ci := 12) (v := .int v_374) (C := RX12) (T := TX12) (N := 65) hx hb hts inT12 hown hK hP 4 rfl rfl 17 (by decide) (hts _ tw_1902) (fun _ h9 => h9) rfl dX12_readFeels_163 ?_
                      refine lv_iadd hx hb dX12_readFeels_166 ?_
                      refine lv_topi (fun x_902 he_x_902 => ?_)
                      have hq_x_902 := z_addq he_x_902 (rfl : v_368.toInt = _) (rfl : v_374.toInt = _) (by omega) (by omega)
                      refine lv_istore (lv' := [(4, .int x_902), (0, .ref h0), (1, .int r_14), (2, .int x_45), (3, .int v_367), (5, .int v_369)]) hx hb dX12_readFeels_167 hl (by decide) rfl (fun ls hl => ?_)
                      refine lv_aload_n hx hb dX12_readFeels_169 rfl (lv_at hl 1 rfl) ?_
                      refine va_get (D := G) (ci := 12) (v := .int n_12) (C := RX12) (T := TX12) (N := 65) hx hb hts inT12 hown hK hP 4 rfl rfl 12 (by decide) (hts _ tw_1897) (fun _ h9 => h9) rfl dX12_readFeels_170 ?_
                      refine lv_if_ne (tgt := 202) hx hb dX12_readFeels_173 (by decide) (fun h9 => (z_no (by have h8 := z_fneT h9; omega))) (fun c_903 => ?_)
                      have b_904 := z_feqF c_903
                      refine lv_iload_n hx hb dX12_readFeels_176 rfl (lv_at hl 4 rfl) ?_
                      refine lv_iload_n hx hb dX12_readFeels_177 rfl (lv_at hl 3 rfl) ?_
                      refine lv_irem hx hb dX12_readFeels_178 (z_nz (by omega)) ?_
                      refine lv_topi (fun x_905 he_x_905 => ?_)
                      have hq_x_905 := z_remq he_x_905 (rfl : v_367.toInt = _) (by omega : x_45.toInt = 2) (by omega) (by decide)
                      refine lv_iload_n hx hb dX12_readFeels_179 rfl (lv_at hl 3 rfl) ?_
                      refine lv_iconst (v := 1) hx hb dX12_readFeels_180 (by decide) ?_
                      refine lv_isub hx hb dX12_readFeels_181 ?_
                      refine lv_topi (fun x_906 he_x_906 => ?_)
                      have hq_x_906 := z_subq he_x_906 (rfl : x_45.toInt = _) hk_1 (by omega) (by omega)
                      refine lv_icmp_ne (tgt := 202) hx hb dX12_readFeels_182 (by decide) (fun c_907 => ?_) (fun c_907 => ?_)
                      · have b_908 := z_fneT c_907
                        refine lv_aload_n hx hb dX12_readFeels_202 rfl (lv_at hl 1 rfl) ?_
                        refine va_get (D := G) (ci := 12) (v := .int n_12) (C := RX12) (T := TX12) (N := 65) hx hb hts inT12 hown hK hP 4 rfl rfl 12 (by decide) (hts _ tw_1897) (fun _ h9 => h9) rfl dX12_readFeels_203 ?_
                        refine lv_if_le (tgt := 210) hx hb dX12_readFeels_206 (by decide) (fun c_909 => ?_) (fun h9 => (z_no (by have h8 := z_fgtF h9; omega)))
                        have b_910 := z_fleT c_909
                        have hn_k_911 : 0 ≤ v_367.toInt ∧ v_367.toInt ≤ 3 := by omega
                        refine lv_aload_n hx hb dX12_readFeels_210 rfl (lv_at hl 1 rfl) ?_
                        refine va_get (D := G) (ci := 12) (v := .ref a_c) (C := RX12) (T := TX12) (N := 65) hx hb hts inT12 hown hK hP 4 rfl rfl 20 (by decide) (hts _ tw_1905) (fun _ h9 => h9) rfl dX12_readFeels_211 ?_
                        refine lv_sipush (v := 1477) hx hb dX12_readFeels_214 (by decide) ?_
                        refine lv_bipush (v := 16) hx hb dX12_readFeels_217 (by decide) ?_
                        refine lv_iload_n hx hb dX12_readFeels_219 rfl (lv_at hl 2 rfl) ?_
                        refine lv_imul hx hb dX12_readFeels_220 ?_
                        refine lv_topi (fun x_912 he_x_912 => ?_)
                        have hq_x_912 := z_mulq he_x_912 hk_16 (rfl : r_14.toInt = _) (by omega) (by omega)
                        refine lv_iadd hx hb dX12_readFeels_221 ?_
                        refine lv_topi (fun x_913 he_x_913 => ?_)
                        have hq_x_913 := z_addq he_x_913 hk_1477 (rfl : x_912.toInt = _) (by omega) (by omega)
                        refine lv_iconst (v := 4) hx hb dX12_readFeels_222 (by decide) ?_
                        refine lv_iload_n hx hb dX12_readFeels_223 rfl (lv_at hl 4 rfl) ?_
                        refine lv_iload_n hx hb dX12_readFeels_224 rfl (lv_at hl 3 rfl) ?_
                        refine lv_idiv hx hb dX12_readFeels_225 (z_nz (by omega)) ?_
                        refine lv_topi (fun x_914 he_x_914 => ?_)
                        have hq_x_914 := z_divq he_x_914 (rfl : v_367.toInt = _) (by omega : x_45.toInt = 2) (by omega) (by decide)
                        refine lv_imul hx hb dX12_readFeels_226 ?_
                        refine lv_topi (fun x_915 he_x_915 => ?_)
                        have hq_x_915 := z_mulq he_x_915 hk_4 (rfl : x_914.toInt = _) (by omega) (by omega)
                        refine lv_iadd hx hb dX12_readFeels_227 ?_
                        refine lv_topi (fun x_916 he_x_916 => ?_)
                        have hq_x_916 := z_addq he_x_916 (rfl : x_913.toInt = _) (rfl : x_915.toInt = _) (by omega) (by omega)
                        refine lv_iload_n hx hb dX12_readFeels_228 rfl (lv_at hl 4 rfl) ?_
                        refine lv_iload_n hx hb dX12_readFeels_229 rfl (lv_at hl 3 rfl) ?_
                        refine lv_irem hx hb dX12_readFeels_230 (z_nz (by omega)) ?_
                        refine lv_topi (fun x_917 he_x_917 => ?_)
                        have hq_x_917 := z_remq he_x_917 (rfl : v_367.toInt = _) (by omega : x_45.toInt = 2) (by omega) (by decide)
                        refine lv_iadd hx hb dX12_readFeels_231 ?_
                        refine lv_topi (fun x_918 he_x_918 => ?_)
                        have hq_x_918 := z_addq he_x_918 (rfl : x_916.toInt = _) (rfl : x_917.toInt = _) (by omega) (by omega)
                        refine lv_aload_n hx hb dX12_readFeels_232 rfl (lv_at hl 1 rfl) ?_
                        refine va_get (D := G) (ci := 12) (v := .int v_374) (C := RX12) (T := TX12) (N := 65) hx hb hts inT12 hown hK hP 4 rfl rfl 17 (by decide) (hts _ tw_1902) (fun _ h9 => h9) rfl dX12_readFeels_233 ?_
                        refine z_iast hx hb hK hP hD hS 2 0 rfl rfl (z_inN (by omega) (by omega)) dX12_readFeels_236 (fun g_919 hg_g_919 H locs hP hD hS => ?_)
                        have hC_g_919 := z_ctU hC_g_370 hg_g_919 (a := 1477) (b := 1514) (lo := 0) (hi := 16) (by decide +kernel) (by decide +kernel) (by omega) (by omega) (by omega)
                        have hw_g_919_1460 := z_cwo hg_g_919 (k := 1460) (by omega) (by omega)
                        have hs_920 : zNw g_919 g_isOn := (zNw_fr hs_607 hg_g_919 (a := 1477) (b := 1514) (by decide +kernel) (by omega) (by omega))
                        obtain ⟨x_921, he_x_921⟩ : ∃ z : Int32, z = v_367 + 1 := ⟨_, rfl⟩
                        have hq_x_921 := z_addq he_x_921 (rfl : v_367.toInt = _) hk_1 (by omega) (by omega)
                        refine lv_iinc (v := x_921) (lv' := [(3, .int x_921), (4, .int x_902), (0, .ref h0), (1, .int r_14), (2, .int x_45), (5, .int v_369)]) hx hb dX12_readFeels_237 hl (k := 4) rfl ((z_ofi (by decide +kernel)).trans he_x_921.symm) (by decide) rfl (fun ls hl => ?_)
                        refine lv_aload_n hx hb dX12_readFeels_240 rfl (lv_at hl 2 rfl) ?_
                        refine z_callVv (As := []) (rest := []) (wr := [(a_hasFeels, .inl (cA.1 3, 3, .inl g_32)), (a_isOn, .inl (cA.1 3, 10, .inl g_isOn)), (a_c, .inl (cA.1 0, 1825, .inl g_919)), (a_words, .inl (cA.1 1, 105, .inr (.inl g_words)))]) ⟨hx, hb, hml, hown, hts⟩ hK hE hT hP hD hS hA (r_next2 l G cA h0 m_status m_thrown m_above m_under a_traySort a_trayMany a_numbers a_tape m_taped m_textEnd m_faultKind m_faultAt n_12 n_13 v_371 v_372 v_373 v_374 v_375 v_376 a_c a_words m_markMany a_there a_tried a_best a_found m_thereMany m_foundMany m_orderHow m_orderRing m_orderMany m_hasBest m_bestTop m_bestBy a_weights a_shared m_random m_truePlace m_trueWay m_seconds m_done m_feelings m_tries m_leftOver m_playDoor m_playRing m_isOpen m_isOver m_wasTried m_hasPlayed a_feltNow a_last a_kept m_hasSeconds m_hasTurned m_hasRound a_hasFeels a_isOn m_firstAct m_meanTop m_meanBy a_order m_rowMany m_newSteps g_tape hr_m_textEnd hr_v_372 hr_v_373 hr_v_371 hr_v_374 hr_v_375) lk_RX12_184 ⟨rfl, rfl⟩ ⟨Nat.le_of_ble_eq_true rfl, Nat.le_of_ble_eq_true rfl⟩ 12 rfl rfl rfl [4, 5] [0, 1, 2, 3] rfl rfl (by decide) rfl hl.1 rfl (lv_room (Nat.le_of_ble_eq_true rfl)) dX12_readFeels_241 ⟨Nat.le_of_ble_eq_true rfl, Nat.le_of_ble_eq_true rfl⟩ (fun u_929 H locs hw hP hD hS => ?_)
                        obtain ⟨n_922, n_923, n_924, n_925, n_926, n_927⟩ := u_929
                        try dsimp only at hw
                        obtain ⟨he_n_922, he_n_923, he_n_924, he_n_925, he_n_926, he_n_927, hw⟩ := hw
                        obtain ⟨hr_n_922, hr_n_923, hr_n_924, hr_n_925, hr_n_926, hf_931, hf_932⟩ := hw
                        refine lv_aload_n hx hb dX12_readFeels_244 rfl (lv_at hl 2 rfl) ?_
                        refine va_get (D := G) (ci := 12) (v := .int n_922) (C := RX12) (T := TX12) (N := 65) hx hb hts inT12 hown hK hP 4 rfl rfl 14 (by decide) (hts _ tw_1899) (fun _ h9 => h9) rfl dX12_readFeels_245 ?_
                        refine lv_iconst (v := 2) hx hb dX12_readFeels_248 (by decide) ?_
                        refine lv_icmp_ne (tgt := 256) hx hb dX12_readFeels_249 (by decide) (fun c_933 => ?_) (fun c_933 => ?_)
                        · have b_934 := z_fneT c_933
                          refine lv_iconst (v := 0) hx hb dX12_readFeels_256 (by decide) ?_
                          refine lv_istore (lv' := [(5, .int 0), (3, .int x_921), (4, .int x_902), (0, .ref h0), (1, .int r_14), (2, .int x_45)]) hx hb dX12_readFeels_257 hl (by decide) rfl (fun ls hl => ?_)
                          refine lv_goto (tgt := 74) hx hb dX12_readFeels_259 (by decide) ?_
                          have hX_935 : F_r_readFeels m_textEnd m_bad m_badAt m_behind m_number m_letters m_word g_tape g_c g_words g_hasFeels = F_r_readFeels_L74a m_textEnd g_tape r_14 n_12 n_13 g_32 x_45 n_L74a x_921 x_902 (0 : Int32) g_919 n_922 n_923 n_924 n_925 n_926 n_927 := by
                            refine hF_L74a.trans ?_
                            refine (F_r_readFeels_L74a_s ..).trans ?_
                            refine (if_neg c_863).trans ?_
                            refine (if_pos c_888).trans ?_
                            refine (if_pos c_892).trans ?_
                            try (extract_lets -merge -useContext +onlyGivenNames y9; have e9 : x_896 = y9 := (by first | exact he_x_896 | exact he_x_896.symm); clear_value y9; subst e9)
                            refine (if_neg c_897).trans ?_
                            try (extract_lets -merge -useContext +onlyGivenNames y9; have e9 : x_899 = y9 := (by first | exact he_x_899 | exact he_x_899.symm); clear_value y9; subst e9)
                            refine (if_neg c_900).trans ?_
                            try (extract_lets -merge -useContext +onlyGivenNames y9; have e9 : x_902 = y9 := (by first | exact he_x_902 | exact he_x_902.symm); clear_value y9; subst e9)
                            try (extract_lets -merge -useContext +onlyGivenNames y9; have e9 : x_905 = y9 := (by first | exact he_x_905 | exact he_x_905.symm); clear_value y9; subst e9)
                            try (extract_lets -merge -useContext +onlyGivenNames y9; have e9 : x_906 = y9 := (by first | exact he_x_906 | exact he_x_906.symm); clear_value y9; subst e9)
                            refine (if_neg c_907).trans ?_
                            try (extract_lets -merge -useContext +onlyGivenNames y9; have e9 : x_912 = y9 := (by first | exact he_x_912 | exact he_x_912.symm); clear_value y9; subst e9)
                            try (extract_lets -merge -useContext +onlyGivenNames y9; have e9 : x_913 = y9 := (by first | exact he_x_913 | exact he_x_913.symm); clear_value y9; subst e9)
                            try (extract_lets -merge -useContext +onlyGivenNames y9; have e9 : x_914 = y9 := (by first | exact he_x_914 | exact he_x_914.symm); clear_value y9; subst e9)
                            try (extract_lets -merge -useContext +onlyGivenNames y9; have e9 : x_915 = y9 := (by first | exact he_x_915 | exact he_x_915.symm); clear_value y9; subst e9)
                            try (extract_lets -merge -useContext +onlyGivenNames y9; have e9 : x_916 = y9 := (by first | exact he_x_916 | exact he_x_916.symm); clear_value y9; subst e9)
                            try (extract_lets -merge -useContext +onlyGivenNames y9; have e9 : x_917 = y9 := (by first | exact he_x_917 | exact he_x_917.symm); clear_value y9; subst e9)
                            try (extract_lets -merge -useContext +onlyGivenNames y9; have e9 : x_918 = y9 := (by first | exact he_x_918 | exact he_x_918.symm); clear_value y9; subst e9)
                            try (extract_lets -merge -useContext +onlyGivenNames y9; have e9 : g_919 = y9 := (by first | exact hg_g_919 | exact hg_g_919.symm); clear_value y9; subst e9)
                            try (extract_lets -merge -useContext +onlyGivenNames y9; have e9 : x_921 = y9 := (by first | exact he_x_921 | exact he_x_921.symm); clear_value y9; subst e9)
                            extract_lets -merge -useContext +onlyGivenNames w9 y20_0 y20_1 y20_2 y20_3 y20_4 y20_5; have e9 : (n_922, n_923, n_924, n_925, n_926, n_927) = w9 := ((z_tS he_n_922 (z_tS he_n_923 (z_tS he_n_924 (z_tS he_n_925 (z_tS he_n_926 he_n_927.symm)))))).symm; clear_value w9; subst e9
                            refine (if_neg c_933).trans ?_
                            exact rfl
                          exact ih_862 x_921 x_902 0 g_919 n_922 n_923 n_924 n_925 n_926 n_927 H locs ls (by omega) (by omega) (by omega) (by decide +kernel) hC_g_919 hr_n_922 hr_n_923 hr_n_924 hr_n_925 hr_n_926 hs_920 (by rw [hq_x_921]; exact zFl_step hi_608 hg_g_919 (by omega) (by omega) (by omega) (r := x_914.toInt) (c := x_917.toInt) (by rw [h_46]; omega) (by omega) (by omega) (by omega) (by omega) (by omega) (by omega) (by omega)) (by omega) (by omega) (by omega) (by omega) (by omega) hX_935 hP hD hS (lv_sub hl [3, 4, 5, 1, 2, 0] rfl)
                        · have b_936 := z_feqF c_933
                          refine lv_iconst (v := 1) hx hb dX12_readFeels_252 (by decide) ?_
                          refine lv_goto (tgt := 257) hx hb dX12_readFeels_253 (by decide) ?_
                          refine lv_istore (lv' := [(5, .int 1), (3, .int x_921), (4, .int x_902), (0, .ref h0), (1, .int r_14), (2, .int x_45)]) hx hb dX12_readFeels_257 hl (by decide) rfl (fun ls hl => ?_)
                          refine lv_goto (tgt := 74) hx hb dX12_readFeels_259 (by decide) ?_
                          have hX_937 : F_r_readFeels m_textEnd m_bad m_badAt m_behind m_number m_letters m_word g_tape g_c g_words g_hasFeels = F_r_readFeels_L74a m_textEnd g_tape r_14 n_12 n_13 g_32 x_45 n_L74a x_921 x_902 (1 : Int32) g_919 n_922 n_923 n_924 n_925 n_926 n_927 := by
                            refine hF_L74a.trans ?_
                            refine (F_r_readFeels_L74a_s ..).trans ?_
                            refine (if_neg c_863).trans ?_
                            refine (if_pos c_888).trans ?_
                            refine (if_pos c_892).trans ?_
                            try (extract_lets -merge -useContext +onlyGivenNames y9; have e9 : x_896 = y9 := (by first | exact he_x_896 | exact he_x_896.symm); clear_value y9; subst e9)
                            refine (if_neg c_897).trans ?_
                            try (extract_lets -merge -useContext +onlyGivenNames y9; have e9 : x_899 = y9 := (by first | exact he_x_899 | exact he_x_899.symm); clear_value y9; subst e9)
                            refine (if_neg c_900).trans ?_
                            try (extract_lets -merge -useContext +onlyGivenNames y9; have e9 : x_902 = y9 := (by first | exact he_x_902 | exact he_x_902.symm); clear_value y9; subst e9)
                            try (extract_lets -merge -useContext +onlyGivenNames y9; have e9 : x_905 = y9 := (by first | exact he_x_905 | exact he_x_905.symm); clear_value y9; subst e9)
                            try (extract_lets -merge -useContext +onlyGivenNames y9; have e9 : x_906 = y9 := (by first | exact he_x_906 | exact he_x_906.symm); clear_value y9; subst e9)
                            refine (if_neg c_907).trans ?_
                            try (extract_lets -merge -useContext +onlyGivenNames y9; have e9 : x_912 = y9 := (by first | exact he_x_912 | exact he_x_912.symm); clear_value y9; subst e9)
                            try (extract_lets -merge -useContext +onlyGivenNames y9; have e9 : x_913 = y9 := (by first | exact he_x_913 | exact he_x_913.symm); clear_value y9; subst e9)
                            try (extract_lets -merge -useContext +onlyGivenNames y9; have e9 : x_914 = y9 := (by first | exact he_x_914 | exact he_x_914.symm); clear_value y9; subst e9)
                            try (extract_lets -merge -useContext +onlyGivenNames y9; have e9 : x_915 = y9 := (by first | exact he_x_915 | exact he_x_915.symm); clear_value y9; subst e9)
                            try (extract_lets -merge -useContext +onlyGivenNames y9; have e9 : x_916 = y9 := (by first | exact he_x_916 | exact he_x_916.symm); clear_value y9; subst e9)
                            try (extract_lets -merge -useContext +onlyGivenNames y9; have e9 : x_917 = y9 := (by first | exact he_x_917 | exact he_x_917.symm); clear_value y9; subst e9)
                            try (extract_lets -merge -useContext +onlyGivenNames y9; have e9 : x_918 = y9 := (by first | exact he_x_918 | exact he_x_918.symm); clear_value y9; subst e9)
                            try (extract_lets -merge -useContext +onlyGivenNames y9; have e9 : g_919 = y9 := (by first | exact hg_g_919 | exact hg_g_919.symm); clear_value y9; subst e9)
                            try (extract_lets -merge -useContext +onlyGivenNames y9; have e9 : x_921 = y9 := (by first | exact he_x_921 | exact he_x_921.symm); clear_value y9; subst e9)
                            extract_lets -merge -useContext +onlyGivenNames w9 y20_0 y20_1 y20_2 y20_3 y20_4 y20_5; have e9 : (n_922, n_923, n_924, n_925, n_926, n_927) = w9 := ((z_tS he_n_922 (z_tS he_n_923 (z_tS he_n_924 (z_tS he_n_925 (z_tS he_n_926 he_n_927.symm)))))).symm; clear_value w9; subst e9
                            refine (if_pos c_933).trans ?_
                            exact rfl
                          exact ih_862 x_921 x_902 1 g_919 n_922 n_923 n_924 n_925 n_926 n_927 H locs ls (by omega) (by omega) (by omega) (by decide +kernel) hC_g_919 hr_n_922 hr_n_923 hr_n_924 hr_n_925 hr_n_926 hs_920 (by rw [hq_x_921]; exact zFl_step hi_608 hg_g_919 (by omega) (by omega) (by omega) (r := x_914.toInt) (c := x_917.toInt) (by rw [h_46]; omega) (by omega) (by omega) (by omega) (by omega) (by omega) (by omega) (by omega)) (by omega) (by omega) (by omega) (by omega) (by omega) hX_937 hP hD hS (lv_sub hl [3, 4, 5, 1, 2, 0] rfl)
                      · have b_938 := z_feqF c_907
                        refine lv_iload hx hb dX12_readFeels_185 (lv_at hl 0 rfl) ?_
                        refine lv_bipush (v := 16) hx hb dX12_readFeels_187 (by decide) ?_
                        refine lv_icmp_eq (tgt := 202) hx hb dX12_readFeels_189 (by decide) (fun c_939 => ?_) (fun c_939 => ?_)
                        · have b_940 := z_feqT c_939
                          refine lv_aload_n hx hb dX12_readFeels_202 rfl (lv_at hl 1 rfl) ?_
                          refine va_get (D := G) (ci := 12) (v := .int n_12) (C := RX12) (T := TX12) (N := 65) hx hb hts inT12 hown hK hP 4 rfl rfl 12 (by decide) (hts _ tw_1897) (fun _ h9 => h9) rfl dX12_readFeels_203 ?_
                          refine lv_if_le (tgt := 210) hx hb dX12_readFeels_206 (by decide) (fun c_941 => ?_) (fun h9 => (z_no (by have h8 := z_fgtF h9; omega)))
                          have b_942 := z_fleT c_941
                          have hn_k_943 : 0 ≤ v_367.toInt ∧ v_367.toInt ≤ 3 := by omega
                          refine lv_aload_n hx hb dX12_readFeels_210 rfl (lv_at hl 1 rfl) ?_
                          refine va_get (D := G) (ci := 12) (v := .ref a_c) (C := RX12) (T := TX12) (N := 65) hx hb hts inT12 hown hK hP 4 rfl rfl 20 (by decide) (hts _ tw_1905) (fun _ h9 => h9) rfl dX12_readFeels_211 ?_
                          refine lv_sipush (v := 1477) hx hb dX12_readFeels_214 (by decide) ?_
                          refine lv_bipush (v := 16) hx hb dX12_readFeels_217 (by decide) ?_
                          refine lv_iload_n hx hb dX12_readFeels_219 rfl (lv_at hl 2 rfl) ?_
                          refine lv_imul hx hb dX12_readFeels_220 ?_
                          refine lv_topi (fun x_944 he_x_944 => ?_)
                          have hq_x_944 := z_mulq he_x_944 hk_16 (rfl : r_14.toInt = _) (by omega) (by omega)
                          refine lv_iadd hx hb dX12_readFeels_221 ?_
                          refine lv_topi (fun x_945 he_x_945 => ?_)
                          have hq_x_945 := z_addq he_x_945 hk_1477 (rfl : x_944.toInt = _) (by omega) (by omega)
                          refine lv_iconst (v := 4) hx hb dX12_readFeels_222 (by decide) ?_
                          refine lv_iload_n hx hb dX12_readFeels_223 rfl (lv_at hl 4 rfl) ?_
                          refine lv_iload_n hx hb dX12_readFeels_224 rfl (lv_at hl 3 rfl) ?_
                          refine lv_idiv hx hb dX12_readFeels_225 (z_nz (by omega)) ?_
                          refine lv_topi (fun x_946 he_x_946 => ?_)
                          have hq_x_946 := z_divq he_x_946 (rfl : v_367.toInt = _) (by omega : x_45.toInt = 2) (by omega) (by decide)
                          refine lv_imul hx hb dX12_readFeels_226 ?_
                          refine lv_topi (fun x_947 he_x_947 => ?_)
                          have hq_x_947 := z_mulq he_x_947 hk_4 (rfl : x_946.toInt = _) (by omega) (by omega)
                          refine lv_iadd hx hb dX12_readFeels_227 ?_
                          refine lv_topi (fun x_948 he_x_948 => ?_)
                          have hq_x_948 := z_addq he_x_948 (rfl : x_945.toInt = _) (rfl : x_947.toInt = _) (by omega) (by omega)
                          refine lv_iload_n hx hb dX12_readFeels_228 rfl (lv_at hl 4 rfl) ?_
                          refine lv_iload_n hx hb dX12_readFeels_229 rfl (lv_at hl 3 rfl) ?_
                          refine lv_irem hx hb dX12_readFeels_230 (z_nz (by omega)) ?_
                          refine lv_topi (fun x_949 he_x_949 => ?_)
                          have hq_x_949 := z_remq he_x_949 (rfl : v_367.toInt = _) (by omega : x_45.toInt = 2) (by omega) (by decide)
                          refine lv_iadd hx hb dX12_readFeels_231 ?_
                          refine lv_topi (fun x_950 he_x_950 => ?_)
                          have hq_x_950 := z_addq he_x_950 (rfl : x_948.toInt = _) (rfl : x_949.toInt = _) (by omega) (by omega)
                          refine lv_aload_n hx hb dX12_readFeels_232 rfl (lv_at hl 1 rfl) ?_
                          refine va_get (D := G) (ci := 12) (v := .int v_374) (C := RX12) (T := TX12) (N := 65) hx hb hts inT12 hown hK hP 4 rfl rfl 17 (by decide) (hts _ tw_1902) (fun _ h9 => h9) rfl dX12_readFeels_233 ?_
                          refine z_iast hx hb hK hP hD hS 2 0 rfl rfl (z_inN (by omega) (by omega)) dX12_readFeels_236 (fun g_951 hg_g_951 H locs hP hD hS => ?_)
                          have hC_g_951 := z_ctU hC_g_370 hg_g_951 (a := 1477) (b := 1514) (lo := 0) (hi := 16) (by decide +kernel) (by decide +kernel) (by omega) (by omega) (by omega)
                          have hw_g_951_1460 := z_cwo hg_g_951 (k := 1460) (by omega) (by omega)
                          have hs_952 : zNw g_951 g_isOn := (zNw_fr hs_607 hg_g_951 (a := 1477) (b := 1514) (by decide +kernel) (by omega) (by omega))
                          obtain ⟨x_953, he_x_953⟩ : ∃ z : Int32, z = v_367 + 1 := ⟨_, rfl⟩
                          have hq_x_953 := z_addq he_x_953 (rfl : v_367.toInt = _) hk_1 (by omega) (by omega)
                          refine lv_iinc (v := x_953) (lv' := [(3, .int x_953), (4, .int x_902), (0, .ref h0), (1, .int r_14), (2, .int x_45), (5, .int v_369)]) hx hb dX12_readFeels_237 hl (k := 4) rfl ((z_ofi (by decide +kernel)).trans he_x_953.symm) (by decide) rfl (fun ls hl => ?_)
                          refine lv_aload_n hx hb dX12_readFeels_240 rfl (lv_at hl 2 rfl) ?_
                          refine z_callVv (As := []) (rest := []) (wr := [(a_hasFeels, .inl (cA.1 3, 3, .inl g_32)), (a_isOn, .inl (cA.1 3, 10, .inl g_isOn)), (a_c, .inl (cA.1 0, 1825, .inl g_951)), (a_words, .inl (cA.1 1, 105, .inr (.inl g_words)))]) ⟨hx, hb, hml, hown, hts⟩ hK hE hT hP hD hS hA (r_next2 l G cA h0 m_status m_thrown m_above m_under a_traySort a_trayMany a_numbers a_tape m_taped m_textEnd m_faultKind m_faultAt n_12 n_13 v_371 v_372 v_373 v_374 v_375 v_376 a_c a_words m_markMany a_there a_tried a_best a_found m_thereMany m_foundMany m_orderHow m_orderRing m_orderMany m_hasBest m_bestTop m_bestBy a_weights a_shared m_random m_truePlace m_trueWay m_seconds m_done m_feelings m_tries m_leftOver m_playDoor m_playRing m_isOpen m_isOver m_wasTried m_hasPlayed a_feltNow a_last a_kept m_hasSeconds m_hasTurned m_hasRound a_hasFeels a_isOn m_firstAct m_meanTop m_meanBy a_order m_rowMany m_newSteps g_tape hr_m_textEnd hr_v_372 hr_v_373 hr_v_371 hr_v_374 hr_v_375) lk_RX12_184 ⟨rfl, rfl⟩ ⟨Nat.le_of_ble_eq_true rfl, Nat.le_of_ble_eq_true rfl⟩ 12 rfl rfl rfl [4, 5] [0, 1, 2, 3] rfl rfl (by decide) rfl hl.1 rfl (lv_room (Nat.le_of_ble_eq_true rfl)) dX12_readFeels_241 ⟨Nat.le_of_ble_eq_true rfl, Nat.le_of_ble_eq_true rfl⟩ (fun u_961 H locs hw hP hD hS => ?_)
                          obtain ⟨n_954, n_955, n_956, n_957, n_958, n_959⟩ := u_961
                          try dsimp only at hw
                          obtain ⟨he_n_954, he_n_955, he_n_956, he_n_957, he_n_958, he_n_959, hw⟩ := hw
                          obtain ⟨hr_n_954, hr_n_955, hr_n_956, hr_n_957, hr_n_958, hf_963, hf_964⟩ := hw
                          refine lv_aload_n hx hb dX12_readFeels_244 rfl (lv_at hl 2 rfl) ?_
                          refine va_get (D := G) (ci := 12) (v := .int n_954) (C := RX12) (T := TX12) (N := 65) hx hb hts inT12 hown hK hP 4 rfl rfl 14 (by decide) (hts _ tw_1899) (fun _ h9 => h9) rfl dX12_readFeels_245 ?_
                          refine lv_iconst (v := 2) hx hb dX12_readFeels_248 (by decide) ?_
                          refine lv_icmp_ne (tgt := 256) hx hb dX12_readFeels_249 (by decide) (fun c_965 => ?_) (fun c_965 => ?_)
                          · have b_966 := z_fneT c_965
                            refine lv_iconst (v := 0) hx hb dX12_readFeels_256 (by decide) ?_
                            refine lv_istore (lv' := [(5, .int 0), (3, .int x_953), (4, .int x_902), (0, .ref h0), (1, .int r_14), (2, .int x_45)]) hx hb dX12_readFeels_257 hl (by decide) rfl (fun ls hl => ?_)
                            refine lv_goto (tgt := 74) hx hb dX12_readFeels_259 (by decide) ?_
                            have hX_967 : F_r_readFeels m_textEnd m_bad m_badAt m_behind m_number m_letters m_word g_tape g_c g_words g_hasFeels = F_r_readFeels_L74a m_textEnd g_tape r_14 n_12 n_13 g_32 x_45 n_L74a x_953 x_902 (0 : Int32) g_951 n_954 n_955 n_956 n_957 n_958 n_959 := by
                              refine hF_L74a.trans ?_
                              refine (F_r_readFeels_L74a_s ..).trans ?_
                              refine (if_neg c_863).trans ?_
                              refine (if_pos c_888).trans ?_
                              refine (if_pos c_892).trans ?_
                              try (extract_lets -merge -useContext +onlyGivenNames y9; have e9 : x_896 = y9 := (by first | exact he_x_896 | exact he_x_896.symm); clear_value y9; subst e9)
                              refine (if_neg c_897).trans ?_
                              try (extract_lets -merge -useContext +onlyGivenNames y9; have e9 : x_899 = y9 := (by first | exact he_x_899 | exact he_x_899.symm); clear_value y9; subst e9)
                              refine (if_neg c_900).trans ?_
                              try (extract_lets -merge -useContext +onlyGivenNames y9; have e9 : x_902 = y9 := (by first | exact he_x_902 | exact he_x_902.symm); clear_value y9; subst e9)
                              try (extract_lets -merge -useContext +onlyGivenNames y9; have e9 : x_905 = y9 := (by first | exact he_x_905 | exact he_x_905.symm); clear_value y9; subst e9)
                              try (extract_lets -merge -useContext +onlyGivenNames y9; have e9 : x_906 = y9 := (by first | exact he_x_906 | exact he_x_906.symm); clear_value y9; subst e9)
                              refine (if_pos c_907).trans ?_
                              refine (if_pos c_939).trans ?_
                              try (extract_lets -merge -useContext +onlyGivenNames y9; have e9 : x_944 = y9 := (by first | exact he_x_944 | exact he_x_944.symm); clear_value y9; subst e9)
                              try (extract_lets -merge -useContext +onlyGivenNames y9; have e9 : x_945 = y9 := (by first | exact he_x_945 | exact he_x_945.symm); clear_value y9; subst e9)
                              try (extract_lets -merge -useContext +onlyGivenNames y9; have e9 : x_946 = y9 := (by first | exact he_x_946 | exact he_x_946.symm); clear_value y9; subst e9)
                              try (extract_lets -merge -useContext +onlyGivenNames y9; have e9 : x_947 = y9 := (by first | exact he_x_947 | exact he_x_947.symm); clear_value y9; subst e9)
                              try (extract_lets -merge -useContext +onlyGivenNames y9; have e9 : x_948 = y9 := (by first | exact he_x_948 | exact he_x_948.symm); clear_value y9; subst e9)
                              try (extract_lets -merge -useContext +onlyGivenNames y9; have e9 : x_949 = y9 := (by first | exact he_x_949 | exact he_x_949.symm); clear_value y9; subst e9)
                              try (extract_lets -merge -useContext +onlyGivenNames y9; have e9 : x_950 = y9 := (by first | exact he_x_950 | exact he_x_950.symm); clear_value y9; subst e9)
                              try (extract_lets -merge -useContext +onlyGivenNames y9; have e9 : g_951 = y9 := (by first | exact hg_g_951 | exact hg_g_951.symm); clear_value y9; subst e9)
                              try (extract_lets -merge -useContext +onlyGivenNames y9; have e9 : x_953 = y9 := (by first | exact he_x_953 | exact he_x_953.symm); clear_value y9; subst e9)
                              extract_lets -merge -useContext +onlyGivenNames w9 y21_0 y21_1 y21_2 y21_3 y21_4 y21_5; have e9 : (n_954, n_955, n_956, n_957, n_958, n_959) = w9 := ((z_tS he_n_954 (z_tS he_n_955 (z_tS he_n_956 (z_tS he_n_957 (z_tS he_n_958 he_n_959.symm)))))).symm; clear_value w9; subst e9
                              refine (if_neg c_965).trans ?_
                              exact rfl
                            exact ih_862 x_953 x_902 0 g_951 n_954 n_955 n_956 n_957 n_958 n_959 H locs ls (by omega) (by omega) (by omega) (by decide +kernel) hC_g_951 hr_n_954 hr_n_955 hr_n_956 hr_n_957 hr_n_958 hs_952 (by rw [hq_x_953]; exact zFl_step hi_608 hg_g_951 (by omega) (by omega) (by omega) (r := x_946.toInt) (c := x_949.toInt) (by rw [h_46]; omega) (by omega) (by omega) (by omega) (by omega) (by omega) (by omega) (by omega)) (by omega) (by omega) (by omega) (by omega) (by omega) hX_967 hP hD hS (lv_sub hl [3, 4, 5, 1, 2, 0] rfl)
                          · have b_968 := z_feqF c_965
                            refine lv_iconst (v := 1) hx hb dX12_readFeels_252 (by decide) ?_
                            refine lv_goto (tgt := 257) hx hb dX12_readFeels_253 (by decide) ?_
                            refine lv_istore (lv' := [(5, .int 1), (3, .int x_953), (4, .int x_902), (0, .ref h0), (1, .int r_14), (2, .int x_45)]) hx hb dX12_readFeels_257 hl (by decide) rfl (fun ls hl => ?_)
                            refine lv_goto (tgt := 74) hx hb dX12_readFeels_259 (by decide) ?_
                            have hX_969 : F_r_readFeels m_textEnd m_bad m_badAt m_behind m_number m_letters m_word g_tape g_c g_words g_hasFeels = F_r_readFeels_L74a m_textEnd g_tape r_14 n_12 n_13 g_32 x_45 n_L74a x_953 x_902 (1 : Int32) g_951 n_954 n_955 n_956 n_957 n_958 n_959 := by
                              refine hF_L74a.trans ?_
                              refine (F_r_readFeels_L74a_s ..).trans ?_
                              refine (if_neg c_863).trans ?_
                              refine (if_pos c_888).trans ?_
                              refine (if_pos c_892).trans ?_
                              try (extract_lets -merge -useContext +onlyGivenNames y9; have e9 : x_896 = y9 := (by first | exact he_x_896 | exact he_x_896.symm); clear_value y9; subst e9)
                              refine (if_neg c_897).trans ?_
                              try (extract_lets -merge -useContext +onlyGivenNames y9; have e9 : x_899 = y9 := (by first | exact he_x_899 | exact he_x_899.symm); clear_value y9; subst e9)
                              refine (if_neg c_900).trans ?_
                              try (extract_lets -merge -useContext +onlyGivenNames y9; have e9 : x_902 = y9 := (by first | exact he_x_902 | exact he_x_902.symm); clear_value y9; subst e9)
                              try (extract_lets -merge -useContext +onlyGivenNames y9; have e9 : x_905 = y9 := (by first | exact he_x_905 | exact he_x_905.symm); clear_value y9; subst e9)
                              try (extract_lets -merge -useContext +onlyGivenNames y9; have e9 : x_906 = y9 := (by first | exact he_x_906 | exact he_x_906.symm); clear_value y9; subst e9)
                              refine (if_pos c_907).trans ?_
                              refine (if_pos c_939).trans ?_
                              try (extract_lets -merge -useContext +onlyGivenNames y9; have e9 : x_944 = y9 := (by first | exact he_x_944 | exact he_x_944.symm); clear_value y9; subst e9)
                              try (extract_lets -merge -useContext +onlyGivenNames y9; have e9 : x_945 = y9 := (by first | exact he_x_945 | exact he_x_945.symm); clear_value y9; subst e9)
                              try (extract_lets -merge -useContext +onlyGivenNames y9; have e9 : x_946 = y9 := (by first | exact he_x_946 | exact he_x_946.symm); clear_value y9; subst e9)
                              try (extract_lets -merge -useContext +onlyGivenNames y9; have e9 : x_947 = y9 := (by first | exact he_x_947 | exact he_x_947.symm); clear_value y9; subst e9)
                              try (extract_lets -merge -useContext +onlyGivenNames y9; have e9 : x_948 = y9 := (by first | exact he_x_948 | exact he_x_948.symm); clear_value y9; subst e9)
                              try (extract_lets -merge -useContext +onlyGivenNames y9; have e9 : x_949 = y9 := (by first | exact he_x_949 | exact he_x_949.symm); clear_value y9; subst e9)
                              try (extract_lets -merge -useContext +onlyGivenNames y9; have e9 : x_950 = y9 := (by first | exact he_x_950 | exact he_x_950.symm); clear_value y9; subst e9)
                              try (extract_lets -merge -useContext +onlyGivenNames y9; have e9 : g_951 = y9 := (by first | exact hg_g_951 | exact hg_g_951.symm); clear_value y9; subst e9)
                              try (extract_lets -merge -useContext +onlyGivenNames y9; have e9 : x_953 = y9 := (by first | exact he_x_953 | exact he_x_953.symm); clear_value y9; subst e9)
                              extract_lets -merge -useContext +onlyGivenNames w9 y21_0 y21_1 y21_2 y21_3 y21_4 y21_5; have e9 : (n_954, n_955, n_956, n_957, n_958, n_959) = w9 := ((z_tS he_n_954 (z_tS he_n_955 (z_tS he_n_956 (z_tS he_n_957 (z_tS he_n_958 he_n_959.symm)))))).symm; clear_value w9; subst e9
                              refine (if_pos c_965).trans ?_
                              exact rfl
                            exact ih_862 x_953 x_902 1 g_951 n_954 n_955 n_956 n_957 n_958 n_959 H locs ls (by omega) (by omega) (by omega) (by decide +kernel) hC_g_951 hr_n_954 hr_n_955 hr_n_956 hr_n_957 hr_n_958 hs_952 (by rw [hq_x_953]; exact zFl_step hi_608 hg_g_951 (by omega) (by omega) (by omega) (r := x_946.toInt) (c := x_949.toInt) (by rw [h_46]; omega) (by omega) (by omega) (by omega) (by omega) (by omega) (by omega) (by omega)) (by omega) (by omega) (by omega) (by omega) (by omega) hX_969 hP hD hS (lv_sub hl [3, 4, 5, 1, 2, 0] rfl)
                        · have b_970 := z_fneF c_939
                          refine lv_aload_n hx hb dX12_readFeels_192 rfl (lv_at hl 1 rfl) ?_
                          refine lv_bipush (v := 9) hx hb dX12_readFeels_193 (by decide) ?_
                          refine lv_aload_n hx hb dX12_readFeels_195 rfl (lv_at hl 1 rfl) ?_
                          refine va_get (D := G) (ci := 12) (v := .int v_372) (C := RX12) (T := TX12) (N := 65) hx hb hts inT12 hown hK hP 4 rfl rfl 15 (by decide) (hts _ tw_1900) (fun _ h9 => h9) rfl dX12_readFeels_196 ?_
                          refine z_callVv (As := [.int 9, .int v_372]) (rest := []) (wr := [(a_hasFeels, .inl (cA.1 3, 3, .inl g_32)), (a_isOn, .inl (cA.1 3, 10, .inl g_isOn)), (a_c, .inl (cA.1 0, 1825, .inl g_370)), (a_words, .inl (cA.1 1, 105, .inr (.inl g_words))), (a_tape, .inl (cA.1 2, 900, .inl g_tape))]) ⟨hx, hb, hml, hown, hts⟩ hK hE hT hP hD hS hA (r_fail l G cA h0 m_status m_thrown m_above m_under a_traySort a_trayMany a_numbers a_tape m_taped m_textEnd m_faultKind m_faultAt n_12 n_13 v_371 v_372 v_373 v_374 v_375 v_376 a_c a_words m_markMany a_there a_tried a_best a_found m_thereMany m_foundMany m_orderHow m_orderRing m_orderMany m_hasBest m_bestTop m_bestBy a_weights a_shared m_random m_truePlace m_trueWay m_seconds m_done m_feelings m_tries m_leftOver m_playDoor m_playRing m_isOpen m_isOver m_wasTried m_hasPlayed a_feltNow a_last a_kept m_hasSeconds m_hasTurned m_hasRound a_hasFeels a_isOn m_firstAct m_meanTop m_meanBy a_order m_rowMany m_newSteps 9 v_372 (by decide +kernel) hr_n_12) lk_RX12_180 ⟨rfl, rfl⟩ ⟨Nat.le_of_ble_eq_true rfl, Nat.le_of_ble_eq_true rfl⟩ 12 rfl rfl rfl [4] [0, 1, 2, 3, 5] rfl rfl (by decide) rfl hl.1 rfl (lv_room (Nat.le_of_ble_eq_true rfl)) dX12_readFeels_199 ⟨Nat.le_of_ble_eq_true rfl, Nat.le_of_ble_eq_true rfl⟩ (fun u_974 H locs hw hP hD hS => ?_)
                          obtain ⟨n_971, n_972⟩ := u_974
                          try dsimp only at hw
                          obtain ⟨he_n_971, he_n_972, hw⟩ := hw
                          obtain ⟨hr_n_971, hf_976⟩ := hw
                          refine lv_aload_n hx hb dX12_readFeels_202 rfl (lv_at hl 1 rfl) ?_
                          refine va_get (D := G) (ci := 12) (v := .int n_971) (C := RX12) (T := TX12) (N := 65) hx hb hts inT12 hown hK hP 5 rfl rfl 12 (by decide) (hts _ tw_1897) (fun _ h9 => h9) rfl dX12_readFeels_203 ?_
                          refine lv_if_le (tgt := 210) hx hb dX12_readFeels_206 (by decide) (fun h9 => (z_no (by have h8 := z_fleT h9; omega))) (fun c_977 => ?_)
                          have b_978 := z_fgtF c_977
                          have hpost : (0 ≤ n_971.toInt ∧ n_971.toInt ≤ 9) ∧ (0 ≤ v_371.toInt ∧ v_371.toInt ≤ 4) ∧ (0 ≤ v_372.toInt ∧ v_372.toInt ≤ 900) ∧ (0 ≤ v_373.toInt ∧ v_373.toInt ≤ 900) ∧ (0 ≤ v_374.toInt ∧ v_374.toInt ≤ 9999) ∧ (0 ≤ v_375.toInt ∧ v_375.toInt ≤ 900) ∧ (zRg 3 0 1 g_32) ∧ (zC g_370) ∧ (zNw g_370 g_isOn) ∧ (m_behind.toInt ≤ v_373.toInt) ∧ (0 < m_bad.toInt → 0 < n_971.toInt) ∧ (n_971.toInt ≤ 0 → v_371.toInt = 0 ∨ m_behind.toInt < v_373.toInt) ∧ (n_971.toInt ≤ 0 → v_371.toInt = 3 → v_374.toInt = 59 → zNf g_370) := ⟨(z_rgw hr_n_971 (by decide) (by decide)), hr_v_371, hr_v_372, hr_v_373, hr_v_374, hr_v_375, hC_g_32, hC_g_370, hs_607, (by omega), (by omega), (by omega), (fun h1 h2 h3 => z_no (by omega))⟩
                          have hX_979 : F_r_readFeels m_textEnd m_bad m_badAt m_behind m_number m_letters m_word g_tape g_c g_words g_hasFeels = ((n_971, n_972, v_371, v_372, v_373, v_374, v_375, v_376, g_32, g_370) : Int32 × Int32 × Int32 × Int32 × Int32 × Int32 × Int32 × Int64 × (Nat → Int32) × (Nat → Int32)) := by
                            refine hF_L74a.trans ?_
                            refine (F_r_readFeels_L74a_s ..).trans ?_
                            refine (if_neg c_863).trans ?_
                            refine (if_pos c_888).trans ?_
                            refine (if_pos c_892).trans ?_
                            try (extract_lets -merge -useContext +onlyGivenNames y9; have e9 : x_896 = y9 := (by first | exact he_x_896 | exact he_x_896.symm); clear_value y9; subst e9)
                            refine (if_neg c_897).trans ?_
                            try (extract_lets -merge -useContext +onlyGivenNames y9; have e9 : x_899 = y9 := (by first | exact he_x_899 | exact he_x_899.symm); clear_value y9; subst e9)
                            refine (if_neg c_900).trans ?_
                            try (extract_lets -merge -useContext +onlyGivenNames y9; have e9 : x_902 = y9 := (by first | exact he_x_902 | exact he_x_902.symm); clear_value y9; subst e9)
                            try (extract_lets -merge -useContext +onlyGivenNames y9; have e9 : x_905 = y9 := (by first | exact he_x_905 | exact he_x_905.symm); clear_value y9; subst e9)
                            try (extract_lets -merge -useContext +onlyGivenNames y9; have e9 : x_906 = y9 := (by first | exact he_x_906 | exact he_x_906.symm); clear_value y9; subst e9)
                            refine (if_pos c_907).trans ?_
                            refine (if_neg c_939).trans ?_
                            extract_lets -merge -useContext +onlyGivenNames w9 y12_0 y12_1; have e9 : (n_971, n_972) = w9 := ((z_tS he_n_971 he_n_972.symm)).symm; clear_value w9; subst e9
                            exact rfl
                          exact hret _ _ _ _ _ (n_971, n_972, v_371, v_372, v_373, v_374, v_375, v_376, g_32, g_370) [5, 4, 2, 3, 0, 1] hP hD hS rfl (by decide) dX12_readFeels_209 ⟨(congrArg (fun z9 => z9.1) hX_979).symm, (congrArg (fun z9 => z9.2.1) hX_979).symm, (congrArg (fun z9 => z9.2.2.1) hX_979).symm, (congrArg (fun z9 => z9.2.2.2.1) hX_979).symm, (congrArg (fun z9 => z9.2.2.2.2.1) hX_979).symm, (congrArg (fun z9 => z9.2.2.2.2.2.1) hX_979).symm, (congrArg (fun z9 => z9.2.2.2.2.2.2.1) hX_979).symm, (congrArg (fun z9 => z9.2.2.2.2.2.2.2.1) hX_979).symm, (congrArg (fun z9 => z9.2.2.2.2.2.2.2.2.1) hX_979).symm, (congrArg (fun z9 => z9.2.2.2.2.2.2.2.2.2) hX_979).symm, hpost⟩
                    · have b_980 := z_feqF c_900
                      refine lv_aload_n hx hb dX12_readFeels_153 rfl (lv_at hl 0 rfl) ?_
                      refine va_get (D := G) (ci := 12) (v := .int v_374) (C := RX12) (T := TX12) (N := 65) hx hb hts inT12 hown hK hP 4 rfl rfl 17 (by decide) (hts _ tw_1902) (fun _ h9 => h9) rfl dX12_readFeels_154 ?_
                      refine lv_goto (tgt := 167) hx hb dX12_readFeels_157 (by decide) ?_
                      refine lv_istore (lv' := [(4, .int v_374), (0, .ref h0), (1, .int r_14), (2, .int x_45), (3, .int v_367), (5, .int v_369)]) hx hb dX12_readFeels_167 hl (by decide) rfl (fun ls hl => ?_)
                      refine lv_aload_n hx hb dX12_readFeels_169 rfl (lv_at hl 1 rfl) ?_
                      refine va_get (D := G) (ci := 12) (v := .int n_12) (C := RX12) (T := TX12) (N := 65) hx hb hts inT12 hown hK hP 4 rfl rfl 12 (by decide) (hts _ tw_1897) (fun _ h9 => h9) rfl dX12_readFeels_170 ?_
                      refine lv_if_ne (tgt := 202) hx hb dX12_readFeels_173 (by decide) (fun h9 => (z_no (by have h8 := z_fneT h9; omega))) (fun c_981 => ?_)
                      have b_982 := z_feqF c_981
                      refine lv_iload_n hx hb dX12_readFeels_176 rfl (lv_at hl 4 rfl) ?_
                      refine lv_iload_n hx hb dX12_readFeels_177 rfl (lv_at hl 3 rfl) ?_
                      refine lv_irem hx hb dX12_readFeels_178 (z_nz (by omega)) ?_
                      refine lv_topi (fun x_983 he_x_983 => ?_)
                      have hq_x_983 := z_remq he_x_983 (rfl : v_367.toInt = _) (by omega : x_45.toInt = 2) (by omega) (by decide)
                      refine lv_iload_n hx hb dX12_readFeels_179 rfl (lv_at hl 3 rfl) ?_
                      refine lv_iconst (v := 1) hx hb dX12_readFeels_180 (by decide) ?_
                      refine lv_isub hx hb dX12_readFeels_181 ?_
                      refine lv_topi (fun x_984 he_x_984 => ?_)
                      have hq_x_984 := z_subq he_x_984 (rfl : x_45.toInt = _) hk_1 (by omega) (by omega)
                      refine lv_icmp_ne (tgt := 202) hx hb dX12_readFeels_182 (by decide) (fun c_985 => ?_) (fun c_985 => ?_)
                      · have b_986 := z_fneT c_985
                        refine lv_aload_n hx hb dX12_readFeels_202 rfl (lv_at hl 1 rfl) ?_
                        refine va_get (D := G) (ci := 12) (v := .int n_12) (C := RX12) (T := TX12) (N := 65) hx hb hts inT12 hown hK hP 4 rfl rfl 12 (by decide) (hts _ tw_1897) (fun _ h9 => h9) rfl dX12_readFeels_203 ?_
                        refine lv_if_le (tgt := 210) hx hb dX12_readFeels_206 (by decide) (fun c_987 => ?_) (fun h9 => (z_no (by have h8 := z_fgtF h9; omega)))
                        have b_988 := z_fleT c_987
                        have hn_k_989 : 0 ≤ v_367.toInt ∧ v_367.toInt ≤ 3 := by omega
                        refine lv_aload_n hx hb dX12_readFeels_210 rfl (lv_at hl 1 rfl) ?_
                        refine va_get (D := G) (ci := 12) (v := .ref a_c) (C := RX12) (T := TX12) (N := 65) hx hb hts inT12 hown hK hP 4 rfl rfl 20 (by decide) (hts _ tw_1905) (fun _ h9 => h9) rfl dX12_readFeels_211 ?_
                        refine lv_sipush (v := 1477) hx hb dX12_readFeels_214 (by decide) ?_
                        refine lv_bipush (v := 16) hx hb dX12_readFeels_217 (by decide) ?_
                        refine lv_iload_n hx hb dX12_readFeels_219 rfl (lv_at hl 2 rfl) ?_
                        refine lv_imul hx hb dX12_readFeels_220 ?_
                        refine lv_topi (fun x_990 he_x_990 => ?_)
                        have hq_x_990 := z_mulq he_x_990 hk_16 (rfl : r_14.toInt = _) (by omega) (by omega)
                        refine lv_iadd hx hb dX12_readFeels_221 ?_
                        refine lv_topi (fun x_991 he_x_991 => ?_)
                        have hq_x_991 := z_addq he_x_991 hk_1477 (rfl : x_990.toInt = _) (by omega) (by omega)
                        refine lv_iconst (v := 4) hx hb dX12_readFeels_222 (by decide) ?_
                        refine lv_iload_n hx hb dX12_readFeels_223 rfl (lv_at hl 4 rfl) ?_
                        refine lv_iload_n hx hb dX12_readFeels_224 rfl (lv_at hl 3 rfl) ?_
                        refine lv_idiv hx hb dX12_readFeels_225 (z_nz (by omega)) ?_
                        refine lv_topi (fun x_992 he_x_992 => ?_)
                        have hq_x_992 := z_divq he_x_992 (rfl : v_367.toInt = _) (by omega : x_45.toInt = 2) (by omega) (by decide)
                        refine lv_imul hx hb dX12_readFeels_226 ?_
                        refine lv_topi (fun x_993 he_x_993 => ?_)
                        have hq_x_993 := z_mulq he_x_993 hk_4 (rfl : x_992.toInt = _) (by omega) (by omega)
                        refine lv_iadd hx hb dX12_readFeels_227 ?_
                        refine lv_topi (fun x_994 he_x_994 => ?_)
                        have hq_x_994 := z_addq he_x_994 (rfl : x_991.toInt = _) (rfl : x_993.toInt = _) (by omega) (by omega)
                        refine lv_iload_n hx hb dX12_readFeels_228 rfl (lv_at hl 4 rfl) ?_
                        refine lv_iload_n hx hb dX12_readFeels_229 rfl (lv_at hl 3 rfl) ?_
                        refine lv_irem hx hb dX12_readFeels_230 (z_nz (by omega)) ?_
                        refine lv_topi (fun x_995 he_x_995 => ?_)
                        have hq_x_995 := z_remq he_x_995 (rfl : v_367.toInt = _) (by omega : x_45.toInt = 2) (by omega) (by decide)
                        refine lv_iadd hx hb dX12_readFeels_231 ?_
                        refine lv_topi (fun x_996 he_x_996 => ?_)
                        have hq_x_996 := z_addq he_x_996 (rfl : x_994.toInt = _) (rfl : x_995.toInt = _) (by omega) (by omega)
                        refine lv_aload_n hx hb dX12_readFeels_232 rfl (lv_at hl 1 rfl) ?_
                        refine va_get (D := G) (ci := 12) (v := .int v_374) (C := RX12) (T := TX12) (N := 65) hx hb hts inT12 hown hK hP 4 rfl rfl 17 (by decide) (hts _ tw_1902) (fun _ h9 => h9) rfl dX12_readFeels_233 ?_
                        refine z_iast hx hb hK hP hD hS 2 0 rfl rfl (z_inN (by omega) (by omega)) dX12_readFeels_236 (fun g_997 hg_g_997 H locs hP hD hS => ?_)
                        have hC_g_997 := z_ctU hC_g_370 hg_g_997 (a := 1477) (b := 1514) (lo := 0) (hi := 16) (by decide +kernel) (by decide +kernel) (by omega) (by omega) (by omega)
                        have hw_g_997_1460 := z_cwo hg_g_997 (k := 1460) (by omega) (by omega)
                        have hs_998 : zNw g_997 g_isOn := (zNw_fr hs_607 hg_g_997 (a := 1477) (b := 1514) (by decide +kernel) (by omega) (by omega))
                        obtain ⟨x_999, he_x_999⟩ : ∃ z : Int32, z = v_367 + 1 := ⟨_, rfl⟩
                        have hq_x_999 := z_addq he_x_999 (rfl : v_367.toInt = _) hk_1 (by omega) (by omega)
                        refine lv_iinc (v := x_999) (lv' := [(3, .int x_999), (4, .int v_374), (0, .ref h0), (1, .int r_14), (2, .int x_45), (5, .int v_369)]) hx hb dX12_readFeels_237 hl (k := 4) rfl ((z_ofi (by decide +kernel)).trans he_x_999.symm) (by decide) rfl (fun ls hl => ?_)
                        refine lv_aload_n hx hb dX12_readFeels_240 rfl (lv_at hl 2 rfl) ?_
                        refine z_callVv (As := []) (rest := []) (wr := [(a_hasFeels, .inl (cA.1 3, 3, .inl g_32)), (a_isOn, .inl (cA.1 3, 10, .inl g_isOn)), (a_c, .inl (cA.1 0, 1825, .inl g_997)), (a_words, .inl (cA.1 1, 105, .inr (.inl g_words)))]) ⟨hx, hb, hml, hown, hts⟩ hK hE hT hP hD hS hA (r_next2 l G cA h0 m_status m_thrown m_above m_under a_traySort a_trayMany a_numbers a_tape m_taped m_textEnd m_faultKind m_faultAt n_12 n_13 v_371 v_372 v_373 v_374 v_375 v_376 a_c a_words m_markMany a_there a_tried a_best a_found m_thereMany m_foundMany m_orderHow m_orderRing m_orderMany m_hasBest m_bestTop m_bestBy a_weights a_shared m_random m_truePlace m_trueWay m_seconds m_done m_feelings m_tries m_leftOver m_playDoor m_playRing m_isOpen m_isOver m_wasTried m_hasPlayed a_feltNow a_last a_kept m_hasSeconds m_hasTurned m_hasRound a_hasFeels a_isOn m_firstAct m_meanTop m_meanBy a_order m_rowMany m_newSteps g_tape hr_m_textEnd hr_v_372 hr_v_373 hr_v_371 hr_v_374 hr_v_375) lk_RX12_184 ⟨rfl, rfl⟩ ⟨Nat.le_of_ble_eq_true rfl, Nat.le_of_ble_eq_true rfl⟩ 12 rfl rfl rfl [4, 5] [0, 1, 2, 3] rfl rfl (by decide) rfl hl.1 rfl (lv_room (Nat.le_of_ble_eq_true rfl)) dX12_readFeels_241 ⟨Nat.le_of_ble_eq_true rfl, Nat.le_of_ble_eq_true rfl⟩ (fun u_1007 H locs hw hP hD hS => ?_)
                        obtain ⟨n_1000, n_1001, n_1002, n_1003, n_1004, n_1005⟩ := u_1007
                        try dsimp only at hw
                        obtain ⟨he_n_1000, he_n_1001, he_n_1002, he_n_1003, he_n_1004, he_n_1005, hw⟩ := hw
                        obtain ⟨hr_n_1000, hr_n_1001, hr_n_1002, hr_n_1003, hr_n_1004, hf_1009, hf_1010⟩ := hw
                        refine lv_aload_n hx hb dX12_readFeels_244 rfl (lv_at hl 2 rfl) ?_
                        refine va_get (D := G) (ci := 12) (v := .int n_1000) (C := RX12) (T := TX12) (N := 65) hx hb hts inT12 hown hK hP 4 rfl rfl 14 (by decide) (hts _ tw_1899) (fun _ h9 => h9) rfl dX12_readFeels_245 ?_
                        refine lv_iconst (v := 2) hx hb dX12_readFeels_248 (by decide) ?_
                        refine lv_icmp_ne (tgt := 256) hx hb dX12_readFeels_249 (by decide) (fun c_1011 => ?_) (fun c_1011 => ?_)
                        · have b_1012 := z_fneT c_1011
                          refine lv_iconst (v := 0) hx hb dX12_readFeels_256 (by decide) ?_
                          refine lv_istore (lv' := [(5, .int 0), (3, .int x_999), (4, .int v_374), (0, .ref h0), (1, .int r_14), (2, .int x_45)]) hx hb dX12_readFeels_257 hl (by decide) rfl (fun ls hl => ?_)
                          refine lv_goto (tgt := 74) hx hb dX12_readFeels_259 (by decide) ?_
                          have hX_1013 : F_r_readFeels m_textEnd m_bad m_badAt m_behind m_number m_letters m_word g_tape g_c g_words g_hasFeels = F_r_readFeels_L74a m_textEnd g_tape r_14 n_12 n_13 g_32 x_45 n_L74a x_999 v_374 (0 : Int32) g_997 n_1000 n_1001 n_1002 n_1003 n_1004 n_1005 := by
                            refine hF_L74a.trans ?_
                            refine (F_r_readFeels_L74a_s ..).trans ?_
                            refine (if_neg c_863).trans ?_
                            refine (if_pos c_888).trans ?_
                            refine (if_pos c_892).trans ?_
                            try (extract_lets -merge -useContext +onlyGivenNames y9; have e9 : x_896 = y9 := (by first | exact he_x_896 | exact he_x_896.symm); clear_value y9; subst e9)
                            refine (if_neg c_897).trans ?_
                            try (extract_lets -merge -useContext +onlyGivenNames y9; have e9 : x_899 = y9 := (by first | exact he_x_899 | exact he_x_899.symm); clear_value y9; subst e9)
                            refine (if_pos c_900).trans ?_
                            try (extract_lets -merge -useContext +onlyGivenNames y9; have e9 : x_983 = y9 := (by first | exact he_x_983 | exact he_x_983.symm); clear_value y9; subst e9)
                            try (extract_lets -merge -useContext +onlyGivenNames y9; have e9 : x_984 = y9 := (by first | exact he_x_984 | exact he_x_984.symm); clear_value y9; subst e9)
                            refine (if_neg c_985).trans ?_
                            try (extract_lets -merge -useContext +onlyGivenNames y9; have e9 : x_990 = y9 := (by first | exact he_x_990 | exact he_x_990.symm); clear_value y9; subst e9)
                            try (extract_lets -merge -useContext +onlyGivenNames y9; have e9 : x_991 = y9 := (by first | exact he_x_991 | exact he_x_991.symm); clear_value y9; subst e9)
                            try (extract_lets -merge -useContext +onlyGivenNames y9; have e9 : x_992 = y9 := (by first | exact he_x_992 | exact he_x_992.symm); clear_value y9; subst e9)
                            try (extract_lets -merge -useContext +onlyGivenNames y9; have e9 : x_993 = y9 := (by first | exact he_x_993 | exact he_x_993.symm); clear_value y9; subst e9)
                            try (extract_lets -merge -useContext +onlyGivenNames y9; have e9 : x_994 = y9 := (by first | exact he_x_994 | exact he_x_994.symm); clear_value y9; subst e9)
                            try (extract_lets -merge -useContext +onlyGivenNames y9; have e9 : x_995 = y9 := (by first | exact he_x_995 | exact he_x_995.symm); clear_value y9; subst e9)
                            try (extract_lets -merge -useContext +onlyGivenNames y9; have e9 : x_996 = y9 := (by first | exact he_x_996 | exact he_x_996.symm); clear_value y9; subst e9)
                            try (extract_lets -merge -useContext +onlyGivenNames y9; have e9 : g_997 = y9 := (by first | exact hg_g_997 | exact hg_g_997.symm); clear_value y9; subst e9)
                            try (extract_lets -merge -useContext +onlyGivenNames y9; have e9 : x_999 = y9 := (by first | exact he_x_999 | exact he_x_999.symm); clear_value y9; subst e9)
                            extract_lets -merge -useContext +onlyGivenNames w9 y19_0 y19_1 y19_2 y19_3 y19_4 y19_5; have e9 : (n_1000, n_1001, n_1002, n_1003, n_1004, n_1005) = w9 := ((z_tS he_n_1000 (z_tS he_n_1001 (z_tS he_n_1002 (z_tS he_n_1003 (z_tS he_n_1004 he_n_1005.symm)))))).symm; clear_value w9; subst e9
                            refine (if_neg c_1011).trans ?_
                            exact rfl
                          exact ih_862 x_999 v_374 0 g_997 n_1000 n_1001 n_1002 n_1003 n_1004 n_1005 H locs ls (by omega) (by omega) (by omega) (by decide +kernel) hC_g_997 hr_n_1000 hr_n_1001 hr_n_1002 hr_n_1003 hr_n_1004 hs_998 (by rw [hq_x_999]; exact zFl_step hi_608 hg_g_997 (by omega) (by omega) (by omega) (r := x_992.toInt) (c := x_995.toInt) (by rw [h_46]; omega) (by omega) (by omega) (by omega) (by omega) (by omega) (by omega) (by omega)) (by omega) (by omega) (by omega) (by omega) (by omega) hX_1013 hP hD hS (lv_sub hl [3, 4, 5, 1, 2, 0] rfl)
                        · have b_1014 := z_feqF c_1011
                          refine lv_iconst (v := 1) hx hb dX12_readFeels_252 (by decide) ?_
                          refine lv_goto (tgt := 257) hx hb dX12_readFeels_253 (by decide) ?_
                          refine lv_istore (lv' := [(5, .int 1), (3, .int x_999), (4, .int v_374), (0, .ref h0), (1, .int r_14), (2, .int x_45)]) hx hb dX12_readFeels_257 hl (by decide) rfl (fun ls hl => ?_)
                          refine lv_goto (tgt := 74) hx hb dX12_readFeels_259 (by decide) ?_
                          have hX_1015 : F_r_readFeels m_textEnd m_bad m_badAt m_behind m_number m_letters m_word g_tape g_c g_words g_hasFeels = F_r_readFeels_L74a m_textEnd g_tape r_14 n_12 n_13 g_32 x_45 n_L74a x_999 v_374 (1 : Int32) g_997 n_1000 n_1001 n_1002 n_1003 n_1004 n_1005 := by
                            refine hF_L74a.trans ?_
                            refine (F_r_readFeels_L74a_s ..).trans ?_
                            refine (if_neg c_863).trans ?_
                            refine (if_pos c_888).trans ?_
                            refine (if_pos c_892).trans ?_
                            try (extract_lets -merge -useContext +onlyGivenNames y9; have e9 : x_896 = y9 := (by first | exact he_x_896 | exact he_x_896.symm); clear_value y9; subst e9)
                            refine (if_neg c_897).trans ?_
                            try (extract_lets -merge -useContext +onlyGivenNames y9; have e9 : x_899 = y9 := (by first | exact he_x_899 | exact he_x_899.symm); clear_value y9; subst e9)
                            refine (if_pos c_900).trans ?_
                            try (extract_lets -merge -useContext +onlyGivenNames y9; have e9 : x_983 = y9 := (by first | exact he_x_983 | exact he_x_983.symm); clear_value y9; subst e9)
                            try (extract_lets -merge -useContext +onlyGivenNames y9; have e9 : x_984 = y9 := (by first | exact he_x_984 | exact he_x_984.symm); clear_value y9; subst e9)
                            refine (if_neg c_985).trans ?_
                            try (extract_lets -merge -useContext +onlyGivenNames y9; have e9 : x_990 = y9 := (by first | exact he_x_990 | exact he_x_990.symm); clear_value y9; subst e9)
                            try (extract_lets -merge -useContext +onlyGivenNames y9; have e9 : x_991 = y9 := (by first | exact he_x_991 | exact he_x_991.symm); clear_value y9; subst e9)
                            try (extract_lets -merge -useContext +onlyGivenNames y9; have e9 : x_992 = y9 := (by first | exact he_x_992 | exact he_x_992.symm); clear_value y9; subst e9)
                            try (extract_lets -merge -useContext +onlyGivenNames y9; have e9 : x_993 = y9 := (by first | exact he_x_993 | exact he_x_993.symm); clear_value y9; subst e9)
                            try (extract_lets -merge -useContext +onlyGivenNames y9; have e9 : x_994 = y9 := (by first | exact he_x_994 | exact he_x_994.symm); clear_value y9; subst e9)
                            try (extract_lets -merge -useContext +onlyGivenNames y9; have e9 : x_995 = y9 := (by first | exact he_x_995 | exact he_x_995.symm); clear_value y9; subst e9)
                            try (extract_lets -merge -useContext +onlyGivenNames y9; have e9 : x_996 = y9 := (by first | exact he_x_996 | exact he_x_996.symm); clear_value y9; subst e9)
                            try (extract_lets -merge -useContext +onlyGivenNames y9; have e9 : g_997 = y9 := (by first | exact hg_g_997 | exact hg_g_997.symm); clear_value y9; subst e9)
                            try (extract_lets -merge -useContext +onlyGivenNames y9; have e9 : x_999 = y9 := (by first | exact he_x_999 | exact he_x_999.symm); clear_value y9; subst e9)
                            extract_lets -merge -useContext +onlyGivenNames w9 y19_0 y19_1 y19_2 y19_3 y19_4 y19_5; have e9 : (n_1000, n_1001, n_1002, n_1003, n_1004, n_1005) = w9 := ((z_tS he_n_1000 (z_tS he_n_1001 (z_tS he_n_1002 (z_tS he_n_1003 (z_tS he_n_1004 he_n_1005.symm)))))).symm; clear_value w9; subst e9
                            refine (if_pos c_1011).trans ?_
                            exact rfl
                          exact ih_862 x_999 v_374 1 g_997 n_1000 n_1001 n_1002 n_1003 n_1004 n_1005 H locs ls (by omega) (by omega) (by omega) (by decide +kernel) hC_g_997 hr_n_1000 hr_n_1001 hr_n_1002 hr_n_1003 hr_n_1004 hs_998 (by rw [hq_x_999]; exact zFl_step hi_608 hg_g_997 (by omega) (by omega) (by omega) (r := x_992.toInt) (c := x_995.toInt) (by rw [h_46]; omega) (by omega) (by omega) (by omega) (by omega) (by omega) (by omega) (by omega)) (by omega) (by omega) (by omega) (by omega) (by omega) hX_1015 hP hD hS (lv_sub hl [3, 4, 5, 1, 2, 0] rfl)
                      · have b_1016 := z_feqF c_985
                        refine lv_iload hx hb dX12_readFeels_185 (lv_at hl 0 rfl) ?_
                        refine lv_bipush (v := 16) hx hb dX12_readFeels_187 (by decide) ?_
                        refine lv_icmp_eq (tgt := 202) hx hb dX12_readFeels_189 (by decide) (fun c_1017 => ?_) (fun c_1017 => ?_)
                        · have b_1018 := z_feqT c_1017
                          refine lv_aload_n hx hb dX12_readFeels_202 rfl (lv_at hl 1 rfl) ?_
                          refine va_get (D := G) (ci := 12) (v := .int n_12) (C := RX12) (T := TX12) (N := 65) hx hb hts inT12 hown hK hP 4 rfl rfl 12 (by decide) (hts _ tw_1897) (fun _ h9 => h9) rfl dX12_readFeels_203 ?_
                          refine lv_if_le (tgt := 210) hx hb dX12_readFeels_206 (by decide) (fun c_1019 => ?_) (fun h9 => (z_no (by have h8 := z_fgtF h9; omega)))
                          have b_1020 := z_fleT c_1019
                          have hn_k_1021 : 0 ≤ v_367.toInt ∧ v_367.toInt ≤ 3 := by omega
                          refine lv_aload_n hx hb dX12_readFeels_210 rfl (lv_at hl 1 rfl) ?_
                          refine va_get (D := G) (ci := 12) (v := .ref a_c) (C := RX12) (T := TX12) (N := 65) hx hb hts inT12 hown hK hP 4 rfl rfl 20 (by decide) (hts _ tw_1905) (fun _ h9 => h9) rfl dX12_readFeels_211 ?_
                          refine lv_sipush (v := 1477) hx hb dX12_readFeels_214 (by decide) ?_
                          refine lv_bipush (v := 16) hx hb dX12_readFeels_217 (by decide) ?_
                          refine lv_iload_n hx hb dX12_readFeels_219 rfl (lv_at hl 2 rfl) ?_
                          refine lv_imul hx hb dX12_readFeels_220 ?_
                          refine lv_topi (fun x_1022 he_x_1022 => ?_)
                          have hq_x_1022 := z_mulq he_x_1022 hk_16 (rfl : r_14.toInt = _) (by omega) (by omega)
                          refine lv_iadd hx hb dX12_readFeels_221 ?_
                          refine lv_topi (fun x_1023 he_x_1023 => ?_)
                          have hq_x_1023 := z_addq he_x_1023 hk_1477 (rfl : x_1022.toInt = _) (by omega) (by omega)
                          refine lv_iconst (v := 4) hx hb dX12_readFeels_222 (by decide) ?_
                          refine lv_iload_n hx hb dX12_readFeels_223 rfl (lv_at hl 4 rfl) ?_
                          refine lv_iload_n hx hb dX12_readFeels_224 rfl (lv_at hl 3 rfl) ?_
                          refine lv_idiv hx hb dX12_readFeels_225 (z_nz (by omega)) ?_
                          refine lv_topi (fun x_1024 he_x_1024 => ?_)
                          have hq_x_1024 := z_divq he_x_1024 (rfl : v_367.toInt = _) (by omega : x_45.toInt = 2) (by omega) (by decide)
                          refine lv_imul hx hb dX12_readFeels_226 ?_
                          refine lv_topi (fun x_1025 he_x_1025 => ?_)
                          have hq_x_1025 := z_mulq he_x_1025 hk_4 (rfl : x_1024.toInt = _) (by omega) (by omega)
                          refine lv_iadd hx hb dX12_readFeels_227 ?_
                          refine lv_topi (fun x_1026 he_x_1026 => ?_)
                          have hq_x_1026 := z_addq he_x_1026 (rfl : x_1023.toInt = _) (rfl : x_1025.toInt = _) (by omega) (by omega)
                          refine lv_iload_n hx hb dX12_readFeels_228 rfl (lv_at hl 4 rfl) ?_
                          refine lv_iload_n hx hb dX12_readFeels_229 rfl (lv_at hl 3 rfl) ?_
                          refine lv_irem hx hb dX12_readFeels_230 (z_nz (by omega)) ?_
                          refine lv_topi (fun x_1027 he_x_1027 => ?_)
                          have hq_x_1027 := z_remq he_x_1027 (rfl : v_367.toInt = _) (by omega : x_45.toInt = 2) (by omega) (by decide)
                          refine lv_iadd hx hb dX12_readFeels_231 ?_
                          refine lv_topi (fun x_1028 he_x_1028 => ?_)
                          have hq_x_1028 := z_addq he_x_1028 (rfl : x_1026.toInt = _) (rfl : x_1027.toInt = _) (by omega) (by omega)
                          refine lv_aload_n hx hb dX12_readFeels_232 rfl (lv_at hl 1 rfl) ?_
                          refine va_get (D := G) (ci := 12) (v := .int v_374) (C := RX12) (T := TX12) (N := 65) hx hb hts inT12 hown hK hP 4 rfl rfl 17 (by decide) (hts _ tw_1902) (fun _ h9 => h9) rfl dX12_readFeels_233 ?_
                          refine z_iast hx hb hK hP hD hS 2 0 rfl rfl (z_inN (by omega) (by omega)) dX12_readFeels_236 (fun g_1029 hg_g_1029 H locs hP hD hS => ?_)
                          have hC_g_1029 := z_ctU hC_g_370 hg_g_1029 (a := 1477) (b := 1514) (lo := 0) (hi := 16) (by decide +kernel) (by decide +kernel) (by omega) (by omega) (by omega)
                          have hw_g_1029_1460 := z_cwo hg_g_1029 (k := 1460) (by omega) (by omega)
                          have hs_1030 : zNw g_1029 g_isOn := (zNw_fr hs_607 hg_g_1029 (a := 1477) (b := 1514) (by decide +kernel) (by omega) (by omega))
                          obtain ⟨x_1031, he_x_1031⟩ : ∃ z : Int32, z = v_367 + 1 := ⟨_, rfl⟩
                          have hq_x_1031 := z_addq he_x_1031 (rfl : v_367.toInt = _) hk_1 (by omega) (by omega)
                          refine lv_iinc (v := x_1031) (lv' := [(3, .int x_1031), (4, .int v_374), (0, .ref h0), (1, .int r_14), (2, .int x_45), (5, .int v_369)]) hx hb dX12_readFeels_237 hl (k := 4) rfl ((z_ofi (by decide +kernel)).trans he_x_1031.symm) (by decide) rfl (fun ls hl => ?_)
                          refine lv_aload_n hx hb dX12_readFeels_240 rfl (lv_at hl 2 rfl) ?_
                          refine z_callVv (As := []) (rest := []) (wr := [(a_hasFeels, .inl (cA.1 3, 3, .inl g_32)), (a_isOn, .inl (cA.1 3, 10, .inl g_isOn)), (a_c, .inl (cA.1 0, 1825, .inl g_1029)), (a_words, .inl (cA.1 1, 105, .inr (.inl g_words)))]) ⟨hx, hb, hml, hown, hts⟩ hK hE hT hP hD hS hA (r_next2 l G cA h0 m_status m_thrown m_above m_under a_traySort a_trayMany a_numbers a_tape m_taped m_textEnd m_faultKind m_faultAt n_12 n_13 v_371 v_372 v_373 v_374 v_375 v_376 a_c a_words m_markMany a_there a_tried a_best a_found m_thereMany m_foundMany m_orderHow m_orderRing m_orderMany m_hasBest m_bestTop m_bestBy a_weights a_shared m_random m_truePlace m_trueWay m_seconds m_done m_feelings m_tries m_leftOver m_playDoor m_playRing m_isOpen m_isOver m_wasTried m_hasPlayed a_feltNow a_last a_kept m_hasSeconds m_hasTurned m_hasRound a_hasFeels a_isOn m_firstAct m_meanTop m_meanBy a_order m_rowMany m_newSteps g_tape hr_m_textEnd hr_v_372 hr_v_373 hr_v_371 hr_v_374 hr_v_375) lk_RX12_184 ⟨rfl, rfl⟩ ⟨Nat.le_of_ble_eq_true rfl, Nat.le_of_ble_eq_true rfl⟩ 12 rfl rfl rfl [4, 5] [0, 1, 2, 3] rfl rfl (by decide) rfl hl.1 rfl (lv_room (Nat.le_of_ble_eq_true rfl)) dX12_readFeels_241 ⟨Nat.le_of_ble_eq_true rfl, Nat.le_of_ble_eq_true rfl⟩ (fun u_1039 H locs hw hP hD hS => ?_)
                          obtain ⟨n_1032, n_1033, n_1034, n_1035, n_1036, n_1037⟩ := u_1039
                          try dsimp only at hw
                          obtain ⟨he_n_1032, he_n_1033, he_n_1034, he_n_1035, he_n_1036, he_n_1037, hw⟩ := hw
                          obtain ⟨hr_n_1032, hr_n_1033, hr_n_1034, hr_n_1035, hr_n_1036, hf_1041, hf_1042⟩ := hw
                          refine lv_aload_n hx hb dX12_readFeels_244 rfl (lv_at hl 2 rfl) ?_
                          refine va_get (D := G) (ci := 12) (v := .int n_1032) (C := RX12) (T := TX12) (N := 65) hx hb hts inT12 hown hK hP 4 rfl rfl 14 (by decide) (hts _ tw_1899) (fun _ h9 => h9) rfl dX12_readFeels_245 ?_
                          refine lv_iconst (v := 2) hx hb dX12_readFeels_248 (by decide) ?_
                          refine lv_icmp_ne (tgt := 256) hx hb dX12_readFeels_249 (by decide) (fun c_1043 => ?_) (fun c_1043 => ?_)
                          · have b_1044 := z_fneT c_1043
                            refine lv_iconst (v := 0) hx hb dX12_readFeels_256 (by decide) ?_
                            refine lv_istore (lv' := [(5, .int 0), (3, .int x_1031), (4, .int v_374), (0, .ref h0), (1, .int r_14), (2, .int x_45)]) hx hb dX12_readFeels_257 hl (by decide) rfl (fun ls hl => ?_)
                            refine lv_goto (tgt := 74) hx hb dX12_readFeels_259 (by decide) ?_
                            have hX_1045 : F_r_readFeels m_textEnd m_bad m_badAt m_behind m_number m_letters m_word g_tape g_c g_words g_hasFeels = F_r_readFeels_L74a m_textEnd g_tape r_14 n_12 n_13 g_32 x_45 n_L74a x_1031 v_374 (0 : Int32) g_1029 n_1032 n_1033 n_1034 n_1035 n_1036 n_1037 := by
                              refine hF_L74a.trans ?_
                              refine (F_r_readFeels_L74a_s ..).trans ?_
                              refine (if_neg c_863).trans ?_
                              refine (if_pos c_888).trans ?_
                              refine (if_pos c_892).trans ?_
                              try (extract_lets -merge -useContext +onlyGivenNames y9; have e9 : x_896 = y9 := (by first | exact he_x_896 | exact he_x_896.symm); clear_value y9; subst e9)
                              refine (if_neg c_897).trans ?_
                              try (extract_lets -merge -useContext +onlyGivenNames y9; have e9 : x_899 = y9 := (by first | exact he_x_899 | exact he_x_899.symm); clear_value y9; subst e9)
                              refine (if_pos c_900).trans ?_
                              try (extract_lets -merge -useContext +onlyGivenNames y9; have e9 : x_983 = y9 := (by first | exact he_x_983 | exact he_x_983.symm); clear_value y9; subst e9)
                              try (extract_lets -merge -useContext +onlyGivenNames y9; have e9 : x_984 = y9 := (by first | exact he_x_984 | exact he_x_984.symm); clear_value y9; subst e9)
                              refine (if_pos c_985).trans ?_
                              refine (if_pos c_1017).trans ?_
                              try (extract_lets -merge -useContext +onlyGivenNames y9; have e9 : x_1022 = y9 := (by first | exact he_x_1022 | exact he_x_1022.symm); clear_value y9; subst e9)
                              try (extract_lets -merge -useContext +onlyGivenNames y9; have e9 : x_1023 = y9 := (by first | exact he_x_1023 | exact he_x_1023.symm); clear_value y9; subst e9)
                              try (extract_lets -merge -useContext +onlyGivenNames y9; have e9 : x_1024 = y9 := (by first | exact he_x_1024 | exact he_x_1024.symm); clear_value y9; subst e9)
                              try (extract_lets -merge -useContext +onlyGivenNames y9; have e9 : x_1025 = y9 := (by first | exact he_x_1025 | exact he_x_1025.symm); clear_value y9; subst e9)
                              try (extract_lets -merge -useContext +onlyGivenNames y9; have e9 : x_1026 = y9 := (by first | exact he_x_1026 | exact he_x_1026.symm); clear_value y9; subst e9)
                              try (extract_lets -merge -useContext +onlyGivenNames y9; have e9 : x_1027 = y9 := (by first | exact he_x_1027 | exact he_x_1027.symm); clear_value y9; subst e9)
                              try (extract_lets -merge -useContext +onlyGivenNames y9; have e9 : x_1028 = y9 := (by first | exact he_x_1028 | exact he_x_1028.symm); clear_value y9; subst e9)
                              try (extract_lets -merge -useContext +onlyGivenNames y9; have e9 : g_1029 = y9 := (by first | exact hg_g_1029 | exact hg_g_1029.symm); clear_value y9; subst e9)
                              try (extract_lets -merge -useContext +onlyGivenNames y9; have e9 : x_1031 = y9 := (by first | exact he_x_1031 | exact he_x_1031.symm); clear_value y9; subst e9)
                              extract_lets -merge -useContext +onlyGivenNames w9 y20_0 y20_1 y20_2 y20_3 y20_4 y20_5; have e9 : (n_1032, n_1033, n_1034, n_1035, n_1036, n_1037) = w9 := ((z_tS he_n_1032 (z_tS he_n_1033 (z_tS he_n_1034 (z_tS he_n_1035 (z_tS he_n_1036 he_n_1037.symm)))))).symm; clear_value w9; subst e9
                              refine (if_neg c_1043).trans ?_
                              exact rfl
                            exact ih_862 x_1031 v_374 0 g_1029 n_1032 n_1033 n_1034 n_1035 n_1036 n_1037 H locs ls (by omega) (by omega) (by omega) (by decide +kernel) hC_g_1029 hr_n_1032 hr_n_1033 hr_n_1034 hr_n_1035 hr_n_1036 hs_1030 (by rw [hq_x_1031]; exact zFl_step hi_608 hg_g_1029 (by omega) (by omega) (by omega) (r := x_1024.toInt) (c := x_1027.toInt) (by rw [h_46]; omega) (by omega) (by omega) (by omega) (by omega) (by omega) (by omega) (by omega)) (by omega) (by omega) (by omega) (by omega) (by omega) hX_1045 hP hD hS (lv_sub hl [3, 4, 5, 1, 2, 0] rfl)
                          · have b_1046 := z_feqF c_1043
                            refine lv_iconst (v := 1) hx hb dX12_readFeels_252 (by decide) ?_
                            refine lv_goto (tgt := 257) hx hb dX12_readFeels_253 (by decide) ?_
                            refine lv_istore (lv' := [(5, .int 1), (3, .int x_1031), (4, .int v_374), (0, .ref h0), (1, .int r_14), (2, .int x_45)]) hx hb dX12_readFeels_257 hl (by decide) rfl (fun ls hl => ?_)
                            refine lv_goto (tgt := 74) hx hb dX12_readFeels_259 (by decide) ?_
                            have hX_1047 : F_r_readFeels m_textEnd m_bad m_badAt m_behind m_number m_letters m_word g_tape g_c g_words g_hasFeels = F_r_readFeels_L74a m_textEnd g_tape r_14 n_12 n_13 g_32 x_45 n_L74a x_1031 v_374 (1 : Int32) g_1029 n_1032 n_1033 n_1034 n_1035 n_1036 n_1037 := by
                              refine hF_L74a.trans ?_
                              refine (F_r_readFeels_L74a_s ..).trans ?_
                              refine (if_neg c_863).trans ?_
                              refine (if_pos c_888).trans ?_
                              refine (if_pos c_892).trans ?_
                              try (extract_lets -merge -useContext +onlyGivenNames y9; have e9 : x_896 = y9 := (by first | exact he_x_896 | exact he_x_896.symm); clear_value y9; subst e9)
                              refine (if_neg c_897).trans ?_
                              try (extract_lets -merge -useContext +onlyGivenNames y9; have e9 : x_899 = y9 := (by first | exact he_x_899 | exact he_x_899.symm); clear_value y9; subst e9)
                              refine (if_pos c_900).trans ?_
                              try (extract_lets -merge -useContext +onlyGivenNames y9; have e9 : x_983 = y9 := (by first | exact he_x_983 | exact he_x_983.symm); clear_value y9; subst e9)
                              try (extract_lets -merge -useContext +onlyGivenNames y9; have e9 : x_984 = y9 := (by first | exact he_x_984 | exact he_x_984.symm); clear_value y9; subst e9)
                              refine (if_pos c_985).trans ?_
                              refine (if_pos c_1017).trans ?_
                              try (extract_lets -merge -useContext +onlyGivenNames y9; have e9 : x_1022 = y9 := (by first | exact he_x_1022 | exact he_x_1022.symm); clear_value y9; subst e9)
                              try (extract_lets -merge -useContext +onlyGivenNames y9; have e9 : x_1023 = y9 := (by first | exact he_x_1023 | exact he_x_1023.symm); clear_value y9; subst e9)
                              try (extract_lets -merge -useContext +onlyGivenNames y9; have e9 : x_1024 = y9 := (by first | exact he_x_1024 | exact he_x_1024.symm); clear_value y9; subst e9)
                              try (extract_lets -merge -useContext +onlyGivenNames y9; have e9 : x_1025 = y9 := (by first | exact he_x_1025 | exact he_x_1025.symm); clear_value y9; subst e9)
                              try (extract_lets -merge -useContext +onlyGivenNames y9; have e9 : x_1026 = y9 := (by first | exact he_x_1026 | exact he_x_1026.symm); clear_value y9; subst e9)
                              try (extract_lets -merge -useContext +onlyGivenNames y9; have e9 : x_1027 = y9 := (by first | exact he_x_1027 | exact he_x_1027.symm); clear_value y9; subst e9)
                              try (extract_lets -merge -useContext +onlyGivenNames y9; have e9 : x_1028 = y9 := (by first | exact he_x_1028 | exact he_x_1028.symm); clear_value y9; subst e9)
                              try (extract_lets -merge -useContext +onlyGivenNames y9; have e9 : g_1029 = y9 := (by first | exact hg_g_1029 | exact hg_g_1029.symm); clear_value y9; subst e9)
                              try (extract_lets -merge -useContext +onlyGivenNames y9; have e9 : x_1031 = y9 := (by first | exact he_x_1031 | exact he_x_1031.symm); clear_value y9; subst e9)
                              extract_lets -merge -useContext +onlyGivenNames w9 y20_0 y20_1 y20_2 y20_3 y20_4 y20_5; have e9 : (n_1032, n_1033, n_1034, n_1035, n_1036, n_1037) = w9 := ((z_tS he_n_1032 (z_tS he_n_1033 (z_tS he_n_1034 (z_tS he_n_1035 (z_tS he_n_1036 he_n_1037.symm)))))).symm; clear_value w9; subst e9
                              refine (if_pos c_1043).trans ?_
                              exact rfl
                            exact ih_862 x_1031 v_374 1 g_1029 n_1032 n_1033 n_1034 n_1035 n_1036 n_1037 H locs ls (by omega) (by omega) (by omega) (by decide +kernel) hC_g_1029 hr_n_1032 hr_n_1033 hr_n_1034 hr_n_1035 hr_n_1036 hs_1030 (by rw [hq_x_1031]; exact zFl_step hi_608 hg_g_1029 (by omega) (by omega) (by omega) (r := x_1024.toInt) (c := x_1027.toInt) (by rw [h_46]; omega) (by omega) (by omega) (by omega) (by omega) (by omega) (by omega) (by omega)) (by omega) (by omega) (by omega) (by omega) (by omega) hX_1047 hP hD hS (lv_sub hl [3, 4, 5, 1, 2, 0] rfl)
                        · have b_1048 := z_fneF c_1017
                          refine lv_aload_n hx hb dX12_readFeels_192 rfl (lv_at hl 1 rfl) ?_
                          refine lv_bipush (v := 9) hx hb dX12_readFeels_193 (by decide) ?_
                          refine lv_aload_n hx hb dX12_readFeels_195 rfl (lv_at hl 1 rfl) ?_
                          refine va_get (D := G) (ci := 12) (v := .int v_372) (C := RX12) (T := TX12) (N := 65) hx hb hts inT12 hown hK hP 4 rfl rfl 15 (by decide) (hts _ tw_1900) (fun _ h9 => h9) rfl dX12_readFeels_196 ?_
                          refine z_callVv (As := [.int 9, .int v_372]) (rest := []) (wr := [(a_hasFeels, .inl (cA.1 3, 3, .inl g_32)), (a_isOn, .inl (cA.1 3, 10, .inl g_isOn)), (a_c, .inl (cA.1 0, 1825, .inl g_370)), (a_words, .inl (cA.1 1, 105, .inr (.inl g_words))), (a_tape, .inl (cA.1 2, 900, .inl g_tape))]) ⟨hx, hb, hml, hown, hts⟩ hK hE hT hP hD hS hA (r_fail l G cA h0 m_status m_thrown m_above m_under a_traySort a_trayMany a_numbers a_tape m_taped m_textEnd m_faultKind m_faultAt n_12 n_13 v_371 v_372 v_373 v_374 v_375 v_376 a_c a_words m_markMany a_there a_tried a_best a_found m_thereMany m_foundMany m_orderHow m_orderRing m_orderMany m_hasBest m_bestTop m_bestBy a_weights a_shared m_random m_truePlace m_trueWay m_seconds m_done m_feelings m_tries m_leftOver m_playDoor m_playRing m_isOpen m_isOver m_wasTried m_hasPlayed a_feltNow a_last a_kept m_hasSeconds m_hasTurned m_hasRound a_hasFeels a_isOn m_firstAct m_meanTop m_meanBy a_order m_rowMany m_newSteps 9 v_372 (by decide +kernel) hr_n_12) lk_RX12_180 ⟨rfl, rfl⟩ ⟨Nat.le_of_ble_eq_true rfl, Nat.le_of_ble_eq_true rfl⟩ 12 rfl rfl rfl [4] [0, 1, 2, 3, 5] rfl rfl (by decide) rfl hl.1 rfl (lv_room (Nat.le_of_ble_eq_true rfl)) dX12_readFeels_199 ⟨Nat.le_of_ble_eq_true rfl, Nat.le_of_ble_eq_true rfl⟩ (fun u_1052 H locs hw hP hD hS => ?_)
                          obtain ⟨n_1049, n_1050⟩ := u_1052
                          try dsimp only at hw
                          obtain ⟨he_n_1049, he_n_1050, hw⟩ := hw
                          obtain ⟨hr_n_1049, hf_1054⟩ := hw
                          refine lv_aload_n hx hb dX12_readFeels_202 rfl (lv_at hl 1 rfl) ?_
                          refine va_get (D := G) (ci := 12) (v := .int n_1049) (C := RX12) (T := TX12) (N := 65) hx hb hts inT12 hown hK hP 5 rfl rfl 12 (by decide) (hts _ tw_1897) (fun _ h9 => h9) rfl dX12_readFeels_203 ?_
                          refine lv_if_le (tgt := 210) hx hb dX12_readFeels_206 (by decide) (fun h9 => (z_no (by have h8 := z_fleT h9; omega))) (fun c_1055 => ?_)
                          have b_1056 := z_fgtF c_1055
                          have hpost : (0 ≤ n_1049.toInt ∧ n_1049.toInt ≤ 9) ∧ (0 ≤ v_371.toInt ∧ v_371.toInt ≤ 4) ∧ (0 ≤ v_372.toInt ∧ v_372.toInt ≤ 900) ∧ (0 ≤ v_373.toInt ∧ v_373.toInt ≤ 900) ∧ (0 ≤ v_374.toInt ∧ v_374.toInt ≤ 9999) ∧ (0 ≤ v_375.toInt ∧ v_375.toInt ≤ 900) ∧ (zRg 3 0 1 g_32) ∧ (zC g_370) ∧ (zNw g_370 g_isOn) ∧ (m_behind.toInt ≤ v_373.toInt) ∧ (0 < m_bad.toInt → 0 < n_1049.toInt) ∧ (n_1049.toInt ≤ 0 → v_371.toInt = 0 ∨ m_behind.toInt < v_373.toInt) ∧ (n_1049.toInt ≤ 0 → v_371.toInt = 3 → v_374.toInt = 59 → zNf g_370) := ⟨(z_rgw hr_n_1049 (by decide) (by decide)), hr_v_371, hr_v_372, hr_v_373, hr_v_374, hr_v_375, hC_g_32, hC_g_370, hs_607, (by omega), (by omega), (by omega), (fun h1 h2 h3 => z_no (by omega))⟩
                          have hX_1057 : F_r_readFeels m_textEnd m_bad m_badAt m_behind m_number m_letters m_word g_tape g_c g_words g_hasFeels = ((n_1049, n_1050, v_371, v_372, v_373, v_374, v_375, v_376, g_32, g_370) : Int32 × Int32 × Int32 × Int32 × Int32 × Int32 × Int32 × Int64 × (Nat → Int32) × (Nat → Int32)) := by
                            refine hF_L74a.trans ?_
                            refine (F_r_readFeels_L74a_s ..).trans ?_
                            refine (if_neg c_863).trans ?_
                            refine (if_pos c_888).trans ?_
                            refine (if_pos c_892).trans ?_
                            try (extract_lets -merge -useContext +onlyGivenNames y9; have e9 : x_896 = y9 := (by first | exact he_x_896 | exact he_x_896.symm); clear_value y9; subst e9)
                            refine (if_neg c_897).trans ?_
                            try (extract_lets -merge -useContext +onlyGivenNames y9; have e9 : x_899 = y9 := (by first | exact he_x_899 | exact he_x_899.symm); clear_value y9; subst e9)
                            refine (if_pos c_900).trans ?_
                            try (extract_lets -merge -useContext +onlyGivenNames y9; have e9 : x_983 = y9 := (by first | exact he_x_983 | exact he_x_983.symm); clear_value y9; subst e9)
                            try (extract_lets -merge -useContext +onlyGivenNames y9; have e9 : x_984 = y9 := (by first | exact he_x_984 | exact he_x_984.symm); clear_value y9; subst e9)
                            refine (if_pos c_985).trans ?_
                            refine (if_neg c_1017).trans ?_
                            extract_lets -merge -useContext +onlyGivenNames w9 y11_0 y11_1; have e9 : (n_1049, n_1050) = w9 := ((z_tS he_n_1049 he_n_1050.symm)).symm; clear_value w9; subst e9
                            exact rfl
                          exact hret _ _ _ _ _ (n_1049, n_1050, v_371, v_372, v_373, v_374, v_375, v_376, g_32, g_370) [5, 4, 2, 3, 0, 1] hP hD hS rfl (by decide) dX12_readFeels_209 ⟨(congrArg (fun z9 => z9.1) hX_1057).symm, (congrArg (fun z9 => z9.2.1) hX_1057).symm, (congrArg (fun z9 => z9.2.2.1) hX_1057).symm, (congrArg (fun z9 => z9.2.2.2.1) hX_1057).symm, (congrArg (fun z9 => z9.2.2.2.2.1) hX_1057).symm, (congrArg (fun z9 => z9.2.2.2.2.2.1) hX_1057).symm, (congrArg (fun z9 => z9.2.2.2.2.2.2.1) hX_1057).symm, (congrArg (fun z9 => z9.2.2.2.2.2.2.2.1) hX_1057).symm, (congrArg (fun z9 => z9.2.2.2.2.2.2.2.2.1) hX_1057).symm, (congrArg (fun z9 => z9.2.2.2.2.2.2.2.2.2) hX_1057).symm, hpost⟩
                  · have b_1058 := z_feqF c_897
                    refine lv_aload_n hx hb dX12_readFeels_137 rfl (lv_at hl 0 rfl) ?_
                    refine lv_bipush (v := 8) hx hb dX12_readFeels_138 (by decide) ?_
                    refine lv_aload_n hx hb dX12_readFeels_140 rfl (lv_at hl 0 rfl) ?_
                    refine va_get (D := G) (ci := 12) (v := .int v_372) (C := RX12) (T := TX12) (N := 65) hx hb hts inT12 hown hK hP 4 rfl rfl 15 (by decide) (hts _ tw_1900) (fun _ h9 => h9) rfl dX12_readFeels_141 ?_
                    refine z_callVv (As := [.int 8, .int v_372]) (rest := []) (wr := [(a_hasFeels, .inl (cA.1 3, 3, .inl g_32)), (a_isOn, .inl (cA.1 3, 10, .inl g_isOn)), (a_c, .inl (cA.1 0, 1825, .inl g_370)), (a_words, .inl (cA.1 1, 105, .inr (.inl g_words))), (a_tape, .inl (cA.1 2, 900, .inl g_tape))]) ⟨hx, hb, hml, hown, hts⟩ hK hE hT hP hD hS hA (r_fail l G cA h0 m_status m_thrown m_above m_under a_traySort a_trayMany a_numbers a_tape m_taped m_textEnd m_faultKind m_faultAt n_12 n_13 v_371 v_372 v_373 v_374 v_375 v_376 a_c a_words m_markMany a_there a_tried a_best a_found m_thereMany m_foundMany m_orderHow m_orderRing m_orderMany m_hasBest m_bestTop m_bestBy a_weights a_shared m_random m_truePlace m_trueWay m_seconds m_done m_feelings m_tries m_leftOver m_playDoor m_playRing m_isOpen m_isOver m_wasTried m_hasPlayed a_feltNow a_last a_kept m_hasSeconds m_hasTurned m_hasRound a_hasFeels a_isOn m_firstAct m_meanTop m_meanBy a_order m_rowMany m_newSteps 8 v_372 (by decide +kernel) hr_n_12) lk_RX12_180 ⟨rfl, rfl⟩ ⟨Nat.le_of_ble_eq_true rfl, Nat.le_of_ble_eq_true rfl⟩ 12 rfl rfl rfl [4] [0, 1, 2, 3, 5] rfl rfl (by decide) rfl hl.1 rfl (lv_room (Nat.le_of_ble_eq_true rfl)) dX12_readFeels_144 ⟨Nat.le_of_ble_eq_true rfl, Nat.le_of_ble_eq_true rfl⟩ (fun u_1062 H locs hw hP hD hS => ?_)
                    obtain ⟨n_1059, n_1060⟩ := u_1062
                    try dsimp only at hw
                    obtain ⟨he_n_1059, he_n_1060, hw⟩ := hw
                    obtain ⟨hr_n_1059, hf_1064⟩ := hw
                    refine lv_iload_n hx hb dX12_readFeels_147 rfl (lv_at hl 3 rfl) ?_
                    refine lv_iload_n hx hb dX12_readFeels_148 rfl (lv_at hl 2 rfl) ?_
                    refine lv_irem hx hb dX12_readFeels_149 (z_nz (by omega)) ?_
                    refine lv_topi (fun x_1065 he_x_1065 => ?_)
                    have hq_x_1065 := z_remq he_x_1065 (rfl : v_367.toInt = _) (by omega : x_45.toInt = 2) (by omega) (by decide)
                    refine lv_if_ne (tgt := 160) hx hb dX12_readFeels_150 (by decide) (fun c_1066 => ?_) (fun c_1066 => ?_)
                    · have b_1067 := z_fneT c_1066
                      refine lv_iload hx hb dX12_readFeels_160 (lv_at hl 4 rfl) ?_
                      refine lv_aload_n hx hb dX12_readFeels_162 rfl (lv_at hl 0 rfl) ?_
                      refine va_get (D := G) (ci := 12) (v := .int v_374) (C := RX12) (T := TX12) (N := 65) hx hb hts inT12 hown hK hP 5 rfl rfl 17 (by decide) (hts _ tw_1902) (fun _ h9 => h9) rfl dX12_readFeels_163 ?_
                      refine lv_iadd hx hb dX12_readFeels_166 ?_
                      refine lv_topi (fun x_1068 he_x_1068 => ?_)
                      have hq_x_1068 := z_addq he_x_1068 (rfl : v_368.toInt = _) (rfl : v_374.toInt = _) (by omega) (by omega)
                      refine lv_istore (lv' := [(4, .int x_1068), (0, .ref h0), (1, .int r_14), (2, .int x_45), (3, .int v_367), (5, .int v_369)]) hx hb dX12_readFeels_167 hl (by decide) rfl (fun ls hl => ?_)
                      refine lv_aload_n hx hb dX12_readFeels_169 rfl (lv_at hl 1 rfl) ?_
                      refine va_get (D := G) (ci := 12) (v := .int n_1059) (C := RX12) (T := TX12) (N := 65) hx hb hts inT12 hown hK hP 5 rfl rfl 12 (by decide) (hts _ tw_1897) (fun _ h9 => h9) rfl dX12_readFeels_170 ?_
                      refine lv_if_ne (tgt := 202) hx hb dX12_readFeels_173 (by decide) (fun c_1069 => ?_) (fun h9 => (z_no (by have h8 := z_feqF h9; omega)))
                      have b_1070 := z_fneT c_1069
                      refine lv_aload_n hx hb dX12_readFeels_202 rfl (lv_at hl 1 rfl) ?_
                      refine va_get (D := G) (ci := 12) (v := .int n_1059) (C := RX12) (T := TX12) (N := 65) hx hb hts inT12 hown hK hP 5 rfl rfl 12 (by decide) (hts _ tw_1897) (fun _ h9 => h9) rfl dX12_readFeels_203 ?_
                      refine lv_if_le (tgt := 210) hx hb dX12_readFeels_206 (by decide) (fun h9 => (z_no (by have h8 := z_fleT h9; omega))) (fun c_1071 => ?_)
                      have b_1072 := z_fgtF c_1071
                      have hpost : (0 ≤ n_1059.toInt ∧ n_1059.toInt ≤ 9) ∧ (0 ≤ v_371.toInt ∧ v_371.toInt ≤ 4) ∧ (0 ≤ v_372.toInt ∧ v_372.toInt ≤ 900) ∧ (0 ≤ v_373.toInt ∧ v_373.toInt ≤ 900) ∧ (0 ≤ v_374.toInt ∧ v_374.toInt ≤ 9999) ∧ (0 ≤ v_375.toInt ∧ v_375.toInt ≤ 900) ∧ (zRg 3 0 1 g_32) ∧ (zC g_370) ∧ (zNw g_370 g_isOn) ∧ (m_behind.toInt ≤ v_373.toInt) ∧ (0 < m_bad.toInt → 0 < n_1059.toInt) ∧ (n_1059.toInt ≤ 0 → v_371.toInt = 0 ∨ m_behind.toInt < v_373.toInt) ∧ (n_1059.toInt ≤ 0 → v_371.toInt = 3 → v_374.toInt = 59 → zNf g_370) := ⟨(z_rgw hr_n_1059 (by decide) (by decide)), hr_v_371, hr_v_372, hr_v_373, hr_v_374, hr_v_375, hC_g_32, hC_g_370, hs_607, (by omega), (by omega), (by omega), (fun h1 h2 h3 => z_no (by omega))⟩
                      have hX_1073 : F_r_readFeels m_textEnd m_bad m_badAt m_behind m_number m_letters m_word g_tape g_c g_words g_hasFeels = ((n_1059, n_1060, v_371, v_372, v_373, v_374, v_375, v_376, g_32, g_370) : Int32 × Int32 × Int32 × Int32 × Int32 × Int32 × Int32 × Int64 × (Nat → Int32) × (Nat → Int32)) := by
                        refine hF_L74a.trans ?_
                        refine (F_r_readFeels_L74a_s ..).trans ?_
                        refine (if_neg c_863).trans ?_
                        refine (if_pos c_888).trans ?_
                        refine (if_pos c_892).trans ?_
                        try (extract_lets -merge -useContext +onlyGivenNames y9; have e9 : x_896 = y9 := (by first | exact he_x_896 | exact he_x_896.symm); clear_value y9; subst e9)
                        refine (if_pos c_897).trans ?_
                        extract_lets -merge -useContext +onlyGivenNames w9 y5_0 y5_1; have e9 : (n_1059, n_1060) = w9 := ((z_tS he_n_1059 he_n_1060.symm)).symm; clear_value w9; subst e9
                        try (extract_lets -merge -useContext +onlyGivenNames y9; have e9 : x_1065 = y9 := (by first | exact he_x_1065 | exact he_x_1065.symm); clear_value y9; subst e9)
                        refine (if_neg c_1066).trans ?_
                        try (extract_lets -merge -useContext +onlyGivenNames y9; have e9 : x_1068 = y9 := (by first | exact he_x_1068 | exact he_x_1068.symm); clear_value y9; subst e9)
                        exact rfl
                      exact hret _ _ _ _ _ (n_1059, n_1060, v_371, v_372, v_373, v_374, v_375, v_376, g_32, g_370) [5, 4, 2, 3, 0, 1] hP hD hS rfl (by decide) dX12_readFeels_209 ⟨(congrArg (fun z9 => z9.1) hX_1073).symm, (congrArg (fun z9 => z9.2.1) hX_1073).symm, (congrArg (fun z9 => z9.2.2.1) hX_1073).symm, (congrArg (fun z9 => z9.2.2.2.1) hX_1073).symm, (congrArg (fun z9 => z9.2.2.2.2.1) hX_1073).symm, (congrArg (fun z9 => z9.2.2.2.2.2.1) hX_1073).symm, (congrArg (fun z9 => z9.2.2.2.2.2.2.1) hX_1073).symm, (congrArg (fun z9 => z9.2.2.2.2.2.2.2.1) hX_1073).symm, (congrArg (fun z9 => z9.2.2.2.2.2.2.2.2.1) hX_1073).symm, (congrArg (fun z9 => z9.2.2.2.2.2.2.2.2.2) hX_1073).symm, hpost⟩
                    · have b_1074 := z_feqF c_1066
                      refine lv_aload_n hx hb dX12_readFeels_153 rfl (lv_at hl 0 rfl) ?_
                      refine va_get (D := G) (ci := 12) (v := .int v_374) (C := RX12) (T := TX12) (N := 65) hx hb hts inT12 hown hK hP 5 rfl rfl 17 (by decide) (hts _ tw_1902) (fun _ h9 => h9) rfl dX12_readFeels_154 ?_
                      refine lv_goto (tgt := 167) hx hb dX12_readFeels_157 (by decide) ?_
                      refine lv_istore (lv' := [(4, .int v_374), (0, .ref h0), (1, .int r_14), (2, .int x_45), (3, .int v_367), (5, .int v_369)]) hx hb dX12_readFeels_167 hl (by decide) rfl (fun ls hl => ?_)
                      refine lv_aload_n hx hb dX12_readFeels_169 rfl (lv_at hl 1 rfl) ?_
                      refine va_get (D := G) (ci := 12) (v := .int n_1059) (C := RX12) (T := TX12) (N := 65) hx hb hts inT12 hown hK hP 5 rfl rfl 12 (by decide) (hts _ tw_1897) (fun _ h9 => h9) rfl dX12_readFeels_170 ?_
                      refine lv_if_ne (tgt := 202) hx hb dX12_readFeels_173 (by decide) (fun c_1075 => ?_) (fun h9 => (z_no (by have h8 := z_feqF h9; omega)))
                      have b_1076 := z_fneT c_1075
                      refine lv_aload_n hx hb dX12_readFeels_202 rfl (lv_at hl 1 rfl) ?_
                      refine va_get (D := G) (ci := 12) (v := .int n_1059) (C := RX12) (T := TX12) (N := 65) hx hb hts inT12 hown hK hP 5 rfl rfl 12 (by decide) (hts _ tw_1897) (fun _ h9 => h9) rfl dX12_readFeels_203 ?_
                      refine lv_if_le (tgt := 210) hx hb dX12_readFeels_206 (by decide) (fun h9 => (z_no (by have h8 := z_fleT h9; omega))) (fun c_1077 => ?_)
                      have b_1078 := z_fgtF c_1077
                      have hpost : (0 ≤ n_1059.toInt ∧ n_1059.toInt ≤ 9) ∧ (0 ≤ v_371.toInt ∧ v_371.toInt ≤ 4) ∧ (0 ≤ v_372.toInt ∧ v_372.toInt ≤ 900) ∧ (0 ≤ v_373.toInt ∧ v_373.toInt ≤ 900) ∧ (0 ≤ v_374.toInt ∧ v_374.toInt ≤ 9999) ∧ (0 ≤ v_375.toInt ∧ v_375.toInt ≤ 900) ∧ (zRg 3 0 1 g_32) ∧ (zC g_370) ∧ (zNw g_370 g_isOn) ∧ (m_behind.toInt ≤ v_373.toInt) ∧ (0 < m_bad.toInt → 0 < n_1059.toInt) ∧ (n_1059.toInt ≤ 0 → v_371.toInt = 0 ∨ m_behind.toInt < v_373.toInt) ∧ (n_1059.toInt ≤ 0 → v_371.toInt = 3 → v_374.toInt = 59 → zNf g_370) := ⟨(z_rgw hr_n_1059 (by decide) (by decide)), hr_v_371, hr_v_372, hr_v_373, hr_v_374, hr_v_375, hC_g_32, hC_g_370, hs_607, (by omega), (by omega), (by omega), (fun h1 h2 h3 => z_no (by omega))⟩
                      have hX_1079 : F_r_readFeels m_textEnd m_bad m_badAt m_behind m_number m_letters m_word g_tape g_c g_words g_hasFeels = ((n_1059, n_1060, v_371, v_372, v_373, v_374, v_375, v_376, g_32, g_370) : Int32 × Int32 × Int32 × Int32 × Int32 × Int32 × Int32 × Int64 × (Nat → Int32) × (Nat → Int32)) := by
                        refine hF_L74a.trans ?_
                        refine (F_r_readFeels_L74a_s ..).trans ?_
                        refine (if_neg c_863).trans ?_
                        refine (if_pos c_888).trans ?_
                        refine (if_pos c_892).trans ?_
                        try (extract_lets -merge -useContext +onlyGivenNames y9; have e9 : x_896 = y9 := (by first | exact he_x_896 | exact he_x_896.symm); clear_value y9; subst e9)
                        refine (if_pos c_897).trans ?_
                        extract_lets -merge -useContext +onlyGivenNames w9 y5_0 y5_1; have e9 : (n_1059, n_1060) = w9 := ((z_tS he_n_1059 he_n_1060.symm)).symm; clear_value w9; subst e9
                        try (extract_lets -merge -useContext +onlyGivenNames y9; have e9 : x_1065 = y9 := (by first | exact he_x_1065 | exact he_x_1065.symm); clear_value y9; subst e9)
                        refine (if_pos c_1066).trans ?_
                        exact rfl
                      exact hret _ _ _ _ _ (n_1059, n_1060, v_371, v_372, v_373, v_374, v_375, v_376, g_32, g_370) [5, 4, 2, 3, 0, 1] hP hD hS rfl (by decide) dX12_readFeels_209 ⟨(congrArg (fun z9 => z9.1) hX_1079).symm, (congrArg (fun z9 => z9.2.1) hX_1079).symm, (congrArg (fun z9 => z9.2.2.1) hX_1079).symm, (congrArg (fun z9 => z9.2.2.2.1) hX_1079).symm, (congrArg (fun z9 => z9.2.2.2.2.1) hX_1079).symm, (congrArg (fun z9 => z9.2.2.2.2.2.1) hX_1079).symm, (congrArg (fun z9 => z9.2.2.2.2.2.2.1) hX_1079).symm, (congrArg (fun z9 => z9.2.2.2.2.2.2.2.1) hX_1079).symm, (congrArg (fun z9 => z9.2.2.2.2.2.2.2.2.1) hX_1079).symm, (congrArg (fun z9 => z9.2.2.2.2.2.2.2.2.2) hX_1079).symm, hpost⟩
                · have b_1080 := z_fgtF c_892
                  refine lv_aload_n hx hb dX12_readFeels_114 rfl (lv_at hl 0 rfl) ?_
                  refine lv_iconst (v := 4) hx hb dX12_readFeels_115 (by decide) ?_
                  refine lv_aload_n hx hb dX12_readFeels_116 rfl (lv_at hl 0 rfl) ?_
                  refine va_get (D := G) (ci := 12) (v := .int v_372) (C := RX12) (T := TX12) (N := 65) hx hb hts inT12 hown hK hP 4 rfl rfl 15 (by decide) (hts _ tw_1900) (fun _ h9 => h9) rfl dX12_readFeels_117 ?_
                  refine z_callVv (As := [.int 4, .int v_372]) (rest := []) (wr := [(a_hasFeels, .inl (cA.1 3, 3, .inl g_32)), (a_isOn, .inl (cA.1 3, 10, .inl g_isOn)), (a_c, .inl (cA.1 0, 1825, .inl g_370)), (a_words, .inl (cA.1 1, 105, .inr (.inl g_words))), (a_tape, .inl (cA.1 2, 900, .inl g_tape))]) ⟨hx, hb, hml, hown, hts⟩ hK hE hT hP hD hS hA (r_fail l G cA h0 m_status m_thrown m_above m_under a_traySort a_trayMany a_numbers a_tape m_taped m_textEnd m_faultKind m_faultAt n_12 n_13 v_371 v_372 v_373 v_374 v_375 v_376 a_c a_words m_markMany a_there a_tried a_best a_found m_thereMany m_foundMany m_orderHow m_orderRing m_orderMany m_hasBest m_bestTop m_bestBy a_weights a_shared m_random m_truePlace m_trueWay m_seconds m_done m_feelings m_tries m_leftOver m_playDoor m_playRing m_isOpen m_isOver m_wasTried m_hasPlayed a_feltNow a_last a_kept m_hasSeconds m_hasTurned m_hasRound a_hasFeels a_isOn m_firstAct m_meanTop m_meanBy a_order m_rowMany m_newSteps 4 v_372 (by decide +kernel) hr_n_12) lk_RX12_180 ⟨rfl, rfl⟩ ⟨Nat.le_of_ble_eq_true rfl, Nat.le_of_ble_eq_true rfl⟩ 12 rfl rfl rfl [4] [0, 1, 2, 3, 5] rfl rfl (by decide) rfl hl.1 rfl (lv_room (Nat.le_of_ble_eq_true rfl)) dX12_readFeels_120 ⟨Nat.le_of_ble_eq_true rfl, Nat.le_of_ble_eq_true rfl⟩ (fun u_1084 H locs hw hP hD hS => ?_)
                  obtain ⟨n_1081, n_1082⟩ := u_1084
                  try dsimp only at hw
                  obtain ⟨he_n_1081, he_n_1082, hw⟩ := hw
                  obtain ⟨hr_n_1081, hf_1086⟩ := hw
                  refine lv_aload_n hx hb dX12_readFeels_123 rfl (lv_at hl 0 rfl) ?_
                  refine va_get (D := G) (ci := 12) (v := .int n_1081) (C := RX12) (T := TX12) (N := 65) hx hb hts inT12 hown hK hP 5 rfl rfl 12 (by decide) (hts _ tw_1897) (fun _ h9 => h9) rfl dX12_readFeels_124 ?_
                  refine lv_if_ne (tgt := 147) hx hb dX12_readFeels_127 (by decide) (fun c_1087 => ?_) (fun h9 => (z_no (by have h8 := z_feqF h9; omega)))
                  have b_1088 := z_fneT c_1087
                  refine lv_iload_n hx hb dX12_readFeels_147 rfl (lv_at hl 3 rfl) ?_
                  refine lv_iload_n hx hb dX12_readFeels_148 rfl (lv_at hl 2 rfl) ?_
                  refine lv_irem hx hb dX12_readFeels_149 (z_nz (by omega)) ?_
                  refine lv_topi (fun x_1089 he_x_1089 => ?_)
                  have hq_x_1089 := z_remq he_x_1089 (rfl : v_367.toInt = _) (by omega : x_45.toInt = 2) (by omega) (by decide)
                  refine lv_if_ne (tgt := 160) hx hb dX12_readFeels_150 (by decide) (fun c_1090 => ?_) (fun c_1090 => ?_)
                  · have b_1091 := z_fneT c_1090
                    refine lv_iload hx hb dX12_readFeels_160 (lv_at hl 4 rfl) ?_
                    refine lv_aload_n hx hb dX12_readFeels_162 rfl (lv_at hl 0 rfl) ?_
                    refine va_get (D := G) (ci := 12) (v := .int v_374) (C := RX12) (T := TX12) (N := 65) hx hb hts inT12 hown hK hP 5 rfl rfl 17 (by decide) (hts _ tw_1902) (fun _ h9 => h9) rfl dX12_readFeels_163 ?_
                    refine lv_iadd hx hb dX12_readFeels_166 ?_
                    refine lv_topi (fun x_1092 he_x_1092 => ?_)
                    have hq_x_1092 := z_addq he_x_1092 (rfl : v_368.toInt = _) (rfl : v_374.toInt = _) (by omega) (by omega)
                    refine lv_istore (lv' := [(4, .int x_1092), (0, .ref h0), (1, .int r_14), (2, .int x_45), (3, .int v_367), (5, .int v_369)]) hx hb dX12_readFeels_167 hl (by decide) rfl (fun ls hl => ?_)
                    refine lv_aload_n hx hb dX12_readFeels_169 rfl (lv_at hl 1 rfl) ?_
                    refine va_get (D := G) (ci := 12) (v := .int n_1081) (C := RX12) (T := TX12) (N := 65) hx hb hts inT12 hown hK hP 5 rfl rfl 12 (by decide) (hts _ tw_1897) (fun _ h9 => h9) rfl dX12_readFeels_170 ?_
                    refine lv_if_ne (tgt := 202) hx hb dX12_readFeels_173 (by decide) (fun c_1093 => ?_) (fun h9 => (z_no (by have h8 := z_feqF h9; omega)))
                    have b_1094 := z_fneT c_1093
                    refine lv_aload_n hx hb dX12_readFeels_202 rfl (lv_at hl 1 rfl) ?_
                    refine va_get (D := G) (ci := 12) (v := .int n_1081) (C := RX12) (T := TX12) (N := 65) hx hb hts inT12 hown hK hP 5 rfl rfl 12 (by decide) (hts _ tw_1897) (fun _ h9 => h9) rfl dX12_readFeels_203 ?_
                    refine lv_if_le (tgt := 210) hx hb dX12_readFeels_206 (by decide) (fun h9 => (z_no (by have h8 := z_fleT h9; omega))) (fun c_1095 => ?_)
                    have b_1096 := z_fgtF c_1095
                    have hpost : (0 ≤ n_1081.toInt ∧ n_1081.toInt ≤ 9) ∧ (0 ≤ v_371.toInt ∧ v_371.toInt ≤ 4) ∧ (0 ≤ v_372.toInt ∧ v_372.toInt ≤ 900) ∧ (0 ≤ v_373.toInt ∧ v_373.toInt ≤ 900) ∧ (0 ≤ v_374.toInt ∧ v_374.toInt ≤ 9999) ∧ (0 ≤ v_375.toInt ∧ v_375.toInt ≤ 900) ∧ (zRg 3 0 1 g_32) ∧ (zC g_370) ∧ (zNw g_370 g_isOn) ∧ (m_behind.toInt ≤ v_373.toInt) ∧ (0 < m_bad.toInt → 0 < n_1081.toInt) ∧ (n_1081.toInt ≤ 0 → v_371.toInt = 0 ∨ m_behind.toInt < v_373.toInt) ∧ (n_1081.toInt ≤ 0 → v_371.toInt = 3 → v_374.toInt = 59 → zNf g_370) := ⟨(z_rgw hr_n_1081 (by decide) (by decide)), hr_v_371, hr_v_372, hr_v_373, hr_v_374, hr_v_375, hC_g_32, hC_g_370, hs_607, (by omega), (by omega), (by omega), (fun h1 h2 h3 => z_no (by omega))⟩
                    have hX_1097 : F_r_readFeels m_textEnd m_bad m_badAt m_behind m_number m_letters m_word g_tape g_c g_words g_hasFeels = ((n_1081, n_1082, v_371, v_372, v_373, v_374, v_375, v_376, g_32, g_370) : Int32 × Int32 × Int32 × Int32 × Int32 × Int32 × Int32 × Int64 × (Nat → Int32) × (Nat → Int32)) := by
                      refine hF_L74a.trans ?_
                      refine (F_r_readFeels_L74a_s ..).trans ?_
                      refine (if_neg c_863).trans ?_
                      refine (if_pos c_888).trans ?_
                      refine (if_neg c_892).trans ?_
                      extract_lets -merge -useContext +onlyGivenNames w9 y3_0 y3_1; have e9 : (n_1081, n_1082) = w9 := ((z_tS he_n_1081 he_n_1082.symm)).symm; clear_value w9; subst e9
                      try (extract_lets -merge -useContext +onlyGivenNames y9; have e9 : x_1089 = y9 := (by first | exact he_x_1089 | exact he_x_1089.symm); clear_value y9; subst e9)
                      refine (if_neg c_1090).trans ?_
                      try (extract_lets -merge -useContext +onlyGivenNames y9; have e9 : x_1092 = y9 := (by first | exact he_x_1092 | exact he_x_1092.symm); clear_value y9; subst e9)
                      exact rfl
                    exact hret _ _ _ _ _ (n_1081, n_1082, v_371, v_372, v_373, v_374, v_375, v_376, g_32, g_370) [5, 4, 2, 3, 0, 1] hP hD hS rfl (by decide) dX12_readFeels_209 ⟨(congrArg (fun z9 => z9.1) hX_1097).symm, (congrArg (fun z9 => z9.2.1) hX_1097).symm, (congrArg (fun z9 => z9.2.2.1) hX_1097).symm, (congrArg (fun z9 => z9.2.2.2.1) hX_1097).symm, (congrArg (fun z9 => z9.2.2.2.2.1) hX_1097).symm, (congrArg (fun z9 => z9.2.2.2.2.2.1) hX_1097).symm, (congrArg (fun z9 => z9.2.2.2.2.2.2.1) hX_1097).symm, (congrArg (fun z9 => z9.2.2.2.2.2.2.2.1) hX_1097).symm, (congrArg (fun z9 => z9.2.2.2.2.2.2.2.2.1) hX_1097).symm, (congrArg (fun z9 => z9.2.2.2.2.2.2.2.2.2) hX_1097).symm, hpost⟩
                  · have b_1098 := z_feqF c_1090
                    refine lv_aload_n hx hb dX12_readFeels_153 rfl (lv_at hl 0 rfl) ?_
                    refine va_get (D := G) (ci := 12) (v := .int v_374) (C := RX12) (T := TX12) (N := 65) hx hb hts inT12 hown hK hP 5 rfl rfl 17 (by decide) (hts _ tw_1902) (fun _ h9 => h9) rfl dX12_readFeels_154 ?_
                    refine lv_goto (tgt := 167) hx hb dX12_readFeels_157 (by decide) ?_
                    refine lv_istore (lv' := [(4, .int v_374), (0, .ref h0), (1, .int r_14), (2, .int x_45), (3, .int v_367), (5, .int v_369)]) hx hb dX12_readFeels_167 hl (by decide) rfl (fun ls hl => ?_)
                    refine lv_aload_n hx hb dX12_readFeels_169 rfl (lv_at hl 1 rfl) ?_
                    refine va_get (D := G) (ci := 12) (v := .int n_1081) (C := RX12) (T := TX12) (N := 65) hx hb hts inT12 hown hK hP 5 rfl rfl 12 (by decide) (hts _ tw_1897) (fun _ h9 => h9) rfl dX12_readFeels_170 ?_
                    refine lv_if_ne (tgt := 202) hx hb dX12_readFeels_173 (by decide) (fun c_1099 => ?_) (fun h9 => (z_no (by have h8 := z_feqF h9; omega)))
                    have b_1100 := z_fneT c_1099
                    refine lv_aload_n hx hb dX12_readFeels_202 rfl (lv_at hl 1 rfl) ?_
                    refine va_get (D := G) (ci := 12) (v := .int n_1081) (C := RX12) (T := TX12) (N := 65) hx hb hts inT12 hown hK hP 5 rfl rfl 12 (by decide) (hts _ tw_1897) (fun _ h9 => h9) rfl dX12_readFeels_203 ?_
                    refine lv_if_le (tgt := 210) hx hb dX12_readFeels_206 (by decide) (fun h9 => (z_no (by have h8 := z_fleT h9; omega))) (fun c_1101 => ?_)
                    have b_1102 := z_fgtF c_1101
                    have hpost : (0 ≤ n_1081.toInt ∧ n_1081.toInt ≤ 9) ∧ (0 ≤ v_371.toInt ∧ v_371.toInt ≤ 4) ∧ (0 ≤ v_372.toInt ∧ v_372.toInt ≤ 900) ∧ (0 ≤ v_373.toInt ∧ v_373.toInt ≤ 900) ∧ (0 ≤ v_374.toInt ∧ v_374.toInt ≤ 9999) ∧ (0 ≤ v_375.toInt ∧ v_375.toInt ≤ 900) ∧ (zRg 3 0 1 g_32) ∧ (zC g_370) ∧ (zNw g_370 g_isOn) ∧ (m_behind.toInt ≤ v_373.toInt) ∧ (0 < m_bad.toInt → 0 < n_1081.toInt) ∧ (n_1081.toInt ≤ 0 → v_371.toInt = 0 ∨ m_behind.toInt < v_373.toInt) ∧ (n_1081.toInt ≤ 0 → v_371.toInt = 3 → v_374.toInt = 59 → zNf g_370) := ⟨(z_rgw hr_n_1081 (by decide) (by decide)), hr_v_371, hr_v_372, hr_v_373, hr_v_374, hr_v_375, hC_g_32, hC_g_370, hs_607, (by omega), (by omega), (by omega), (fun h1 h2 h3 => z_no (by omega))⟩
                    have hX_1103 : F_r_readFeels m_textEnd m_bad m_badAt m_behind m_number m_letters m_word g_tape g_c g_words g_hasFeels = ((n_1081, n_1082, v_371, v_372, v_373, v_374, v_375, v_376, g_32, g_370) : Int32 × Int32 × Int32 × Int32 × Int32 × Int32 × Int32 × Int64 × (Nat → Int32) × (Nat → Int32)) := by
                      refine hF_L74a.trans ?_
                      refine (F_r_readFeels_L74a_s ..).trans ?_
                      refine (if_neg c_863).trans ?_
                      refine (if_pos c_888).trans ?_
                      refine (if_neg c_892).trans ?_
                      extract_lets -merge -useContext +onlyGivenNames w9 y3_0 y3_1; have e9 : (n_1081, n_1082) = w9 := ((z_tS he_n_1081 he_n_1082.symm)).symm; clear_value w9; subst e9
                      try (extract_lets -merge -useContext +onlyGivenNames y9; have e9 : x_1089 = y9 := (by first | exact he_x_1089 | exact he_x_1089.symm); clear_value y9; subst e9)
                      refine (if_pos c_1090).trans ?_
                      exact rfl
                    exact hret _ _ _ _ _ (n_1081, n_1082, v_371, v_372, v_373, v_374, v_375, v_376, g_32, g_370) [5, 4, 2, 3, 0, 1] hP hD hS rfl (by decide) dX12_readFeels_209 ⟨(congrArg (fun z9 => z9.1) hX_1103).symm, (congrArg (fun z9 => z9.2.1) hX_1103).symm, (congrArg (fun z9 => z9.2.2.1) hX_1103).symm, (congrArg (fun z9 => z9.2.2.2.1) hX_1103).symm, (congrArg (fun z9 => z9.2.2.2.2.1) hX_1103).symm, (congrArg (fun z9 => z9.2.2.2.2.2.1) hX_1103).symm, (congrArg (fun z9 => z9.2.2.2.2.2.2.1) hX_1103).symm, (congrArg (fun z9 => z9.2.2.2.2.2.2.2.1) hX_1103).symm, (congrArg (fun z9 => z9.2.2.2.2.2.2.2.2.1) hX_1103).symm, (congrArg (fun z9 => z9.2.2.2.2.2.2.2.2.2) hX_1103).symm, hpost⟩
              · have b_1104 := z_fneF c_888
                refine lv_aload_n hx hb dX12_readFeels_94 rfl (lv_at hl 0 rfl) ?_
                refine z_callVv (As := []) (rest := []) (wr := [(a_hasFeels, .inl (cA.1 3, 3, .inl g_32)), (a_isOn, .inl (cA.1 3, 10, .inl g_isOn)), (a_c, .inl (cA.1 0, 1825, .inl g_370)), (a_words, .inl (cA.1 1, 105, .inr (.inl g_words))), (a_tape, .inl (cA.1 2, 900, .inl g_tape))]) ⟨hx, hb, hml, hown, hts⟩ hK hE hT hP hD hS hA (r_wrong l G cA h0 m_status m_thrown m_above m_under a_traySort a_trayMany a_numbers a_tape m_taped m_textEnd m_faultKind m_faultAt n_12 n_13 v_371 v_372 v_373 v_374 v_375 v_376 a_c a_words m_markMany a_there a_tried a_best a_found m_thereMany m_foundMany m_orderHow m_orderRing m_orderMany m_hasBest m_bestTop m_bestBy a_weights a_shared m_random m_truePlace m_trueWay m_seconds m_done m_feelings m_tries m_leftOver m_playDoor m_playRing m_isOpen m_isOver m_wasTried m_hasPlayed a_feltNow a_last a_kept m_hasSeconds m_hasTurned m_hasRound a_hasFeels a_isOn m_firstAct m_meanTop m_meanBy a_order m_rowMany m_newSteps hr_v_372 hr_n_12 hr_v_371) lk_RX12_187 ⟨rfl, rfl⟩ ⟨Nat.le_of_ble_eq_true rfl, Nat.le_of_ble_eq_true rfl⟩ 12 rfl rfl rfl [4] [0, 1, 2, 3, 5] rfl rfl (by decide) rfl hl.1 rfl (lv_room (Nat.le_of_ble_eq_true rfl)) dX12_readFeels_95 ⟨Nat.le_of_ble_eq_true rfl, Nat.le_of_ble_eq_true rfl⟩ (fun u_1108 H locs hw hP hD hS => ?_)
                obtain ⟨n_1105, n_1106⟩ := u_1108
                try dsimp only at hw
                obtain ⟨he_n_1105, he_n_1106, hw⟩ := hw
                have hr_n_1105 := hw
                refine lv_aload_n hx hb dX12_readFeels_98 rfl (lv_at hl 0 rfl) ?_
                refine va_get (D := G) (ci := 12) (v := .int n_1105) (C := RX12) (T := TX12) (N := 65) hx hb hts inT12 hown hK hP 5 rfl rfl 12 (by decide) (hts _ tw_1897) (fun _ h9 => h9) rfl dX12_readFeels_99 ?_
                refine lv_if_ne (tgt := 123) hx hb dX12_readFeels_102 (by decide) (fun c_1110 => ?_) (fun h9 => (z_no (by have h8 := z_feqF h9; omega)))
                have b_1111 := z_fneT c_1110
                refine lv_aload_n hx hb dX12_readFeels_123 rfl (lv_at hl 0 rfl) ?_
                refine va_get (D := G) (ci := 12) (v := .int n_1105) (C := RX12) (T := TX12) (N := 65) hx hb hts inT12 hown hK hP 5 rfl rfl 12 (by decide) (hts _ tw_1897) (fun _ h9 => h9) rfl dX12_readFeels_124 ?_
                refine lv_if_ne (tgt := 147) hx hb dX12_readFeels_127 (by decide) (fun c_1112 => ?_) (fun h9 => (z_no (by have h8 := z_feqF h9; omega)))
                have b_1113 := z_fneT c_1112
                refine lv_iload_n hx hb dX12_readFeels_147 rfl (lv_at hl 3 rfl) ?_
                refine lv_iload_n hx hb dX12_readFeels_148 rfl (lv_at hl 2 rfl) ?_
                refine lv_irem hx hb dX12_readFeels_149 (z_nz (by omega)) ?_
                refine lv_topi (fun x_1114 he_x_1114 => ?_)
                have hq_x_1114 := z_remq he_x_1114 (rfl : v_367.toInt = _) (by omega : x_45.toInt = 2) (by omega) (by decide)
                refine lv_if_ne (tgt := 160) hx hb dX12_readFeels_150 (by decide) (fun c_1115 => ?_) (fun c_1115 => ?_)
                · have b_1116 := z_fneT c_1115
                  refine lv_iload hx hb dX12_readFeels_160 (lv_at hl 4 rfl) ?_
                  refine lv_aload_n hx hb dX12_readFeels_162 rfl (lv_at hl 0 rfl) ?_
                  refine va_get (D := G) (ci := 12) (v := .int v_374) (C := RX12) (T := TX12) (N := 65) hx hb hts inT12 hown hK hP 5 rfl rfl 17 (by decide) (hts _ tw_1902) (fun _ h9 => h9) rfl dX12_readFeels_163 ?_
                  refine lv_iadd hx hb dX12_readFeels_166 ?_
                  refine lv_topi (fun x_1117 he_x_1117 => ?_)
                  have hq_x_1117 := z_addq he_x_1117 (rfl : v_368.toInt = _) (rfl : v_374.toInt = _) (by omega) (by omega)
                  refine lv_istore (lv' := [(4, .int x_1117), (0, .ref h0), (1, .int r_14), (2, .int x_45), (3, .int v_367), (5, .int v_369)]) hx hb dX12_readFeels_167 hl (by decide) rfl (fun ls hl => ?_)
                  refine lv_aload_n hx hb dX12_readFeels_169 rfl (lv_at hl 1 rfl) ?_
                  refine va_get (D := G) (ci := 12) (v := .int n_1105) (C := RX12) (T := TX12) (N := 65) hx hb hts inT12 hown hK hP 5 rfl rfl 12 (by decide) (hts _ tw_1897) (fun _ h9 => h9) rfl dX12_readFeels_170 ?_
                  refine lv_if_ne (tgt := 202) hx hb dX12_readFeels_173 (by decide) (fun c_1118 => ?_) (fun h9 => (z_no (by have h8 := z_feqF h9; omega)))
                  have b_1119 := z_fneT c_1118
                  refine lv_aload_n hx hb dX12_readFeels_202 rfl (lv_at hl 1 rfl) ?_
                  refine va_get (D := G) (ci := 12) (v := .int n_1105) (C := RX12) (T := TX12) (N := 65) hx hb hts inT12 hown hK hP 5 rfl rfl 12 (by decide) (hts _ tw_1897) (fun _ h9 => h9) rfl dX12_readFeels_203 ?_
                  refine lv_if_le (tgt := 210) hx hb dX12_readFeels_206 (by decide) (fun h9 => (z_no (by have h8 := z_fleT h9; omega))) (fun c_1120 => ?_)
                  have b_1121 := z_fgtF c_1120
                  have hpost : (0 ≤ n_1105.toInt ∧ n_1105.toInt ≤ 9) ∧ (0 ≤ v_371.toInt ∧ v_371.toInt ≤ 4) ∧ (0 ≤ v_372.toInt ∧ v_372.toInt ≤ 900) ∧ (0 ≤ v_373.toInt ∧ v_373.toInt ≤ 900) ∧ (0 ≤ v_374.toInt ∧ v_374.toInt ≤ 9999) ∧ (0 ≤ v_375.toInt ∧ v_375.toInt ≤ 900) ∧ (zRg 3 0 1 g_32) ∧ (zC g_370) ∧ (zNw g_370 g_isOn) ∧ (m_behind.toInt ≤ v_373.toInt) ∧ (0 < m_bad.toInt → 0 < n_1105.toInt) ∧ (n_1105.toInt ≤ 0 → v_371.toInt = 0 ∨ m_behind.toInt < v_373.toInt) ∧ (n_1105.toInt ≤ 0 → v_371.toInt = 3 → v_374.toInt = 59 → zNf g_370) := ⟨(z_rgw hr_n_1105 (by decide) (by decide)), hr_v_371, hr_v_372, hr_v_373, hr_v_374, hr_v_375, hC_g_32, hC_g_370, hs_607, (by omega), (by omega), (by omega), (fun h1 h2 h3 => z_no (by omega))⟩
                  have hX_1122 : F_r_readFeels m_textEnd m_bad m_badAt m_behind m_number m_letters m_word g_tape g_c g_words g_hasFeels = ((n_1105, n_1106, v_371, v_372, v_373, v_374, v_375, v_376, g_32, g_370) : Int32 × Int32 × Int32 × Int32 × Int32 × Int32 × Int32 × Int64 × (Nat → Int32) × (Nat → Int32)) := by
                    refine hF_L74a.trans ?_
                    refine (F_r_readFeels_L74a_s ..).trans ?_
                    refine (if_neg c_863).trans ?_
                    refine (if_neg c_888).trans ?_
                    extract_lets -merge -useContext +onlyGivenNames w9 y2_0 y2_1; have e9 : (n_1105, n_1106) = w9 := ((z_tS he_n_1105 he_n_1106.symm)).symm; clear_value w9; subst e9
                    try (extract_lets -merge -useContext +onlyGivenNames y9; have e9 : x_1114 = y9 := (by first | exact he_x_1114 | exact he_x_1114.symm); clear_value y9; subst e9)
                    refine (if_neg c_1115).trans ?_
                    try (extract_lets -merge -useContext +onlyGivenNames y9; have e9 : x_1117 = y9 := (by first | exact he_x_1117 | exact he_x_1117.symm); clear_value y9; subst e9)
                    exact rfl
                  exact hret _ _ _ _ _ (n_1105, n_1106, v_371, v_372, v_373, v_374, v_375, v_376, g_32, g_370) [5, 4, 2, 3, 0, 1] hP hD hS rfl (by decide) dX12_readFeels_209 ⟨(congrArg (fun z9 => z9.1) hX_1122).symm, (congrArg (fun z9 => z9.2.1) hX_1122).symm, (congrArg (fun z9 => z9.2.2.1) hX_1122).symm, (congrArg (fun z9 => z9.2.2.2.1) hX_1122).symm, (congrArg (fun z9 => z9.2.2.2.2.1) hX_1122).symm, (congrArg (fun z9 => z9.2.2.2.2.2.1) hX_1122).symm, (congrArg (fun z9 => z9.2.2.2.2.2.2.1) hX_1122).symm, (congrArg (fun z9 => z9.2.2.2.2.2.2.2.1) hX_1122).symm, (congrArg (fun z9 => z9.2.2.2.2.2.2.2.2.1) hX_1122).symm, (congrArg (fun z9 => z9.2.2.2.2.2.2.2.2.2) hX_1122).symm, hpost⟩
                · have b_1123 := z_feqF c_1115
                  refine lv_aload_n hx hb dX12_readFeels_153 rfl (lv_at hl 0 rfl) ?_
                  refine va_get (D := G) (ci := 12) (v := .int v_374) (C := RX12) (T := TX12) (N := 65) hx hb hts inT12 hown hK hP 5 rfl rfl 17 (by decide) (hts _ tw_1902) (fun _ h9 => h9) rfl dX12_readFeels_154 ?_
                  refine lv_goto (tgt := 167) hx hb dX12_readFeels_157 (by decide) ?_
                  refine lv_istore (lv' := [(4, .int v_374), (0, .ref h0), (1, .int r_14), (2, .int x_45), (3, .int v_367), (5, .int v_369)]) hx hb dX12_readFeels_167 hl (by decide) rfl (fun ls hl => ?_)
                  refine lv_aload_n hx hb dX12_readFeels_169 rfl (lv_at hl 1 rfl) ?_
                  refine va_get (D := G) (ci := 12) (v := .int n_1105) (C := RX12) (T := TX12) (N := 65) hx hb hts inT12 hown hK hP 5 rfl rfl 12 (by decide) (hts _ tw_1897) (fun _ h9 => h9) rfl dX12_readFeels_170 ?_
                  refine lv_if_ne (tgt := 202) hx hb dX12_readFeels_173 (by decide) (fun c_1124 => ?_) (fun h9 => (z_no (by have h8 := z_feqF h9; omega)))
                  have b_1125 := z_fneT c_1124
                  refine lv_aload_n hx hb dX12_readFeels_202 rfl (lv_at hl 1 rfl) ?_
                  refine va_get (D := G) (ci := 12) (v := .int n_1105) (C := RX12) (T := TX12) (N := 65) hx hb hts inT12 hown hK hP 5 rfl rfl 12 (by decide) (hts _ tw_1897) (fun _ h9 => h9) rfl dX12_readFeels_203 ?_
                  refine lv_if_le (tgt := 210) hx hb dX12_readFeels_206 (by decide) (fun h9 => (z_no (by have h8 := z_fleT h9; omega))) (fun c_1126 => ?_)
                  have b_1127 := z_fgtF c_1126
                  have hpost : (0 ≤ n_1105.toInt ∧ n_1105.toInt ≤ 9) ∧ (0 ≤ v_371.toInt ∧ v_371.toInt ≤ 4) ∧ (0 ≤ v_372.toInt ∧ v_372.toInt ≤ 900) ∧ (0 ≤ v_373.toInt ∧ v_373.toInt ≤ 900) ∧ (0 ≤ v_374.toInt ∧ v_374.toInt ≤ 9999) ∧ (0 ≤ v_375.toInt ∧ v_375.toInt ≤ 900) ∧ (zRg 3 0 1 g_32) ∧ (zC g_370) ∧ (zNw g_370 g_isOn) ∧ (m_behind.toInt ≤ v_373.toInt) ∧ (0 < m_bad.toInt → 0 < n_1105.toInt) ∧ (n_1105.toInt ≤ 0 → v_371.toInt = 0 ∨ m_behind.toInt < v_373.toInt) ∧ (n_1105.toInt ≤ 0 → v_371.toInt = 3 → v_374.toInt = 59 → zNf g_370) := ⟨(z_rgw hr_n_1105 (by decide) (by decide)), hr_v_371, hr_v_372, hr_v_373, hr_v_374, hr_v_375, hC_g_32, hC_g_370, hs_607, (by omega), (by omega), (by omega), (fun h1 h2 h3 => z_no (by omega))⟩
                  have hX_1128 : F_r_readFeels m_textEnd m_bad m_badAt m_behind m_number m_letters m_word g_tape g_c g_words g_hasFeels = ((n_1105, n_1106, v_371, v_372, v_373, v_374, v_375, v_376, g_32, g_370) : Int32 × Int32 × Int32 × Int32 × Int32 × Int32 × Int32 × Int64 × (Nat → Int32) × (Nat → Int32)) := by
                    refine hF_L74a.trans ?_
                    refine (F_r_readFeels_L74a_s ..).trans ?_
                    refine (if_neg c_863).trans ?_
                    refine (if_neg c_888).trans ?_
                    extract_lets -merge -useContext +onlyGivenNames w9 y2_0 y2_1; have e9 : (n_1105, n_1106) = w9 := ((z_tS he_n_1105 he_n_1106.symm)).symm; clear_value w9; subst e9
                    try (extract_lets -merge -useContext +onlyGivenNames y9; have e9 : x_1114 = y9 := (by first | exact he_x_1114 | exact he_x_1114.symm); clear_value y9; subst e9)
                    refine (if_pos c_1115).trans ?_
                    exact rfl
                  exact hret _ _ _ _ _ (n_1105, n_1106, v_371, v_372, v_373, v_374, v_375, v_376, g_32, g_370) [5, 4, 2, 3, 0, 1] hP hD hS rfl (by decide) dX12_readFeels_209 ⟨(congrArg (fun z9 => z9.1) hX_1128).symm, (congrArg (fun z9 => z9.2.1) hX_1128).symm, (congrArg (fun z9 => z9.2.2.1) hX_1128).symm, (congrArg (fun z9 => z9.2.2.2.1) hX_1128).symm, (congrArg (fun z9 => z9.2.2.2.2.1) hX_1128).symm, (congrArg (fun z9 => z9.2.2.2.2.2.1) hX_1128).symm, (congrArg (fun z9 => z9.2.2.2.2.2.2.1) hX_1128).symm, (congrArg (fun z9 => z9.2.2.2.2.2.2.2.1) hX_1128).symm, (congrArg (fun z9 => z9.2.2.2.2.2.2.2.2.1) hX_1128).symm, (congrArg (fun z9 => z9.2.2.2.2.2.2.2.2.2) hX_1128).symm, hpost⟩
        have hX_1129 : F_r_readFeels m_textEnd m_bad m_badAt m_behind m_number m_letters m_word g_tape g_c g_words g_hasFeels = F_r_readFeels_L74a m_textEnd g_tape r_14 n_12 n_13 g_32 x_45 ((900 - n_35.toInt + (1 : Int32).toInt).toNat + 1) (0 : Int32) (0 : Int32) (1 : Int32) g_c n_33 n_34 n_35 n_36 n_37 n_38 := by
          refine (F_r_readFeels_s ..).trans ?_
          extract_lets -merge -useContext +onlyGivenNames w9 y0_0 y0_1 y0_2 y0_3 y0_4 y0_5; have e9 : (n_1, n_2, n_3, n_4, n_5, n_6) = w9 := ((z_tS he_n_1 (z_tS he_n_2 (z_tS he_n_3 (z_tS he_n_4 (z_tS he_n_5 he_n_6.symm)))))).symm; clear_value w9; subst e9
          extract_lets -merge -useContext +onlyGivenNames w9 y1_0 y1_1 y1_2; have e9 : (r_14, n_12, n_13) = w9 := ((z_tS he_r_14 (z_tS he_n_12 he_n_13.symm))).symm; clear_value w9; subst e9
          refine (if_pos c_20).trans ?_
          try (extract_lets -merge -useContext +onlyGivenNames y9; have e9 : x_26 = y9 := (by first | exact he_x_26 | exact he_x_26.symm); clear_value y9; subst e9)
          refine (if_pos c_27).trans ?_
          try (extract_lets -merge -useContext +onlyGivenNames y9; have e9 : g_32 = y9 := (by first | exact hg_g_32 | exact hg_g_32.symm); clear_value y9; subst e9)
          extract_lets -merge -useContext +onlyGivenNames w9 y6_0 y6_1 y6_2 y6_3 y6_4 y6_5; have e9 : (n_33, n_34, n_35, n_36, n_37, n_38) = w9 := ((z_tS he_n_33 (z_tS he_n_34 (z_tS he_n_35 (z_tS he_n_36 (z_tS he_n_37 he_n_38.symm)))))).symm; clear_value w9; subst e9
          try (extract_lets -merge -useContext +onlyGivenNames y9; have e9 : x_44 = y9 := (by first | exact he_x_44 | exact he_x_44.symm); clear_value y9; subst e9)
          try (extract_lets -merge -useContext +onlyGivenNames y9; have e9 : x_45 = y9 := (by first | exact he_x_45 | exact he_x_45.symm); clear_value y9; subst e9)
          exact rfl
        exact hlp_861 ((900 - n_35.toInt + (1 : Int32).toInt).toNat + 1) 0 0 1 g_c n_33 n_34 n_35 n_36 n_37 n_38 _ _ _ (Nat.lt_succ_self _) (by decide +kernel) (by decide +kernel) (by decide +kernel) hC_g_c hr_n_33 hr_n_34 hr_n_35 hr_n_36 hr_n_37 hNW0 (zFl_0 (by omega)) (by omega) (by omega) (by omega) (by omega) (by omega) hX_1129 hP hD hS (lv_sub hl [5, 4, 3, 2, 1, 0] rfl)
      · skip
        refine lv_iconst (v := 0) hx hb dX12_readFeels_66 (by decide) ?_
        refine lv_istore_n (lv' := [(3, .int 0), (2, .int x_45), (1, .int r_14), (0, .ref h0)]) hx hb dX12_readFeels_67 rfl hl (by decide) rfl (fun ls hl => ?_)
        refine lv_iconst (v := 0) hx hb dX12_readFeels_68 (by decide) ?_
        refine lv_istore (lv' := [(4, .int 0), (3, .int 0), (2, .int x_45), (1, .int r_14), (0, .ref h0)]) hx hb dX12_readFeels_69 hl (by decide) rfl (fun ls hl => ?_)
        refine lv_iconst (v := 1) hx hb dX12_readFeels_71 (by decide) ?_
        refine lv_istore (lv' := [(5, .int 1), (4, .int 0), (3, .int 0), (2, .int x_45), (1, .int r_14), (0, .ref h0)]) hx hb dX12_readFeels_72 hl (by decide) rfl (fun ls hl => ?_)
        have hlp_1944 : ∀ (n_L74b : Nat) (v_1450 : Int32) (v_1451 : Int32) (v_1452 : Int32) (g_1453 : Nat → Int32) (v_1454 : Int32) (v_1455 : Int32) (v_1456 : Int32) (v_1457 : Int32) (v_1458 : Int32) (v_1459 : Int64) (H : Heap) (locs : List Loc) (ls : Array Slot), (900 - v_1456.toInt + v_1452.toInt).toNat < n_L74b → (0 ≤ v_1450.toInt ∧ v_1450.toInt ≤ 16) → (0 ≤ v_1451.toInt ∧ v_1451.toInt ≤ 256) → (0 ≤ v_1452.toInt ∧ v_1452.toInt ≤ 1) → (zC g_1453) → (0 ≤ v_1454.toInt ∧ v_1454.toInt ≤ 4) → (0 ≤ v_1455.toInt ∧ v_1455.toInt ≤ 900) → (0 ≤ v_1456.toInt ∧ v_1456.toInt ≤ 900) → (0 ≤ v_1457.toInt ∧ v_1457.toInt ≤ 9999) → (0 ≤ v_1458.toInt ∧ v_1458.toInt ≤ 900) → (zNw g_1453 g_isOn) → (zFl g_c g_1453 r_14.toInt x_45.toInt v_1450.toInt v_1451.toInt) → (v_1450.toInt ≤ 9) → (v_1451.toInt ≤ 16 * v_1450.toInt) → ((g_1453 1460).toInt = (g_c 1460).toInt) → (m_behind.toInt ≤ v_1456.toInt) → (n_12.toInt ≤ 0 → v_1454.toInt = 0 ∨ m_behind.toInt < v_1456.toInt) → (F_r_readFeels m_textEnd m_bad m_badAt m_behind m_number m_letters m_word g_tape g_c g_words g_hasFeels = F_r_readFeels_L74b m_textEnd g_tape r_14 n_12 n_13 g_32 x_45 n_L74b v_1450 v_1451 v_1452 g_1453 v_1454 v_1455 v_1456 v_1457 v_1458 v_1459) → va_P G vwCl [(a_hasFeels, .inl (cA.1 3, 3, .inl g_32)), (a_isOn, .inl (cA.1 3, 10, .inl g_isOn)), (a_c, .inl (cA.1 0, 1825, .inl g_1453)), (a_words, .inl (cA.1 1, 105, .inr (.inl g_words))), (h0, .inr (12, [.int m_status, .int m_thrown, .long m_above, .long m_under, .ref a_traySort, .ref a_trayMany, .ref a_numbers, .ref a_tape, .int m_taped, .int m_textEnd, .int m_faultKind, .int m_faultAt, .int n_12, .int n_13, .int v_1454, .int v_1455, .int v_1456, .int v_1457, .int v_1458, .long v_1459, .ref a_c, .ref a_words, .int m_markMany, .ref a_there, .ref a_tried, .ref a_best, .ref a_found, .int m_thereMany, .int m_foundMany, .int m_orderHow, .int m_orderRing, .int m_orderMany, .int m_hasBest, .long m_bestTop, .long m_bestBy, .ref a_weights, .ref a_shared, .int m_random, .int m_truePlace, .int m_trueWay, .int m_seconds, .int m_done, .int m_feelings, .int m_tries, .int m_leftOver, .int m_playDoor, .int m_playRing, .int m_isOpen, .int m_isOver, .int m_wasTried, .int m_hasPlayed, .ref a_feltNow, .ref a_last, .ref a_kept, .int m_hasSeconds, .int m_hasTurned, .int m_hasRound, .ref a_hasFeels, .ref a_isOn, .int m_firstAct, .long m_meanTop, .long m_meanBy, .ref a_order, .int m_rowMany, .int m_newSteps])), (a_tape, .inl (cA.1 2, 900, .inl g_tape))] H → va_D A [(a_hasFeels, .inl (cA.1 3, 3, .inl g_32)), (a_isOn, .inl (cA.1 3, 10, .inl g_isOn)), (a_c, .inl (cA.1 0, 1825, .inl g_1453)), (a_words, .inl (cA.1 1, 105, .inr (.inl g_words))), (h0, .inr (12, [.int m_status, .int m_thrown, .long m_above, .long m_under, .ref a_traySort, .ref a_trayMany, .ref a_numbers, .ref a_tape, .int m_taped, .int m_textEnd, .int m_faultKind, .int m_faultAt, .int n_12, .int n_13, .int v_1454, .int v_1455, .int v_1456, .int v_1457, .int v_1458, .long v_1459, .ref a_c, .ref a_words, .int m_markMany, .ref a_there, .ref a_tried, .ref a_best, .ref a_found, .int m_thereMany, .int m_foundMany, .int m_orderHow, .int m_orderRing, .int m_orderMany, .int m_hasBest, .long m_bestTop, .long m_bestBy, .ref a_weights, .ref a_shared, .int m_random, .int m_truePlace, .int m_trueWay, .int m_seconds, .int m_done, .int m_feelings, .int m_tries, .int m_leftOver, .int m_playDoor, .int m_playRing, .int m_isOpen, .int m_isOver, .int m_wasTried, .int m_hasPlayed, .ref a_feltNow, .ref a_last, .ref a_kept, .int m_hasSeconds, .int m_hasTurned, .int m_hasRound, .ref a_hasFeels, .ref a_isOn, .int m_firstAct, .long m_meanTop, .long m_meanBy, .ref a_order, .int m_rowMany, .int m_newSteps])), (a_tape, .inl (cA.1 2, 900, .inl g_tape))] → va_S A s.heap H locs → lv_has ls 6 [(0, .ref h0), (1, .int r_14), (2, .int x_45), (3, .int v_1450), (4, .int v_1451), (5, .int v_1452)] → W p l e ({ frames := 4, cells := 0, slots := 0, locals := 90 }) s m args below meth c H locs 0 0 Q (F0 m 74 ls []) := by
          intro n_L74b
          induction n_L74b with
          | zero =>
            intro v_1450 v_1451 v_1452 g_1453 v_1454 v_1455 v_1456 v_1457 v_1458 v_1459 H locs ls hmu_hlp_1944 hr_v_1450 hr_v_1451 hr_v_1452 hC_g_1453 hr_v_1454 hr_v_1455 hr_v_1456 hr_v_1457 hr_v_1458 hs_1690 hi_1691 hi_1692 hi_1693 hi_1694 hi_1695 hi_1696 hF_L74b hP hD hS hl
            exact absurd hmu_hlp_1944 (Nat.not_lt_zero _)
          | succ n_L74b ih_1945 =>
            intro v_1450 v_1451 v_1452 g_1453 v_1454 v_1455 v_1456 v_1457 v_1458 v_1459 H locs ls hmu_hlp_1944 hr_v_1450 hr_v_1451 hr_v_1452 hC_g_1453 hr_v_1454 hr_v_1455 hr_v_1456 hr_v_1457 hr_v_1458 hs_1690 hi_1691 hi_1692 hi_1693 hi_1694 hi_1695 hi_1696 hF_L74b hP hD hS hl
            refine lv_iload hx hb dX12_readFeels_74 (lv_at hl 5 rfl) ?_
            refine lv_if_eq (tgt := 262) hx hb dX12_readFeels_76 (by decide) (fun c_1946 => ?_) (fun c_1946 => ?_)
            · have b_1947 := z_feqT c_1946
              refine lv_aload_n hx hb dX12_readFeels_262 rfl (lv_at hl 0 rfl) ?_
              refine va_get (D := G) (ci := 12) (v := .int n_12) (C := RX12) (T := TX12) (N := 65) hx hb hts inT12 hown hK hP 4 rfl rfl 12 (by decide) (hts _ tw_1897) (fun _ h9 => h9) rfl dX12_readFeels_263 ?_
              refine lv_if_ne (tgt := 295) hx hb dX12_readFeels_266 (by decide) (fun h9 => (z_no (by have h8 := z_fneT h9; omega))) (fun c_1948 => ?_)
              have b_1949 := z_feqF c_1948
              refine lv_aload_n hx hb dX12_readFeels_269 rfl (lv_at hl 0 rfl) ?_
              refine lv_bipush (v := 59) hx hb dX12_readFeels_270 (by decide) ?_
              refine z_callVi (As := [.int 59]) (rest := []) (wr := [(a_hasFeels, .inl (cA.1 3, 3, .inl g_32)), (a_isOn, .inl (cA.1 3, 10, .inl g_isOn)), (a_c, .inl (cA.1 0, 1825, .inl g_1453)), (a_words, .inl (cA.1 1, 105, .inr (.inl g_words))), (a_tape, .inl (cA.1 2, 900, .inl g_tape))]) ⟨hx, hb, hml, hown, hts⟩ hK hE hT hP hD hS hA (r_isSign l G cA h0 m_status m_thrown m_above m_under a_traySort a_trayMany a_numbers a_tape m_taped m_textEnd m_faultKind m_faultAt n_12 n_13 v_1454 v_1455 v_1456 v_1457 v_1458 v_1459 a_c a_words m_markMany a_there a_tried a_best a_found m_thereMany m_foundMany m_orderHow m_orderRing m_orderMany m_hasBest m_bestTop m_bestBy a_weights a_shared m_random m_truePlace m_trueWay m_seconds m_done m_feelings m_tries m_leftOver m_playDoor m_playRing m_isOpen m_isOver m_wasTried m_hasPlayed a_feltNow a_last a_kept m_hasSeconds m_hasTurned m_hasRound a_hasFeels a_isOn m_firstAct m_meanTop m_meanBy a_order m_rowMany m_newSteps 59 hr_v_1454 hr_v_1457) lk_RX12_220 ⟨rfl, rfl⟩ ⟨Nat.le_of_ble_eq_true rfl, Nat.le_of_ble_eq_true rfl⟩ 12 rfl rfl rfl [4] [0, 1, 2, 3, 5] rfl rfl (by decide) rfl hl.1 rfl (lv_room (Nat.le_of_ble_eq_true rfl)) dX12_readFeels_272 ⟨Nat.le_of_ble_eq_true rfl, Nat.le_of_ble_eq_true rfl⟩ (fun r_1950 u_1951 H locs hw hP hD hS => ?_)
              obtain ⟨he_r_1950, hw⟩ := hw
              rcases hw with ⟨rfl, hf_1953⟩ | ⟨rfl, hf_1954⟩
              · skip
                refine lv_if_eq (tgt := 295) hx hb dX12_readFeels_275 (by decide) (fun _ => ?_) (fun h9 => absurd (by decide +kernel) h9)
                have hpost : (0 ≤ n_12.toInt ∧ n_12.toInt ≤ 9) ∧ (0 ≤ v_1454.toInt ∧ v_1454.toInt ≤ 4) ∧ (0 ≤ v_1455.toInt ∧ v_1455.toInt ≤ 900) ∧ (0 ≤ v_1456.toInt ∧ v_1456.toInt ≤ 900) ∧ (0 ≤ v_1457.toInt ∧ v_1457.toInt ≤ 9999) ∧ (0 ≤ v_1458.toInt ∧ v_1458.toInt ≤ 900) ∧ (zRg 3 0 1 g_32) ∧ (zC g_1453) ∧ (zNw g_1453 g_isOn) ∧ (m_behind.toInt ≤ v_1456.toInt) ∧ (0 < m_bad.toInt → 0 < n_12.toInt) ∧ (n_12.toInt ≤ 0 → v_1454.toInt = 0 ∨ m_behind.toInt < v_1456.toInt) ∧ (n_12.toInt ≤ 0 → v_1454.toInt = 3 → v_1457.toInt = 59 → zNf g_1453) := ⟨hr_n_12, hr_v_1454, hr_v_1455, hr_v_1456, hr_v_1457, hr_v_1458, hC_g_32, hC_g_1453, hs_1690, (by omega), (by omega), (by omega), (fun h1 h2 h3 => (zFl_end hi_1691 hC_g_1453.1 hNF0 (by omega) (by omega) (by omega) (by rw [h_46]; omega)))⟩
                have hX_1955 : F_r_readFeels m_textEnd m_bad m_badAt m_behind m_number m_letters m_word g_tape g_c g_words g_hasFeels = ((n_12, n_13, v_1454, v_1455, v_1456, v_1457, v_1458, v_1459, g_32, g_1453) : Int32 × Int32 × Int32 × Int32 × Int32 × Int32 × Int32 × Int64 × (Nat → Int32) × (Nat → Int32)) := by
                  refine hF_L74b.trans ?_
                  refine (F_r_readFeels_L74b_s ..).trans ?_
                  refine (if_pos c_1946).trans ?_
                  extract_lets -merge -useContext +onlyGivenNames w9 y9; have e9 : (0 : Int32) = w9 := he_r_1950; clear_value w9; subst e9
                  refine (if_pos rfl).trans ?_
                  exact rfl
                exact hret _ _ _ _ _ (n_12, n_13, v_1454, v_1455, v_1456, v_1457, v_1458, v_1459, g_32, g_1453) [5, 4, 2, 3, 0, 1] hP hD hS rfl (by decide) dX12_readFeels_295 ⟨(congrArg (fun z9 => z9.1) hX_1955).symm, (congrArg (fun z9 => z9.2.1) hX_1955).symm, (congrArg (fun z9 => z9.2.2.1) hX_1955).symm, (congrArg (fun z9 => z9.2.2.2.1) hX_1955).symm, (congrArg (fun z9 => z9.2.2.2.2.1) hX_1955).symm, (congrArg (fun z9 => z9.2.2.2.2.2.1) hX_1955).symm, (congrArg (fun z9 => z9.2.2.2.2.2.2.1) hX_1955).symm, (congrArg (fun z9 => z9.2.2.2.2.2.2.2.1) hX_1955).symm, (congrArg (fun z9 => z9.2.2.2.2.2.2.2.2.1) hX_1955).symm, (congrArg (fun z9 => z9.2.2.2.2.2.2.2.2.2) hX_1955).symm, hpost⟩
              · skip
                refine lv_if_eq (tgt := 295) hx hb dX12_readFeels_275 (by decide) (fun h9 => absurd h9 (by decide +kernel)) (fun _ => ?_)
                refine lv_iload_n hx hb dX12_readFeels_278 rfl (lv_at hl 3 rfl) ?_
                refine lv_iload_n hx hb dX12_readFeels_279 rfl (lv_at hl 2 rfl) ?_
                refine lv_iload_n hx hb dX12_readFeels_280 rfl (lv_at hl 2 rfl) ?_
                refine lv_imul hx hb dX12_readFeels_281 ?_
                refine lv_topi (fun x_1956 he_x_1956 => ?_)
                have hq_x_1956 := z_mulq he_x_1956 (by omega : x_45.toInt = 3) (rfl : x_45.toInt = _) (by omega) (by omega)
                refine lv_icmp_ge (tgt := 295) hx hb dX12_readFeels_282 (by decide) (fun c_1957 => ?_) (fun c_1957 => ?_)
                · have b_1958 := z_fgeT c_1957
                  have hpost : (0 ≤ n_12.toInt ∧ n_12.toInt ≤ 9) ∧ (0 ≤ v_1454.toInt ∧ v_1454.toInt ≤ 4) ∧ (0 ≤ v_1455.toInt ∧ v_1455.toInt ≤ 900) ∧ (0 ≤ v_1456.toInt ∧ v_1456.toInt ≤ 900) ∧ (0 ≤ v_1457.toInt ∧ v_1457.toInt ≤ 9999) ∧ (0 ≤ v_1458.toInt ∧ v_1458.toInt ≤ 900) ∧ (zRg 3 0 1 g_32) ∧ (zC g_1453) ∧ (zNw g_1453 g_isOn) ∧ (m_behind.toInt ≤ v_1456.toInt) ∧ (0 < m_bad.toInt → 0 < n_12.toInt) ∧ (n_12.toInt ≤ 0 → v_1454.toInt = 0 ∨ m_behind.toInt < v_1456.toInt) ∧ (n_12.toInt ≤ 0 → v_1454.toInt = 3 → v_1457.toInt = 59 → zNf g_1453) := ⟨hr_n_12, hr_v_1454, hr_v_1455, hr_v_1456, hr_v_1457, hr_v_1458, hC_g_32, hC_g_1453, hs_1690, (by omega), (by omega), (by omega), (fun h1 h2 h3 => (zFl_end hi_1691 hC_g_1453.1 hNF0 (by omega) (by omega) (by omega) (by rw [h_46]; omega)))⟩
                  have hX_1959 : F_r_readFeels m_textEnd m_bad m_badAt m_behind m_number m_letters m_word g_tape g_c g_words g_hasFeels = ((n_12, n_13, v_1454, v_1455, v_1456, v_1457, v_1458, v_1459, g_32, g_1453) : Int32 × Int32 × Int32 × Int32 × Int32 × Int32 × Int32 × Int64 × (Nat → Int32) × (Nat → Int32)) := by
                    refine hF_L74b.trans ?_
                    refine (F_r_readFeels_L74b_s ..).trans ?_
                    refine (if_pos c_1946).trans ?_
                    extract_lets -merge -useContext +onlyGivenNames w9 y9; have e9 : (1 : Int32) = w9 := he_r_1950; clear_value w9; subst e9
                    refine (if_neg (show ¬ (1 : Int32) = 0 by decide)).trans ?_
                    try (extract_lets -merge -useContext +onlyGivenNames y9; have e9 : x_1956 = y9 := (by first | exact he_x_1956 | exact he_x_1956.symm); clear_value y9; subst e9)
                    refine (if_pos c_1957).trans ?_
                    exact rfl
                  exact hret _ _ _ _ _ (n_12, n_13, v_1454, v_1455, v_1456, v_1457, v_1458, v_1459, g_32, g_1453) [5, 4, 2, 3, 0, 1] hP hD hS rfl (by decide) dX12_readFeels_295 ⟨(congrArg (fun z9 => z9.1) hX_1959).symm, (congrArg (fun z9 => z9.2.1) hX_1959).symm, (congrArg (fun z9 => z9.2.2.1) hX_1959).symm, (congrArg (fun z9 => z9.2.2.2.1) hX_1959).symm, (congrArg (fun z9 => z9.2.2.2.2.1) hX_1959).symm, (congrArg (fun z9 => z9.2.2.2.2.2.1) hX_1959).symm, (congrArg (fun z9 => z9.2.2.2.2.2.2.1) hX_1959).symm, (congrArg (fun z9 => z9.2.2.2.2.2.2.2.1) hX_1959).symm, (congrArg (fun z9 => z9.2.2.2.2.2.2.2.2.1) hX_1959).symm, (congrArg (fun z9 => z9.2.2.2.2.2.2.2.2.2) hX_1959).symm, hpost⟩
                · have b_1960 := z_fltF c_1957
                  refine lv_aload_n hx hb dX12_readFeels_285 rfl (lv_at hl 0 rfl) ?_
                  refine lv_bipush (v := 8) hx hb dX12_readFeels_286 (by decide) ?_
                  refine lv_aload_n hx hb dX12_readFeels_288 rfl (lv_at hl 0 rfl) ?_
                  refine va_get (D := G) (ci := 12) (v := .int v_1455) (C := RX12) (T := TX12) (N := 65) hx hb hts inT12 hown hK hP 5 rfl rfl 15 (by decide) (hts _ tw_1900) (fun _ h9 => h9) rfl dX12_readFeels_289 ?_
                  refine z_callVv (As := [.int 8, .int v_1455]) (rest := []) (wr := [(a_hasFeels, .inl (cA.1 3, 3, .inl g_32)), (a_isOn, .inl (cA.1 3, 10, .inl g_isOn)), (a_c, .inl (cA.1 0, 1825, .inl g_1453)), (a_words, .inl (cA.1 1, 105, .inr (.inl g_words))), (a_tape, .inl (cA.1 2, 900, .inl g_tape))]) ⟨hx, hb, hml, hown, hts⟩ hK hE hT hP hD hS hA (r_fail l G cA h0 m_status m_thrown m_above m_under a_traySort a_trayMany a_numbers a_tape m_taped m_textEnd m_faultKind m_faultAt n_12 n_13 v_1454 v_1455 v_1456 v_1457 v_1458 v_1459 a_c a_words m_markMany a_there a_tried a_best a_found m_thereMany m_foundMany m_orderHow m_orderRing m_orderMany m_hasBest m_bestTop m_bestBy a_weights a_shared m_random m_truePlace m_trueWay m_seconds m_done m_feelings m_tries m_leftOver m_playDoor m_playRing m_isOpen m_isOver m_wasTried m_hasPlayed a_feltNow a_last a_kept m_hasSeconds m_hasTurned m_hasRound a_hasFeels a_isOn m_firstAct m_meanTop m_meanBy a_order m_rowMany m_newSteps 8 v_1455 (by decide +kernel) hr_n_12) lk_RX12_180 ⟨rfl, rfl⟩ ⟨Nat.le_of_ble_eq_true rfl, Nat.le_of_ble_eq_true rfl⟩ 12 rfl rfl rfl [5] [0, 1, 2, 3, 4] rfl rfl (by decide) rfl hl.1 rfl (lv_room (Nat.le_of_ble_eq_true rfl)) dX12_readFeels_292 ⟨Nat.le_of_ble_eq_true rfl, Nat.le_of_ble_eq_true rfl⟩ (fun u_1964 H locs hw hP hD hS => ?_)
                  obtain ⟨n_1961, n_1962⟩ := u_1964
                  try dsimp only at hw
                  obtain ⟨he_n_1961, he_n_1962, hw⟩ := hw
                  obtain ⟨hr_n_1961, hf_1966⟩ := hw
                  have hpost : (0 ≤ n_1961.toInt ∧ n_1961.toInt ≤ 9) ∧ (0 ≤ v_1454.toInt ∧ v_1454.toInt ≤ 4) ∧ (0 ≤ v_1455.toInt ∧ v_1455.toInt ≤ 900) ∧ (0 ≤ v_1456.toInt ∧ v_1456.toInt ≤ 900) ∧ (0 ≤ v_1457.toInt ∧ v_1457.toInt ≤ 9999) ∧ (0 ≤ v_1458.toInt ∧ v_1458.toInt ≤ 900) ∧ (zRg 3 0 1 g_32) ∧ (zC g_1453) ∧ (zNw g_1453 g_isOn) ∧ (m_behind.toInt ≤ v_1456.toInt) ∧ (0 < m_bad.toInt → 0 < n_1961.toInt) ∧ (n_1961.toInt ≤ 0 → v_1454.toInt = 0 ∨ m_behind.toInt < v_1456.toInt) ∧ (n_1961.toInt ≤ 0 → v_1454.toInt = 3 → v_1457.toInt = 59 → zNf g_1453) := ⟨(z_rgw hr_n_1961 (by decide) (by decide)), hr_v_1454, hr_v_1455, hr_v_1456, hr_v_1457, hr_v_1458, hC_g_32, hC_g_1453, hs_1690, (by omega), (by omega), (by omega), (fun h1 h2 h3 => (zFl_end hi_1691 hC_g_1453.1 hNF0 (by omega) (by omega) (by omega) (by rw [h_46]; omega)))⟩
                  have hX_1967 : F_r_readFeels m_textEnd m_bad m_badAt m_behind m_number m_letters m_word g_tape g_c g_words g_hasFeels = ((n_1961, n_1962, v_1454, v_1455, v_1456, v_1457, v_1458, v_1459, g_32, g_1453) : Int32 × Int32 × Int32 × Int32 × Int32 × Int32 × Int32 × Int64 × (Nat → Int32) × (Nat → Int32)) := by
                    refine hF_L74b.trans ?_
                    refine (F_r_readFeels_L74b_s ..).trans ?_
                    refine (if_pos c_1946).trans ?_
                    extract_lets -merge -useContext +onlyGivenNames w9 y9; have e9 : (1 : Int32) = w9 := he_r_1950; clear_value w9; subst e9
                    refine (if_neg (show ¬ (1 : Int32) = 0 by decide)).trans ?_
                    try (extract_lets -merge -useContext +onlyGivenNames y9; have e9 : x_1956 = y9 := (by first | exact he_x_1956 | exact he_x_1956.symm); clear_value y9; subst e9)
                    refine (if_neg c_1957).trans ?_
                    extract_lets -merge -useContext +onlyGivenNames w9 y5_0 y5_1; have e9 : (n_1961, n_1962) = w9 := ((z_tS he_n_1961 he_n_1962.symm)).symm; clear_value w9; subst e9
                    exact rfl
                  exact hret _ _ _ _ _ (n_1961, n_1962, v_1454, v_1455, v_1456, v_1457, v_1458, v_1459, g_32, g_1453) [5, 4, 2, 3, 0, 1] hP hD hS rfl (by decide) dX12_readFeels_295 ⟨(congrArg (fun z9 => z9.1) hX_1967).symm, (congrArg (fun z9 => z9.2.1) hX_1967).symm, (congrArg (fun z9 => z9.2.2.1) hX_1967).symm, (congrArg (fun z9 => z9.2.2.2.1) hX_1967).symm, (congrArg (fun z9 => z9.2.2.2.2.1) hX_1967).symm, (congrArg (fun z9 => z9.2.2.2.2.2.1) hX_1967).symm, (congrArg (fun z9 => z9.2.2.2.2.2.2.1) hX_1967).symm, (congrArg (fun z9 => z9.2.2.2.2.2.2.2.1) hX_1967).symm, (congrArg (fun z9 => z9.2.2.2.2.2.2.2.2.1) hX_1967).symm, (congrArg (fun z9 => z9.2.2.2.2.2.2.2.2.2) hX_1967).symm, hpost⟩
            · have b_1968 := z_fneF c_1946
              refine lv_aload_n hx hb dX12_readFeels_79 rfl (lv_at hl 0 rfl) ?_
              refine va_get (D := G) (ci := 12) (v := .int n_12) (C := RX12) (T := TX12) (N := 65) hx hb hts inT12 hown hK hP 4 rfl rfl 12 (by decide) (hts _ tw_1897) (fun _ h9 => h9) rfl dX12_readFeels_80 ?_
              refine lv_if_ne (tgt := 262) hx hb dX12_readFeels_83 (by decide) (fun h9 => (z_no (by have h8 := z_fneT h9; omega))) (fun c_1969 => ?_)
              have b_1970 := z_feqF c_1969
              refine lv_aload_n hx hb dX12_readFeels_86 rfl (lv_at hl 0 rfl) ?_
              refine va_get (D := G) (ci := 12) (v := .int v_1454) (C := RX12) (T := TX12) (N := 65) hx hb hts inT12 hown hK hP 4 rfl rfl 14 (by decide) (hts _ tw_1899) (fun _ h9 => h9) rfl dX12_readFeels_87 ?_
              refine lv_iconst (v := 2) hx hb dX12_readFeels_90 (by decide) ?_
              refine lv_icmp_eq (tgt := 98) hx hb dX12_readFeels_91 (by decide) (fun c_1971 => ?_) (fun c_1971 => ?_)
              · have b_1972 := z_feqT c_1971
                refine lv_aload_n hx hb dX12_readFeels_98 rfl (lv_at hl 0 rfl) ?_
                refine va_get (D := G) (ci := 12) (v := .int n_12) (C := RX12) (T := TX12) (N := 65) hx hb hts inT12 hown hK hP 4 rfl rfl 12 (by decide) (hts _ tw_1897) (fun _ h9 => h9) rfl dX12_readFeels_99 ?_
                refine lv_if_ne (tgt := 123) hx hb dX12_readFeels_102 (by decide) (fun h9 => (z_no (by have h8 := z_fneT h9; omega))) (fun c_1973 => ?_)
                have b_1974 := z_feqF c_1973
                refine lv_aload_n hx hb dX12_readFeels_105 rfl (lv_at hl 0 rfl) ?_
                refine va_get (D := G) (ci := 12) (v := .int v_1457) (C := RX12) (T := TX12) (N := 65) hx hb hts inT12 hown hK hP 4 rfl rfl 17 (by decide) (hts _ tw_1902) (fun _ h9 => h9) rfl dX12_readFeels_106 ?_
                refine lv_bipush (v := 16) hx hb dX12_readFeels_109 (by decide) ?_
                refine lv_icmp_le (tgt := 123) hx hb dX12_readFeels_111 (by decide) (fun c_1975 => ?_) (fun c_1975 => ?_)
                · have b_1976 := z_fleT c_1975
                  refine lv_aload_n hx hb dX12_readFeels_123 rfl (lv_at hl 0 rfl) ?_
                  refine va_get (D := G) (ci := 12) (v := .int n_12) (C := RX12) (T := TX12) (N := 65) hx hb hts inT12 hown hK hP 4 rfl rfl 12 (by decide) (hts _ tw_1897) (fun _ h9 => h9) rfl dX12_readFeels_124 ?_
                  refine lv_if_ne (tgt := 147) hx hb dX12_readFeels_127 (by decide) (fun h9 => (z_no (by have h8 := z_fneT h9; omega))) (fun c_1977 => ?_)
                  have b_1978 := z_feqF c_1977
                  refine lv_iload_n hx hb dX12_readFeels_130 rfl (lv_at hl 3 rfl) ?_
                  refine lv_iload_n hx hb dX12_readFeels_131 rfl (lv_at hl 2 rfl) ?_
                  refine lv_iload_n hx hb dX12_readFeels_132 rfl (lv_at hl 2 rfl) ?_
                  refine lv_imul hx hb dX12_readFeels_133 ?_
                  refine lv_topi (fun x_1979 he_x_1979 => ?_)
                  have hq_x_1979 := z_mulq he_x_1979 (by omega : x_45.toInt = 3) (rfl : x_45.toInt = _) (by omega) (by omega)
                  refine lv_icmp_ne (tgt := 147) hx hb dX12_readFeels_134 (by decide) (fun c_1980 => ?_) (fun c_1980 => ?_)
                  · have b_1981 := z_fneT c_1980
                    refine lv_iload_n hx hb dX12_readFeels_147 rfl (lv_at hl 3 rfl) ?_
                    refine lv_iload_n hx hb dX12_readFeels_148 rfl (lv_at hl 2 rfl) ?_
                    refine lv_irem hx hb dX12_readFeels_149 (z_nz (by omega)) ?_
                    refine lv_topi (fun x_1982 he_x_1982 => ?_)
                    have hq_x_1982 := z_remq he_x_1982 (rfl : v_1450.toInt = _) (by omega : x_45.toInt = 3) (by omega) (by decide)
                    refine lv_if_ne (tgt := 160) hx hb dX12_readFeels_150 (by decide) (fun c_1983 => ?_) (fun c_1983 => ?_)
                    · have b_1984 := z_fneT c_1983
                      refine lv_iload hx hb dX12_readFeels_160 (lv_at hl 4 rfl) ?_
                      refine lv_aload_n hx hb dX12_readFeels_162 rfl (lv_at hl 0 rfl) ?_
                      refine va_get (D := G) (ci := 12) (v := .int v_1457) (C := RX12) (T := TX12) (N := 65) hx hb hts inT12 hown hK hP 4 rfl rfl 17 (by decide) (hts _ tw_1902) (fun _ h9 => h9) rfl dX12_readFeels_163 ?_
                      refine lv_iadd hx hb dX12_readFeels_166 ?_
                      refine lv_topi (fun x_1985 he_x_1985 => ?_)
                      have hq_x_1985 := z_addq he_x_1985 (rfl : v_1451.toInt = _) (rfl : v_1457.toInt = _) (by omega) (by omega)
                      refine lv_istore (lv' := [(4, .int x_1985), (0, .ref h0), (1, .int r_14), (2, .int x_45), (3, .int v_1450), (5, .int v_1452)]) hx hb dX12_readFeels_167 hl (by decide) rfl (fun ls hl => ?_)
                      refine lv_aload_n hx hb dX12_readFeels_169 rfl (lv_at hl 1 rfl) ?_
                      refine va_get (D := G) (ci := 12) (v := .int n_12) (C := RX12) (T := TX12) (N := 65) hx hb hts inT12 hown hK hP 4 rfl rfl 12 (by decide) (hts _ tw_1897) (fun _ h9 => h9) rfl dX12_readFeels_170 ?_
                      refine lv_if_ne (tgt := 202) hx hb dX12_readFeels_173 (by decide) (fun h9 => (z_no (by have h8 := z_fneT h9; omega))) (fun c_1986 => ?_)
                      have b_1987 := z_feqF c_1986
                      refine lv_iload_n hx hb dX12_readFeels_176 rfl (lv_at hl 4 rfl) ?_
                      refine lv_iload_n hx hb dX12_readFeels_177 rfl (lv_at hl 3 rfl) ?_
                      refine lv_irem hx hb dX12_readFeels_178 (z_nz (by omega)) ?_
                      refine lv_topi (fun x_1988 he_x_1988 => ?_)
                      have hq_x_1988 := z_remq he_x_1988 (rfl : v_1450.toInt = _) (by omega : x_45.toInt = 3) (by omega) (by decide)
                      refine lv_iload_n hx hb dX12_readFeels_179 rfl (lv_at hl 3 rfl) ?_
                      refine lv_iconst (v := 1) hx hb dX12_readFeels_180 (by decide) ?_
                      refine lv_isub hx hb dX12_readFeels_181 ?_
                      refine lv_topi (fun x_1989 he_x_1989 => ?_)
                      have hq_x_1989 := z_subq he_x_1989 (rfl : x_45.toInt = _) hk_1 (by omega) (by omega)
                      refine lv_icmp_ne (tgt := 202) hx hb dX12_readFeels_182 (by decide) (fun c_1990 => ?_) (fun c_1990 => ?_)
                      · have b_1991 := z_fneT c_1990
                        refine lv_aload_n hx hb dX12_readFeels_202 rfl (lv_at hl 1 rfl) ?_
                        refine va_get (D := G) (ci := 12) (v := .int n_12) (C := RX12) (T := TX12) (N := 65) hx hb hts inT12 hown hK hP 4 rfl rfl 12 (by decide) (hts _ tw_1897) (fun _ h9 => h9) rfl dX12_readFeels_203 ?_
                        refine lv_if_le (tgt := 210) hx hb dX12_readFeels_206 (by decide) (fun c_1992 => ?_) (fun h9 => (z_no (by have h8 := z_fgtF h9; omega)))
                        have b_1993 := z_fleT c_1992
                        have hn_k_1994 : 0 ≤ v_1450.toInt ∧ v_1450.toInt ≤ 8 := by omega
                        refine lv_aload_n hx hb dX12_readFeels_210 rfl (lv_at hl 1 rfl) ?_
                        refine va_get (D := G) (ci := 12) (v := .ref a_c) (C := RX12) (T := TX12) (N := 65) hx hb hts inT12 hown hK hP 4 rfl rfl 20 (by decide) (hts _ tw_1905) (fun _ h9 => h9) rfl dX12_readFeels_211 ?_
                        refine lv_sipush (v := 1477) hx hb dX12_readFeels_214 (by decide) ?_
                        refine lv_bipush (v := 16) hx hb dX12_readFeels_217 (by decide) ?_
                        refine lv_iload_n hx hb dX12_readFeels_219 rfl (lv_at hl 2 rfl) ?_
                        refine lv_imul hx hb dX12_readFeels_220 ?_
                        refine lv_topi (fun x_1995 he_x_1995 => ?_)
                        have hq_x_1995 := z_mulq he_x_1995 hk_16 (rfl : r_14.toInt = _) (by omega) (by omega)
                        refine lv_iadd hx hb dX12_readFeels_221 ?_
                        refine lv_topi (fun x_1996 he_x_1996 => ?_)
                        have hq_x_1996 := z_addq he_x_1996 hk_1477 (rfl : x_1995.toInt = _) (by omega) (by omega)
                        refine lv_iconst (v := 4) hx hb dX12_readFeels_222 (by decide) ?_
                        refine lv_iload_n hx hb dX12_readFeels_223 rfl (lv_at hl 4 rfl) ?_
                        refine lv_iload_n hx hb dX12_readFeels_224 rfl (lv_at hl 3 rfl) ?_
                        refine lv_idiv hx hb dX12_readFeels_225 (z_nz (by omega)) ?_
                        refine lv_topi (fun x_1997 he_x_1997 => ?_)
                        have hq_x_1997 := z_divq he_x_1997 (rfl : v_1450.toInt = _) (by omega : x_45.toInt = 3) (by omega) (by decide)
                        refine lv_imul hx hb dX12_readFeels_226 ?_
                        refine lv_topi (fun x_1998 he_x_1998 => ?_)
                        have hq_x_1998 := z_mulq he_x_1998 hk_4 (rfl : x_1997.toInt = _) (by omega) (by omega)
                        refine lv_iadd hx hb dX12_readFeels_227 ?_
                        refine lv_topi (fun x_1999 he_x_1999 => ?_)
                        have hq_x_1999 := z_addq he_x_1999 (rfl : x_1996.toInt = _) (rfl : x_1998.toInt = _) (by omega) (by omega)
                        refine lv_iload_n hx hb dX12_readFeels_228 rfl (lv_at hl 4 rfl) ?_
                        refine lv_iload_n hx hb dX12_readFeels_229 rfl (lv_at hl 3 rfl) ?_
                        refine lv_irem hx hb dX12_readFeels_230 (z_nz (by omega)) ?_
                        refine lv_topi (fun x_2000 he_x_2000 => ?_)
                        have hq_x_2000 := z_remq he_x_2000 (rfl : v_1450.toInt = _) (by omega : x_45.toInt = 3) (by omega) (by decide)
                        refine lv_iadd hx hb dX12_readFeels_231 ?_
                        refine lv_topi (fun x_2001 he_x_2001 => ?_)
                        have hq_x_2001 := z_addq he_x_2001 (rfl : x_1999.toInt = _) (rfl : x_2000.toInt = _) (by omega) (by omega)
                        refine lv_aload_n hx hb dX12_readFeels_232 rfl (lv_at hl 1 rfl) ?_
                        refine va_get (D := G) (ci := 12) (v := .int v_1457) (C := RX12) (T := TX12) (N := 65) hx hb hts inT12 hown hK hP 4 rfl rfl 17 (by decide) (hts _ tw_1902) (fun _ h9 => h9) rfl dX12_readFeels_233 ?_
                        refine z_iast hx hb hK hP hD hS 2 0 rfl rfl (z_inN (by omega) (by omega)) dX12_readFeels_236 (fun g_2002 hg_g_2002 H locs hP hD hS => ?_)
                        have hC_g_2002 := z_ctU hC_g_1453 hg_g_2002 (a := 1477) (b := 1519) (lo := 0) (hi := 16) (by decide +kernel) (by decide +kernel) (by omega) (by omega) (by omega)
                        have hw_g_2002_1460 := z_cwo hg_g_2002 (k := 1460) (by omega) (by omega)
                        have hs_2003 : zNw g_2002 g_isOn := (zNw_fr hs_1690 hg_g_2002 (a := 1477) (b := 1519) (by decide +kernel) (by omega) (by omega))
                        obtain ⟨x_2004, he_x_2004⟩ : ∃ z : Int32, z = v_1450 + 1 := ⟨_, rfl⟩
                        have hq_x_2004 := z_addq he_x_2004 (rfl : v_1450.toInt = _) hk_1 (by omega) (by omega)
                        refine lv_iinc (v := x_2004) (lv' := [(3, .int x_2004), (4, .int x_1985), (0, .ref h0), (1, .int r_14), (2, .int x_45), (5, .int v_1452)]) hx hb dX12_readFeels_237 hl (k := 4) rfl ((z_ofi (by decide +kernel)).trans he_x_2004.symm) (by decide) rfl (fun ls hl => ?_)
                        refine lv_aload_n hx hb dX12_readFeels_240 rfl (lv_at hl 2 rfl) ?_
                        refine z_callVv (As := []) (rest := []) (wr := [(a_hasFeels, .inl (cA.1 3, 3, .inl g_32)), (a_isOn, .inl (cA.1 3, 10, .inl g_isOn)), (a_c, .inl (cA.1 0, 1825, .inl g_2002)), (a_words, .inl (cA.1 1, 105, .inr (.inl g_words)))]) ⟨hx, hb, hml, hown, hts⟩ hK hE hT hP hD hS hA (r_next2 l G cA h0 m_status m_thrown m_above m_under a_traySort a_trayMany a_numbers a_tape m_taped m_textEnd m_faultKind m_faultAt n_12 n_13 v_1454 v_1455 v_1456 v_1457 v_1458 v_1459 a_c a_words m_markMany a_there a_tried a_best a_found m_thereMany m_foundMany m_orderHow m_orderRing m_orderMany m_hasBest m_bestTop m_bestBy a_weights a_shared m_random m_truePlace m_trueWay m_seconds m_done m_feelings m_tries m_leftOver m_playDoor m_playRing m_isOpen m_isOver m_wasTried m_hasPlayed a_feltNow a_last a_kept m_hasSeconds m_hasTurned m_hasRound a_hasFeels a_isOn m_firstAct m_meanTop m_meanBy a_order m_rowMany m_newSteps g_tape hr_m_textEnd hr_v_1455 hr_v_1456 hr_v_1454 hr_v_1457 hr_v_1458) lk_RX12_184 ⟨rfl, rfl⟩ ⟨Nat.le_of_ble_eq_true rfl, Nat.le_of_ble_eq_true rfl⟩ 12 rfl rfl rfl [4, 5] [0, 1, 2, 3] rfl rfl (by decide) rfl hl.1 rfl (lv_room (Nat.le_of_ble_eq_true rfl)) dX12_readFeels_241 ⟨Nat.le_of_ble_eq_true rfl, Nat.le_of_ble_eq_true rfl⟩ (fun u_2012 H locs hw hP hD hS => ?_)
                        obtain ⟨n_2005, n_2006, n_2007, n_2008, n_2009, n_2010⟩ := u_2012
                        try dsimp only at hw
                        obtain ⟨he_n_2005, he_n_2006, he_n_2007, he_n_2008, he_n_2009, he_n_2010, hw⟩ := hw
                        obtain ⟨hr_n_2005, hr_n_2006, hr_n_2007, hr_n_2008, hr_n_2009, hf_2014, hf_2015⟩ := hw
                        refine lv_aload_n hx hb dX12_readFeels_244 rfl (lv_at hl 2 rfl) ?_
                        refine va_get (D := G) (ci := 12) (v := .int n_2005) (C := RX12) (T := TX12) (N := 65) hx hb hts inT12 hown hK hP 4 rfl rfl 14 (by decide) (hts _ tw_1899) (fun _ h9 => h9) rfl dX12_readFeels_245 ?_
                        refine lv_iconst (v := 2) hx hb dX12_readFeels_248 (by decide) ?_
                        refine lv_icmp_ne (tgt := 256) hx hb dX12_readFeels_249 (by decide) (fun c_2016 => ?_) (fun c_2016 => ?_)
                        · have b_2017 := z_fneT c_2016
                          refine lv_iconst (v := 0) hx hb dX12_readFeels_256 (by decide) ?_
                          refine lv_istore (lv' := [(5, .int 0), (3, .int x_2004), (4, .int x_1985), (0, .ref h0), (1, .int r_14), (2, .int x_45)]) hx hb dX12_readFeels_257 hl (by decide) rfl (fun ls hl => ?_)
                          refine lv_goto (tgt := 74) hx hb dX12_readFeels_259 (by decide) ?_
                          have hX_2018 : F_r_readFeels m_textEnd m_bad m_badAt m_behind m_number m_letters m_word g_tape g_c g_words g_hasFeels = F_r_readFeels_L74b m_textEnd g_tape r_14 n_12 n_13 g_32 x_45 n_L74b x_2004 x_1985 (0 : Int32) g_2002 n_2005 n_2006 n_2007 n_2008 n_2009 n_2010 := by
                            refine hF_L74b.trans ?_
                            refine (F_r_readFeels_L74b_s ..).trans ?_
                            refine (if_neg c_1946).trans ?_
                            refine (if_pos c_1971).trans ?_
                            refine (if_pos c_1975).trans ?_
                            try (extract_lets -merge -useContext +onlyGivenNames y9; have e9 : x_1979 = y9 := (by first | exact he_x_1979 | exact he_x_1979.symm); clear_value y9; subst e9)
                            refine (if_neg c_1980).trans ?_
                            try (extract_lets -merge -useContext +onlyGivenNames y9; have e9 : x_1982 = y9 := (by first | exact he_x_1982 | exact he_x_1982.symm); clear_value y9; subst e9)
                            refine (if_neg c_1983).trans ?_
                            try (extract_lets -merge -useContext +onlyGivenNames y9; have e9 : x_1985 = y9 := (by first | exact he_x_1985 | exact he_x_1985.symm); clear_value y9; subst e9)
                            try (extract_lets -merge -useContext +onlyGivenNames y9; have e9 : x_1988 = y9 := (by first | exact he_x_1988 | exact he_x_1988.symm); clear_value y9; subst e9)
                            try (extract_lets -merge -useContext +onlyGivenNames y9; have e9 : x_1989 = y9 := (by first | exact he_x_1989 | exact he_x_1989.symm); clear_value y9; subst e9)
                            refine (if_neg c_1990).trans ?_
                            try (extract_lets -merge -useContext +onlyGivenNames y9; have e9 : x_1995 = y9 := (by first | exact he_x_1995 | exact he_x_1995.symm); clear_value y9; subst e9)
                            try (extract_lets -merge -useContext +onlyGivenNames y9; have e9 : x_1996 = y9 := (by first | exact he_x_1996 | exact he_x_1996.symm); clear_value y9; subst e9)
                            try (extract_lets -merge -useContext +onlyGivenNames y9; have e9 : x_1997 = y9 := (by first | exact he_x_1997 | exact he_x_1997.symm); clear_value y9; subst e9)
                            try (extract_lets -merge -useContext +onlyGivenNames y9; have e9 : x_1998 = y9 := (by first | exact he_x_1998 | exact he_x_1998.symm); clear_value y9; subst e9)
                            try (extract_lets -merge -useContext +onlyGivenNames y9; have e9 : x_1999 = y9 := (by first | exact he_x_1999 | exact he_x_1999.symm); clear_value y9; subst e9)
                            try (extract_lets -merge -useContext +onlyGivenNames y9; have e9 : x_2000 = y9 := (by first | exact he_x_2000 | exact he_x_2000.symm); clear_value y9; subst e9)
                            try (extract_lets -merge -useContext +onlyGivenNames y9; have e9 : x_2001 = y9 := (by first | exact he_x_2001 | exact he_x_2001.symm); clear_value y9; subst e9)
                            try (extract_lets -merge -useContext +onlyGivenNames y9; have e9 : g_2002 = y9 := (by first | exact hg_g_2002 | exact hg_g_2002.symm); clear_value y9; subst e9)
                            try (extract_lets -merge -useContext +onlyGivenNames y9; have e9 : x_2004 = y9 := (by first | exact he_x_2004 | exact he_x_2004.symm); clear_value y9; subst e9)
                            extract_lets -merge -useContext +onlyGivenNames w9 y20_0 y20_1 y20_2 y20_3 y20_4 y20_5; have e9 : (n_2005, n_2006, n_2007, n_2008, n_2009, n_2010) = w9 := ((z_tS he_n_2005 (z_tS he_n_2006 (z_tS he_n_2007 (z_tS he_n_2008 (z_tS he_n_2009 he_n_2010.symm)))))).symm; clear_value w9; subst e9
                            refine (if_neg c_2016).trans ?_
                            exact rfl
                          exact ih_1945 x_2004 x_1985 0 g_2002 n_2005 n_2006 n_2007 n_2008 n_2009 n_2010 H locs ls (by omega) (by omega) (by omega) (by decide +kernel) hC_g_2002 hr_n_2005 hr_n_2006 hr_n_2007 hr_n_2008 hr_n_2009 hs_2003 (by rw [hq_x_2004]; exact zFl_step hi_1691 hg_g_2002 (by omega) (by omega) (by omega) (r := x_1997.toInt) (c := x_2000.toInt) (by rw [h_46]; omega) (by omega) (by omega) (by omega) (by omega) (by omega) (by omega) (by omega)) (by omega) (by omega) (by omega) (by omega) (by omega) hX_2018 hP hD hS (lv_sub hl [3, 4, 5, 1, 2, 0] rfl)
                        · have b_2019 := z_feqF c_2016
                          refine lv_iconst (v := 1) hx hb dX12_readFeels_252 (by decide) ?_
                          refine lv_goto (tgt := 257) hx hb dX12_readFeels_253 (by decide) ?_
                          refine lv_istore (lv' := [(5, .int 1), (3, .int x_2004), (4, .int x_1985), (0, .ref h0), (1, .int r_14), (2, .int x_45)]) hx hb dX12_readFeels_257 hl (by decide) rfl (fun ls hl => ?_)
                          refine lv_goto (tgt := 74) hx hb dX12_readFeels_259 (by decide) ?_
                          have hX_2020 : F_r_readFeels m_textEnd m_bad m_badAt m_behind m_number m_letters m_word g_tape g_c g_words g_hasFeels = F_r_readFeels_L74b m_textEnd g_tape r_14 n_12 n_13 g_32 x_45 n_L74b x_2004 x_1985 (1 : Int32) g_2002 n_2005 n_2006 n_2007 n_2008 n_2009 n_2010 := by
                            refine hF_L74b.trans ?_
                            refine (F_r_readFeels_L74b_s ..).trans ?_
                            refine (if_neg c_1946).trans ?_
                            refine (if_pos c_1971).trans ?_
                            refine (if_pos c_1975).trans ?_
                            try (extract_lets -merge -useContext +onlyGivenNames y9; have e9 : x_1979 = y9 := (by first | exact he_x_1979 | exact he_x_1979.symm); clear_value y9; subst e9)
                            refine (if_neg c_1980).trans ?_
                            try (extract_lets -merge -useContext +onlyGivenNames y9; have e9 : x_1982 = y9 := (by first | exact he_x_1982 | exact he_x_1982.symm); clear_value y9; subst e9)
                            refine (if_neg c_1983).trans ?_
                            try (extract_lets -merge -useContext +onlyGivenNames y9; have e9 : x_1985 = y9 := (by first | exact he_x_1985 | exact he_x_1985.symm); clear_value y9; subst e9)
                            try (extract_lets -merge -useContext +onlyGivenNames y9; have e9 : x_1988 = y9 := (by first | exact he_x_1988 | exact he_x_1988.symm); clear_value y9; subst e9)
                            try (extract_lets -merge -useContext +onlyGivenNames y9; have e9 : x_1989 = y9 := (by first | exact he_x_1989 | exact he_x_1989.symm); clear_value y9; subst e9)
                            refine (if_neg c_1990).trans ?_
                            try (extract_lets -merge -useContext +onlyGivenNames y9; have e9 : x_1995 = y9 := (by first | exact he_x_1995 | exact he_x_1995.symm); clear_value y9; subst e9)
                            try (extract_lets -merge -useContext +onlyGivenNames y9; have e9 : x_1996 = y9 := (by first | exact he_x_1996 | exact he_x_1996.symm); clear_value y9; subst e9)
                            try (extract_lets -merge -useContext +onlyGivenNames y9; have e9 : x_1997 = y9 := (by first | exact he_x_1997 | exact he_x_1997.symm); clear_value y9; subst e9)
                            try (extract_lets -merge -useContext +onlyGivenNames y9; have e9 : x_1998 = y9 := (by first | exact he_x_1998 | exact he_x_1998.symm); clear_value y9; subst e9)
                            try (extract_lets -merge -useContext +onlyGivenNames y9; have e9 : x_1999 = y9 := (by first | exact he_x_1999 | exact he_x_1999.symm); clear_value y9; subst e9)
                            try (extract_lets -merge -useContext +onlyGivenNames y9; have e9 : x_2000 = y9 := (by first | exact he_x_2000 | exact he_x_2000.symm); clear_value y9; subst e9)
                            try (extract_lets -merge -useContext +onlyGivenNames y9; have e9 : x_2001 = y9 := (by first | exact he_x_2001 | exact he_x_2001.symm); clear_value y9; subst e9)
                            try (extract_lets -merge -useContext +onlyGivenNames y9; have e9 : g_2002 = y9 := (by first | exact hg_g_2002 | exact hg_g_2002.symm); clear_value y9; subst e9)
                            try (extract_lets -merge -useContext +onlyGivenNames y9; have e9 : x_2004 = y9 := (by first | exact he_x_2004 | exact he_x_2004.symm); clear_value y9; subst e9)
                            extract_lets -merge -useContext +onlyGivenNames w9 y20_0 y20_1 y20_2 y20_3 y20_4 y20_5; have e9 : (n_2005, n_2006, n_2007, n_2008, n_2009, n_2010) = w9 := ((z_tS he_n_2005 (z_tS he_n_2006 (z_tS he_n_2007 (z_tS he_n_2008 (z_tS he_n_2009 he_n_2010.symm)))))).symm; clear_value w9; subst e9
                            refine (if_pos c_2016).trans ?_
                            exact rfl
                          exact ih_1945 x_2004 x_1985 1 g_2002 n_2005 n_2006 n_2007 n_2008 n_2009 n_2010 H locs ls (by omega) (by omega) (by omega) (by decide +kernel) hC_g_2002 hr_n_2005 hr_n_2006 hr_n_2007 hr_n_2008 hr_n_2009 hs_2003 (by rw [hq_x_2004]; exact zFl_step hi_1691 hg_g_2002 (by omega) (by omega) (by omega) (r := x_1997.toInt) (c := x_2000.toInt) (by rw [h_46]; omega) (by omega) (by omega) (by omega) (by omega) (by omega) (by omega) (by omega)) (by omega) (by omega) (by omega) (by omega) (by omega) hX_2020 hP hD hS (lv_sub hl [3, 4, 5, 1, 2, 0] rfl)
                      · have b_2021 := z_feqF c_1990
                        refine lv_iload hx hb dX12_readFeels_185 (lv_at hl 0 rfl) ?_
                        refine lv_bipush (v := 16) hx hb dX12_readFeels_187 (by decide) ?_
                        refine lv_icmp_eq (tgt := 202) hx hb dX12_readFeels_189 (by decide) (fun c_2022 => ?_) (fun c_2022 => ?_)
                        · have b_2023 := z_feqT c_2022
                          refine lv_aload_n hx hb dX12_readFeels_202 rfl (lv_at hl 1 rfl) ?_
                          refine va_get (D := G) (ci := 12) (v := .int n_12) (C := RX12) (T := TX12) (N := 65) hx hb hts inT12 hown hK hP 4 rfl rfl 12 (by decide) (hts _ tw_1897) (fun _ h9 => h9) rfl dX12_readFeels_203 ?_
                          refine lv_if_le (tgt := 210) hx hb dX12_readFeels_206 (by decide) (fun c_2024 => ?_) (fun h9 => (z_no (by have h8 := z_fgtF h9; omega)))
                          have b_2025 := z_fleT c_2024
                          have hn_k_2026 : 0 ≤ v_1450.toInt ∧ v_1450.toInt ≤ 8 := by omega
                          refine lv_aload_n hx hb dX12_readFeels_210 rfl (lv_at hl 1 rfl) ?_
                          refine va_get (D := G) (ci := 12) (v := .ref a_c) (C := RX12) (T := TX12) (N := 65) hx hb hts inT12 hown hK hP 4 rfl rfl 20 (by decide) (hts _ tw_1905) (fun _ h9 => h9) rfl dX12_readFeels_211 ?_
                          refine lv_sipush (v := 1477) hx hb dX12_readFeels_214 (by decide) ?_
                          refine lv_bipush (v := 16) hx hb dX12_readFeels_217 (by decide) ?_
                          refine lv_iload_n hx hb dX12_readFeels_219 rfl (lv_at hl 2 rfl) ?_
                          refine lv_imul hx hb dX12_readFeels_220 ?_
                          refine lv_topi (fun x_2027 he_x_2027 => ?_)
                          have hq_x_2027 := z_mulq he_x_2027 hk_16 (rfl : r_14.toInt = _) (by omega) (by omega)
                          refine lv_iadd hx hb dX12_readFeels_221 ?_
                          refine lv_topi (fun x_2028 he_x_2028 => ?_)
                          have hq_x_2028 := z_addq he_x_2028 hk_1477 (rfl : x_2027.toInt = _) (by omega) (by omega)
                          refine lv_iconst (v := 4) hx hb dX12_readFeels_222 (by decide) ?_
                          refine lv_iload_n hx hb dX12_readFeels_223 rfl (lv_at hl 4 rfl) ?_
                          refine lv_iload_n hx hb dX12_readFeels_224 rfl (lv_at hl 3 rfl) ?_
                          refine lv_idiv hx hb dX12_readFeels_225 (z_nz (by omega)) ?_
                          refine lv_topi (fun x_2029 he_x_2029 => ?_)
                          have hq_x_2029 := z_divq he_x_2029 (rfl : v_1450.toInt = _) (by omega : x_45.toInt = 3) (by omega) (by decide)
                          refine lv_imul hx hb dX12_readFeels_226 ?_
                          refine lv_topi (fun x_2030 he_x_2030 => ?_)
                          have hq_x_2030 := z_mulq he_x_2030 hk_4 (rfl : x_2029.toInt = _) (by omega) (by omega)
                          refine lv_iadd hx hb dX12_readFeels_227 ?_
                          refine lv_topi (fun x_2031 he_x_2031 => ?_)
                          have hq_x_2031 := z_addq he_x_2031 (rfl : x_2028.toInt = _) (rfl : x_2030.toInt = _) (by omega) (by omega)
                          refine lv_iload_n hx hb dX12_readFeels_228 rfl (lv_at hl 4 rfl) ?_
                          refine lv_iload_n hx hb dX12_readFeels_229 rfl (lv_at hl 3 rfl) ?_
                          refine lv_irem hx hb dX12_readFeels_230 (z_nz (by omega)) ?_
                          refine lv_topi (fun x_2032 he_x_2032 => ?_)
                          have hq_x_2032 := z_remq he_x_2032 (rfl : v_1450.toInt = _) (by omega : x_45.toInt = 3) (by omega) (by decide)
                          refine lv_iadd hx hb dX12_readFeels_231 ?_
                          refine lv_topi (fun x_2033 he_x_2033 => ?_)
                          have hq_x_2033 := z_addq he_x_2033 (rfl : x_2031.toInt = _) (rfl : x_2032.toInt = _) (by omega) (by omega)
                          refine lv_aload_n hx hb dX12_readFeels_232 rfl (lv_at hl 1 rfl) ?_
                          refine va_get (D := G) (ci := 12) (v := .int v_1457) (C := RX12) (T := TX12) (N := 65) hx hb hts inT12 hown hK hP 4 rfl rfl 17 (by decide) (hts _ tw_1902) (fun _ h9 => h9) rfl dX12_readFeels_233 ?_
                          refine z_iast hx hb hK hP hD hS 2 0 rfl rfl (z_inN (by omega) (by omega)) dX12_readFeels_236 (fun g_2034 hg_g_2034 H locs hP hD hS => ?_)
                          have hC_g_2034 := z_ctU hC_g_1453 hg_g_2034 (a := 1477) (b := 1519) (lo := 0) (hi := 16) (by decide +kernel) (by decide +kernel) (by omega) (by omega) (by omega)
                          have hw_g_2034_1460 := z_cwo hg_g_2034 (k := 1460) (by omega) (by omega)
                          have hs_2035 : zNw g_2034 g_isOn := (zNw_fr hs_1690 hg_g_2034 (a := 1477) (b := 1519) (by decide +kernel) (by omega) (by omega))
                          obtain ⟨x_2036, he_x_2036⟩ : ∃ z : Int32, z = v_1450 + 1 := ⟨_, rfl⟩
                          have hq_x_2036 := z_addq he_x_2036 (rfl : v_1450.toInt = _) hk_1 (by omega) (by omega)
                          refine lv_iinc (v := x_2036) (lv' := [(3, .int x_2036), (4, .int x_1985), (0, .ref h0), (1, .int r_14), (2, .int x_45), (5, .int v_1452)]) hx hb dX12_readFeels_237 hl (k := 4) rfl ((z_ofi (by decide +kernel)).trans he_x_2036.symm) (by decide) rfl (fun ls hl => ?_)
                          refine lv_aload_n hx hb dX12_readFeels_240 rfl (lv_at hl 2 rfl) ?_
                          refine z_callVv (As := []) (rest := []) (wr := [(a_hasFeels, .inl (cA.1 3, 3, .inl g_32)), (a_isOn, .inl (cA.1 3, 10, .inl g_isOn)), (a_c, .inl (cA.1 0, 1825, .inl g_2034)), (a_words, .inl (cA.1 1, 105, .inr (.inl g_words)))]) ⟨hx, hb, hml, hown, hts⟩ hK hE hT hP hD hS hA (r_next2 l G cA h0 m_status m_thrown m_above m_under a_traySort a_trayMany a_numbers a_tape m_taped m_textEnd m_faultKind m_faultAt n_12 n_13 v_1454 v_1455 v_1456 v_1457 v_1458 v_1459 a_c a_words m_markMany a_there a_tried a_best a_found m_thereMany m_foundMany m_orderHow m_orderRing m_orderMany m_hasBest m_bestTop m_bestBy a_weights a_shared m_random m_truePlace m_trueWay m_seconds m_done m_feelings m_tries m_leftOver m_playDoor m_playRing m_isOpen m_isOver m_wasTried m_hasPlayed a_feltNow a_last a_kept m_hasSeconds m_hasTurned m_hasRound a_hasFeels a_isOn m_firstAct m_meanTop m_meanBy a_order m_rowMany m_newSteps g_tape hr_m_textEnd hr_v_1455 hr_v_1456 hr_v_1454 hr_v_1457 hr_v_1458) lk_RX12_184 ⟨rfl, rfl⟩ ⟨Nat.le_of_ble_eq_true rfl, Nat.le_of_ble_eq_true rfl⟩ 12 rfl rfl rfl [4, 5] [0, 1, 2, 3] rfl rfl (by decide) rfl hl.1 rfl (lv_room (Nat.le_of_ble_eq_true rfl)) dX12_readFeels_241 ⟨Nat.le_of_ble_eq_true rfl, Nat.le_of_ble_eq_true rfl⟩ (fun u_2044 H locs hw hP hD hS => ?_)
                          obtain ⟨n_2037, n_2038, n_2039, n_2040, n_2041, n_2042⟩ := u_2044
                          try dsimp only at hw
                          obtain ⟨he_n_2037, he_n_2038, he_n_2039, he_n_2040, he_n_2041, he_n_2042, hw⟩ := hw
                          obtain ⟨hr_n_2037, hr_n_2038, hr_n_2039, hr_n_2040, hr_n_2041, hf_2046, hf_2047⟩ := hw
                          refine lv_aload_n hx hb dX12_readFeels_244 rfl (lv_at hl 2 rfl) ?_
                          refine va_get (D := G) (ci := 12) (v := .int n_2037) (C := RX12) (T := TX12) (N := 65) hx hb hts inT12 hown hK hP 4 rfl rfl 14 (by decide) (hts _ tw_1899) (fun _ h9 => h9) rfl dX12_readFeels_245 ?_
                          refine lv_iconst (v := 2) hx hb dX12_readFeels_248 (by decide) ?_
                          refine lv_icmp_ne (tgt := 256) hx hb dX12_readFeels_249 (by decide) (fun c_2048 => ?_) (fun c_2048 => ?_)
                          · have b_2049 := z_fneT c_2048
                            refine lv_iconst (v := 0) hx hb dX12_readFeels_256 (by decide) ?_
                            refine lv_istore (lv' := [(5, .int 0), (3, .int x_2036), (4, .int x_1985), (0, .ref h0), (1, .int r_14), (2, .int x_45)]) hx hb dX12_readFeels_257 hl (by decide) rfl (fun ls hl => ?_)
                            refine lv_goto (tgt := 74) hx hb dX12_readFeels_259 (by decide) ?_
                            have hX_2050 : F_r_readFeels m_textEnd m_bad m_badAt m_behind m_number m_letters m_word g_tape g_c g_words g_hasFeels = F_r_readFeels_L74b m_textEnd g_tape r_14 n_12 n_13 g_32 x_45 n_L74b x_2036 x_1985 (0 : Int32) g_2034 n_2037 n_2038 n_2039 n_2040 n_2041 n_2042 := by
                              refine hF_L74b.trans ?_
                              refine (F_r_readFeels_L74b_s ..).trans ?_
                              refine (if_neg c_1946).trans ?_
                              refine (if_pos c_1971).trans ?_
                              refine (if_pos c_1975).trans ?_
                              try (extract_lets -merge -useContext +onlyGivenNames y9; have e9 : x_1979 = y9 := (by first | exact he_x_1979 | exact he_x_1979.symm); clear_value y9; subst e9)
                              refine (if_neg c_1980).trans ?_
                              try (extract_lets -merge -useContext +onlyGivenNames y9; have e9 : x_1982 = y9 := (by first | exact he_x_1982 | exact he_x_1982.symm); clear_value y9; subst e9)
                              refine (if_neg c_1983).trans ?_
                              try (extract_lets -merge -useContext +onlyGivenNames y9; have e9 : x_1985 = y9 := (by first | exact he_x_1985 | exact he_x_1985.symm); clear_value y9; subst e9)
                              try (extract_lets -merge -useContext +onlyGivenNames y9; have e9 : x_1988 = y9 := (by first | exact he_x_1988 | exact he_x_1988.symm); clear_value y9; subst e9)
                              try (extract_lets -merge -useContext +onlyGivenNames y9; have e9 : x_1989 = y9 := (by first | exact he_x_1989 | exact he_x_1989.symm); clear_value y9; subst e9)
                              refine (if_pos c_1990).trans ?_
                              refine (if_pos c_2022).trans ?_
                              try (extract_lets -merge -useContext +onlyGivenNames y9; have e9 : x_2027 = y9 := (by first | exact he_x_2027 | exact he_x_2027.symm); clear_value y9; subst e9)
                              try (extract_lets -merge -useContext +onlyGivenNames y9; have e9 : x_2028 = y9 := (by first | exact he_x_2028 | exact he_x_2028.symm); clear_value y9; subst e9)
                              try (extract_lets -merge -useContext +onlyGivenNames y9; have e9 : x_2029 = y9 := (by first | exact he_x_2029 | exact he_x_2029.symm); clear_value y9; subst e9)
                              try (extract_lets -merge -useContext +onlyGivenNames y9; have e9 : x_2030 = y9 := (by first | exact he_x_2030 | exact he_x_2030.symm); clear_value y9; subst e9)
                              try (extract_lets -merge -useContext +onlyGivenNames y9; have e9 : x_2031 = y9 := (by first | exact he_x_2031 | exact he_x_2031.symm); clear_value y9; subst e9)
                              try (extract_lets -merge -useContext +onlyGivenNames y9; have e9 : x_2032 = y9 := (by first | exact he_x_2032 | exact he_x_2032.symm); clear_value y9; subst e9)
                              try (extract_lets -merge -useContext +onlyGivenNames y9; have e9 : x_2033 = y9 := (by first | exact he_x_2033 | exact he_x_2033.symm); clear_value y9; subst e9)
                              try (extract_lets -merge -useContext +onlyGivenNames y9; have e9 : g_2034 = y9 := (by first | exact hg_g_2034 | exact hg_g_2034.symm); clear_value y9; subst e9)
                              try (extract_lets -merge -useContext +onlyGivenNames y9; have e9 : x_2036 = y9 := (by first | exact he_x_2036 | exact he_x_2036.symm); clear_value y9; subst e9)
                              extract_lets -merge -useContext +onlyGivenNames w9 y21_0 y21_1 y21_2 y21_3 y21_4 y21_5; have e9 : (n_2037, n_2038, n_2039, n_2040, n_2041, n_2042) = w9 := ((z_tS he_n_2037 (z_tS he_n_2038 (z_tS he_n_2039 (z_tS he_n_2040 (z_tS he_n_2041 he_n_2042.symm)))))).symm; clear_value w9; subst e9
                              refine (if_neg c_2048).trans ?_
                              exact rfl
                            exact ih_1945 x_2036 x_1985 0 g_2034 n_2037 n_2038 n_2039 n_2040 n_2041 n_2042 H locs ls (by omega) (by omega) (by omega) (by decide +kernel) hC_g_2034 hr_n_2037 hr_n_2038 hr_n_2039 hr_n_2040 hr_n_2041 hs_2035 (by rw [hq_x_2036]; exact zFl_step hi_1691 hg_g_2034 (by omega) (by omega) (by omega) (r := x_2029.toInt) (c := x_2032.toInt) (by rw [h_46]; omega) (by omega) (by omega) (by omega) (by omega) (by omega) (by omega) (by omega)) (by omega) (by omega) (by omega) (by omega) (by omega) hX_2050 hP hD hS (lv_sub hl [3, 4, 5, 1, 2, 0] rfl)
                          · have b_2051 := z_feqF c_2048
                            refine lv_iconst (v := 1) hx hb dX12_readFeels_252 (by decide) ?_
                            refine lv_goto (tgt := 257) hx hb dX12_readFeels_253 (by decide) ?_
                            refine lv_istore (lv' := [(5, .int 1), (3, .int x_2036), (4, .int x_1985), (0, .ref h0), (1, .int r_14), (2, .int x_45)]) hx hb dX12_readFeels_257 hl (by decide) rfl (fun ls hl => ?_)
                            refine lv_goto (tgt := 74) hx hb dX12_readFeels_259 (by decide) ?_
                            have hX_2052 : F_r_readFeels m_textEnd m_bad m_badAt m_behind m_number m_letters m_word g_tape g_c g_words g_hasFeels = F_r_readFeels_L74b m_textEnd g_tape r_14 n_12 n_13 g_32 x_45 n_L74b x_2036 x_1985 (1 : Int32) g_2034 n_2037 n_2038 n_2039 n_2040 n_2041 n_2042 := by
                              refine hF_L74b.trans ?_
                              refine (F_r_readFeels_L74b_s ..).trans ?_
                              refine (if_neg c_1946).trans ?_
                              refine (if_pos c_1971).trans ?_
                              refine (if_pos c_1975).trans ?_
                              try (extract_lets -merge -useContext +onlyGivenNames y9; have e9 : x_1979 = y9 := (by first | exact he_x_1979 | exact he_x_1979.symm); clear_value y9; subst e9)
                              refine (if_neg c_1980).trans ?_
                              try (extract_lets -merge -useContext +onlyGivenNames y9; have e9 : x_1982 = y9 := (by first | exact he_x_1982 | exact he_x_1982.symm); clear_value y9; subst e9)
                              refine (if_neg c_1983).trans ?_
                              try (extract_lets -merge -useContext +onlyGivenNames y9; have e9 : x_1985 = y9 := (by first | exact he_x_1985 | exact he_x_1985.symm); clear_value y9; subst e9)
                              try (extract_lets -merge -useContext +onlyGivenNames y9; have e9 : x_1988 = y9 := (by first | exact he_x_1988 | exact he_x_1988.symm); clear_value y9; subst e9)
                              try (extract_lets -merge -useContext +onlyGivenNames y9; have e9 : x_1989 = y9 := (by first | exact he_x_1989 | exact he_x_1989.symm); clear_value y9; subst e9)
                              refine (if_pos c_1990).trans ?_
                              refine (if_pos c_2022).trans ?_
                              try (extract_lets -merge -useContext +onlyGivenNames y9; have e9 : x_2027 = y9 := (by first | exact he_x_2027 | exact he_x_2027.symm); clear_value y9; subst e9)
                              try (extract_lets -merge -useContext +onlyGivenNames y9; have e9 : x_2028 = y9 := (by first | exact he_x_2028 | exact he_x_2028.symm); clear_value y9; subst e9)
                              try (extract_lets -merge -useContext +onlyGivenNames y9; have e9 : x_2029 = y9 := (by first | exact he_x_2029 | exact he_x_2029.symm); clear_value y9; subst e9)
                              try (extract_lets -merge -useContext +onlyGivenNames y9; have e9 : x_2030 = y9 := (by first | exact he_x_2030 | exact he_x_2030.symm); clear_value y9; subst e9)
                              try (extract_lets -merge -useContext +onlyGivenNames y9; have e9 : x_2031 = y9 := (by first | exact he_x_2031 | exact he_x_2031.symm); clear_value y9; subst e9)
                              try (extract_lets -merge -useContext +onlyGivenNames y9; have e9 : x_2032 = y9 := (by first | exact he_x_2032 | exact he_x_2032.symm); clear_value y9; subst e9)
                              try (extract_lets -merge -useContext +onlyGivenNames y9; have e9 : x_2033 = y9 := (by first | exact he_x_2033 | exact he_x_2033.symm); clear_value y9; subst e9)
                              try (extract_lets -merge -useContext +onlyGivenNames y9; have e9 : g_2034 = y9 := (by first | exact hg_g_2034 | exact hg_g_2034.symm); clear_value y9; subst e9)
                              try (extract_lets -merge -useContext +onlyGivenNames y9; have e9 : x_2036 = y9 := (by first | exact he_x_2036 | exact he_x_2036.symm); clear_value y9; subst e9)
                              extract_lets -merge -useContext +onlyGivenNames w9 y21_0 y21_1 y21_2 y21_3 y21_4 y21_5; have e9 : (n_2037, n_2038, n_2039, n_2040, n_2041, n_2042) = w9 := ((z_tS he_n_2037 (z_tS he_n_2038 (z_tS he_n_2039 (z_tS he_n_2040 (z_tS he_n_2041 he_n_2042.symm)))))).symm; clear_value w9; subst e9
                              refine (if_pos c_2048).trans ?_
                              exact rfl
                            exact ih_1945 x_2036 x_1985 1 g_2034 n_2037 n_2038 n_2039 n_2040 n_2041 n_2042 H locs ls (by omega) (by omega) (by omega) (by decide +kernel) hC_g_2034 hr_n_2037 hr_n_2038 hr_n_2039 hr_n_2040 hr_n_2041 hs_2035 (by rw [hq_x_2036]; exact zFl_step hi_1691 hg_g_2034 (by omega) (by omega) (by omega) (r := x_2029.toInt) (c := x_2032.toInt) (by rw [h_46]; omega) (by omega) (by omega) (by omega) (by omega) (by omega) (by omega) (by omega)) (by omega) (by omega) (by omega) (by omega) (by omega) hX_2052 hP hD hS (lv_sub hl [3, 4, 5, 1, 2, 0] rfl)
                        · have b_2053 := z_fneF c_2022
                          refine lv_aload_n hx hb dX12_readFeels_192 rfl (lv_at hl 1 rfl) ?_
                          refine lv_bipush (v := 9) hx hb dX12_readFeels_193 (by decide) ?_
                          refine lv_aload_n hx hb dX12_readFeels_195 rfl (lv_at hl 1 rfl) ?_
                          refine va_get (D := G) (ci := 12) (v := .int v_1455) (C := RX12) (T := TX12) (N := 65) hx hb hts inT12 hown hK hP 4 rfl rfl 15 (by decide) (hts _ tw_1900) (fun _ h9 => h9) rfl dX12_readFeels_196 ?_
                          refine z_callVv (As := [.int 9, .int v_1455]) (rest := []) (wr := [(a_hasFeels, .inl (cA.1 3, 3, .inl g_32)), (a_isOn, .inl (cA.1 3, 10, .inl g_isOn)), (a_c, .inl (cA.1 0, 1825, .inl g_1453)), (a_words, .inl (cA.1 1, 105, .inr (.inl g_words))), (a_tape, .inl (cA.1 2, 900, .inl g_tape))]) ⟨hx, hb, hml, hown, hts⟩ hK hE hT hP hD hS hA (r_fail l G cA h0 m_status m_thrown m_above m_under a_traySort a_trayMany a_numbers a_tape m_taped m_textEnd m_faultKind m_faultAt n_12 n_13 v_1454 v_1455 v_1456 v_1457 v_1458 v_1459 a_c a_words m_markMany a_there a_tried a_best a_found m_thereMany m_foundMany m_orderHow m_orderRing m_orderMany m_hasBest m_bestTop m_bestBy a_weights a_shared m_random m_truePlace m_trueWay m_seconds m_done m_feelings m_tries m_leftOver m_playDoor m_playRing m_isOpen m_isOver m_wasTried m_hasPlayed a_feltNow a_last a_kept m_hasSeconds m_hasTurned m_hasRound a_hasFeels a_isOn m_firstAct m_meanTop m_meanBy a_order m_rowMany m_newSteps 9 v_1455 (by decide +kernel) hr_n_12) lk_RX12_180 ⟨rfl, rfl⟩ ⟨Nat.le_of_ble_eq_true rfl, Nat.le_of_ble_eq_true rfl⟩ 12 rfl rfl rfl [4] [0, 1, 2, 3, 5] rfl rfl (by decide) rfl hl.1 rfl (lv_room (Nat.le_of_ble_eq_true rfl)) dX12_readFeels_199 ⟨Nat.le_of_ble_eq_true rfl, Nat.le_of_ble_eq_true rfl⟩ (fun u_2057 H locs hw hP hD hS => ?_)
                          obtain ⟨n_2054, n_2055⟩ := u_2057
                          try dsimp only at hw
                          obtain ⟨he_n_2054, he_n_2055, hw⟩ := hw
                          obtain ⟨hr_n_2054, hf_2059⟩ := hw
                          refine lv_aload_n hx hb dX12_readFeels_202 rfl (lv_at hl 1 rfl) ?_
                          refine va_get (D := G) (ci := 12) (v := .int n_2054) (C := RX12) (T := TX12) (N := 65) hx hb hts inT12 hown hK hP 5 rfl rfl 12 (by decide) (hts _ tw_1897) (fun _ h9 => h9) rfl dX12_readFeels_203 ?_
                          refine lv_if_le (tgt := 210) hx hb dX12_readFeels_206 (by decide) (fun h9 => (z_no (by have h8 := z_fleT h9; omega))) (fun c_2060 => ?_)
                          have b_2061 := z_fgtF c_2060
                          have hpost : (0 ≤ n_2054.toInt ∧ n_2054.toInt ≤ 9) ∧ (0 ≤ v_1454.toInt ∧ v_1454.toInt ≤ 4) ∧ (0 ≤ v_1455.toInt ∧ v_1455.toInt ≤ 900) ∧ (0 ≤ v_1456.toInt ∧ v_1456.toInt ≤ 900) ∧ (0 ≤ v_1457.toInt ∧ v_1457.toInt ≤ 9999) ∧ (0 ≤ v_1458.toInt ∧ v_1458.toInt ≤ 900) ∧ (zRg 3 0 1 g_32) ∧ (zC g_1453) ∧ (zNw g_1453 g_isOn) ∧ (m_behind.toInt ≤ v_1456.toInt) ∧ (0 < m_bad.toInt → 0 < n_2054.toInt) ∧ (n_2054.toInt ≤ 0 → v_1454.toInt = 0 ∨ m_behind.toInt < v_1456.toInt) ∧ (n_2054.toInt ≤ 0 → v_1454.toInt = 3 → v_1457.toInt = 59 → zNf g_1453) := ⟨(z_rgw hr_n_2054 (by decide) (by decide)), hr_v_1454, hr_v_1455, hr_v_1456, hr_v_1457, hr_v_1458, hC_g_32, hC_g_1453, hs_1690, (by omega), (by omega), (by omega), (fun h1 h2 h3 => z_no (by omega))⟩
                          have hX_2062 : F_r_readFeels m_textEnd m_bad m_badAt m_behind m_number m_letters m_word g_tape g_c g_words g_hasFeels = ((n_2054, n_2055, v_1454, v_1455, v_1456, v_1457, v_1458, v_1459, g_32, g_1453) : Int32 × Int32 × Int32 × Int32 × Int32 × Int32 × Int32 × Int64 × (Nat → Int32) × (Nat → Int32)) := by
                            refine hF_L74b.trans ?_
                            refine (F_r_readFeels_L74b_s ..).trans ?_
                            refine (if_neg c_1946).trans ?_
                            refine (if_pos c_1971).trans ?_
                            refine (if_pos c_1975).trans ?_
                            try (extract_lets -merge -useContext +onlyGivenNames y9; have e9 : x_1979 = y9 := (by first | exact he_x_1979 | exact he_x_1979.symm); clear_value y9; subst e9)
                            refine (if_neg c_1980).trans ?_
                            try (extract_lets -merge -useContext +onlyGivenNames y9; have e9 : x_1982 = y9 := (by first | exact he_x_1982 | exact he_x_1982.symm); clear_value y9; subst e9)
                            refine (if_neg c_1983).trans ?_
                            try (extract_lets -merge -useContext +onlyGivenNames y9; have e9 : x_1985 = y9 := (by first | exact he_x_1985 | exact he_x_1985.symm); clear_value y9; subst e9)
                            try (extract_lets -merge -useContext +onlyGivenNames y9; have e9 : x_1988 = y9 := (by first | exact he_x_1988 | exact he_x_1988.symm); clear_value y9; subst e9)
                            try (extract_lets -merge -useContext +onlyGivenNames y9; have e9 : x_1989 = y9 := (by first | exact he_x_1989 | exact he_x_1989.symm); clear_value y9; subst e9)
                            refine (if_pos c_1990).trans ?_
                            refine (if_neg c_2022).trans ?_
                            extract_lets -merge -useContext +onlyGivenNames w9 y12_0 y12_1; have e9 : (n_2054, n_2055) = w9 := ((z_tS he_n_2054 he_n_2055.symm)).symm; clear_value w9; subst e9
                            exact rfl
                          exact hret _ _ _ _ _ (n_2054, n_2055, v_1454, v_1455, v_1456, v_1457, v_1458, v_1459, g_32, g_1453) [5, 4, 2, 3, 0, 1] hP hD hS rfl (by decide) dX12_readFeels_209 ⟨(congrArg (fun z9 => z9.1) hX_2062).symm, (congrArg (fun z9 => z9.2.1) hX_2062).symm, (congrArg (fun z9 => z9.2.2.1) hX_2062).symm, (congrArg (fun z9 => z9.2.2.2.1) hX_2062).symm, (congrArg (fun z9 => z9.2.2.2.2.1) hX_2062).symm, (congrArg (fun z9 => z9.2.2.2.2.2.1) hX_2062).symm, (congrArg (fun z9 => z9.2.2.2.2.2.2.1) hX_2062).symm, (congrArg (fun z9 => z9.2.2.2.2.2.2.2.1) hX_2062).symm, (congrArg (fun z9 => z9.2.2.2.2.2.2.2.2.1) hX_2062).symm, (congrArg (fun z9 => z9.2.2.2.2.2.2.2.2.2) hX_2062).symm, hpost⟩
                    · have b_2063 := z_feqF c_1983
                      refine lv_aload_n hx hb dX12_readFeels_153 rfl (lv_at hl 0 rfl) ?_
                      refine va_get (D := G) (ci := 12) (v := .int v_1457) (C := RX12) (T := TX12) (N := 65) hx hb hts inT12 hown hK hP 4 rfl rfl 17 (by decide) (hts _ tw_1902) (fun _ h9 => h9) rfl dX12_readFeels_154 ?_
                      refine lv_goto (tgt := 167) hx hb dX12_readFeels_157 (by decide) ?_
                      refine lv_istore (lv' := [(4, .int v_1457), (0, .ref h0), (1, .int r_14), (2, .int x_45), (3, .int v_1450), (5, .int v_1452)]) hx hb dX12_readFeels_167 hl (by decide) rfl (fun ls hl => ?_)
                      refine lv_aload_n hx hb dX12_readFeels_169 rfl (lv_at hl 1 rfl) ?_
                      refine va_get (D := G) (ci := 12) (v := .int n_12) (C := RX12) (T := TX12) (N := 65) hx hb hts inT12 hown hK hP 4 rfl rfl 12 (by decide) (hts _ tw_1897) (fun _ h9 => h9) rfl dX12_readFeels_170 ?_
                      refine lv_if_ne (tgt := 202) hx hb dX12_readFeels_173 (by decide) (fun h9 => (z_no (by have h8 := z_fneT h9; omega))) (fun c_2064 => ?_)
                      have b_2065 := z_feqF c_2064
                      refine lv_iload_n hx hb dX12_readFeels_176 rfl (lv_at hl 4 rfl) ?_
                      refine lv_iload_n hx hb dX12_readFeels_177 rfl (lv_at hl 3 rfl) ?_
                      refine lv_irem hx hb dX12_readFeels_178 (z_nz (by omega)) ?_
                      refine lv_topi (fun x_2066 he_x_2066 => ?_)
                      have hq_x_2066 := z_remq he_x_2066 (rfl : v_1450.toInt = _) (by omega : x_45.toInt = 3) (by omega) (by decide)
                      refine lv_iload_n hx hb dX12_readFeels_179 rfl (lv_at hl 3 rfl) ?_
                      refine lv_iconst (v := 1) hx hb dX12_readFeels_180 (by decide) ?_
                      refine lv_isub hx hb dX12_readFeels_181 ?_
                      refine lv_topi (fun x_2067 he_x_2067 => ?_)
                      have hq_x_2067 := z_subq he_x_2067 (rfl : x_45.toInt = _) hk_1 (by omega) (by omega)
                      refine lv_icmp_ne (tgt := 202) hx hb dX12_readFeels_182 (by decide) (fun c_2068 => ?_) (fun c_2068 => ?_)
                      · have b_2069 := z_fneT c_2068
                        refine lv_aload_n hx hb dX12_readFeels_202 rfl (lv_at hl 1 rfl) ?_
                        refine va_get (D := G) (ci := 12) (v := .int n_12) (C := RX12) (T := TX12) (N := 65) hx hb hts inT12 hown hK hP 4 rfl rfl 12 (by decide) (hts _ tw_1897) (fun _ h9 => h9) rfl dX12_readFeels_203 ?_
                        refine lv_if_le (tgt := 210) hx hb dX12_readFeels_206 (by decide) (fun c_2070 => ?_) (fun h9 => (z_no (by have h8 := z_fgtF h9; omega)))
                        have b_2071 := z_fleT c_2070
                        have hn_k_2072 : 0 ≤ v_1450.toInt ∧ v_1450.toInt ≤ 8 := by omega
                        refine lv_aload_n hx hb dX12_readFeels_210 rfl (lv_at hl 1 rfl) ?_
                        refine va_get (D := G) (ci := 12) (v := .ref a_c) (C := RX12) (T := TX12) (N := 65) hx hb hts inT12 hown hK hP 4 rfl rfl 20 (by decide) (hts _ tw_1905) (fun _ h9 => h9) rfl dX12_readFeels_211 ?_
                        refine lv_sipush (v := 1477) hx hb dX12_readFeels_214 (by decide) ?_
                        refine lv_bipush (v := 16) hx hb dX12_readFeels_217 (by decide) ?_
                        refine lv_iload_n hx hb dX12_readFeels_219 rfl (lv_at hl 2 rfl) ?_
                        refine lv_imul hx hb dX12_readFeels_220 ?_
                        refine lv_topi (fun x_2073 he_x_2073 => ?_)
                        have hq_x_2073 := z_mulq he_x_2073 hk_16 (rfl : r_14.toInt = _) (by omega) (by omega)
                        refine lv_iadd hx hb dX12_readFeels_221 ?_
                        refine lv_topi (fun x_2074 he_x_2074 => ?_)
                        have hq_x_2074 := z_addq he_x_2074 hk_1477 (rfl : x_2073.toInt = _) (by omega) (by omega)
                        refine lv_iconst (v := 4) hx hb dX12_readFeels_222 (by decide) ?_
                        refine lv_iload_n hx hb dX12_readFeels_223 rfl (lv_at hl 4 rfl) ?_
                        refine lv_iload_n hx hb dX12_readFeels_224 rfl (lv_at hl 3 rfl) ?_
                        refine lv_idiv hx hb dX12_readFeels_225 (z_nz (by omega)) ?_
                        refine lv_topi (fun x_2075 he_x_2075 => ?_)
                        have hq_x_2075 := z_divq he_x_2075 (rfl : v_1450.toInt = _) (by omega : x_45.toInt = 3) (by omega) (by decide)
                        refine lv_imul hx hb dX12_readFeels_226 ?_
                        refine lv_topi (fun x_2076 he_x_2076 => ?_)
                        have hq_x_2076 := z_mulq he_x_2076 hk_4 (rfl : x_2075.toInt = _) (by omega) (by omega)
                        refine lv_iadd hx hb dX12_readFeels_227 ?_
                        refine lv_topi (fun x_2077 he_x_2077 => ?_)
                        have hq_x_2077 := z_addq he_x_2077 (rfl : x_2074.toInt = _) (rfl : x_2076.toInt = _) (by omega) (by omega)
                        refine lv_iload_n hx hb dX12_readFeels_228 rfl (lv_at hl 4 rfl) ?_
                        refine lv_iload_n hx hb dX12_readFeels_229 rfl (lv_at hl 3 rfl) ?_
                        refine lv_irem hx hb dX12_readFeels_230 (z_nz (by omega)) ?_
                        refine lv_topi (fun x_2078 he_x_2078 => ?_)
                        have hq_x_2078 := z_remq he_x_2078 (rfl : v_1450.toInt = _) (by omega : x_45.toInt = 3) (by omega) (by decide)
                        refine lv_iadd hx hb dX12_readFeels_231 ?_
                        refine lv_topi (fun x_2079 he_x_2079 => ?_)
                        have hq_x_2079 := z_addq he_x_2079 (rfl : x_2077.toInt = _) (rfl : x_2078.toInt = _) (by omega) (by omega)
                        refine lv_aload_n hx hb dX12_readFeels_232 rfl (lv_at hl 1 rfl) ?_
                        refine va_get (D := G) (ci := 12) (v := .int v_1457) (C := RX12) (T := TX12) (N := 65) hx hb hts inT12 hown hK hP 4 rfl rfl 17 (by decide) (hts _ tw_1902) (fun _ h9 => h9) rfl dX12_readFeels_233 ?_
                        refine z_iast hx hb hK hP hD hS 2 0 rfl rfl (z_inN (by omega) (by omega)) dX12_readFeels_236 (fun g_2080 hg_g_2080 H locs hP hD hS => ?_)
                        have hC_g_2080 := z_ctU hC_g_1453 hg_g_2080 (a := 1477) (b := 1519) (lo := 0) (hi := 16) (by decide +kernel) (by decide +kernel) (by omega) (by omega) (by omega)
                        have hw_g_2080_1460 := z_cwo hg_g_2080 (k := 1460) (by omega) (by omega)
                        have hs_2081 : zNw g_2080 g_isOn := (zNw_fr hs_1690 hg_g_2080 (a := 1477) (b := 1519) (by decide +kernel) (by omega) (by omega))
                        obtain ⟨x_2082, he_x_2082⟩ : ∃ z : Int32, z = v_1450 + 1 := ⟨_, rfl⟩
                        have hq_x_2082 := z_addq he_x_2082 (rfl : v_1450.toInt = _) hk_1 (by omega) (by omega)
                        refine lv_iinc (v := x_2082) (lv' := [(3, .int x_2082), (4, .int v_1457), (0, .ref h0), (1, .int r_14), (2, .int x_45), (5, .int v_1452)]) hx hb dX12_readFeels_237 hl (k := 4) rfl ((z_ofi (by decide +kernel)).trans he_x_2082.symm) (by decide) rfl (fun ls hl => ?_)
                        refine lv_aload_n hx hb dX12_readFeels_240 rfl (lv_at hl 2 rfl) ?_
                        refine z_callVv (As := []) (rest := []) (wr := [(a_hasFeels, .inl (cA.1 3, 3, .inl g_32)), (a_isOn, .inl (cA.1 3, 10, .inl g_isOn)), (a_c, .inl (cA.1 0, 1825, .inl g_2080)), (a_words, .inl (cA.1 1, 105, .inr (.inl g_words)))]) ⟨hx, hb, hml, hown, hts⟩ hK hE hT hP hD hS hA (r_next2 l G cA h0 m_status m_thrown m_above m_under a_traySort a_trayMany a_numbers a_tape m_taped m_textEnd m_faultKind m_faultAt n_12 n_13 v_1454 v_1455 v_1456 v_1457 v_1458 v_1459 a_c a_words m_markMany a_there a_tried a_best a_found m_thereMany m_foundMany m_orderHow m_orderRing m_orderMany m_hasBest m_bestTop m_bestBy a_weights a_shared m_random m_truePlace m_trueWay m_seconds m_done m_feelings m_tries m_leftOver m_playDoor m_playRing m_isOpen m_isOver m_wasTried m_hasPlayed a_feltNow a_last a_kept m_hasSeconds m_hasTurned m_hasRound a_hasFeels a_isOn m_firstAct m_meanTop m_meanBy a_order m_rowMany m_newSteps g_tape hr_m_textEnd hr_v_1455 hr_v_1456 hr_v_1454 hr_v_1457 hr_v_1458) lk_RX12_184 ⟨rfl, rfl⟩ ⟨Nat.le_of_ble_eq_true rfl, Nat.le_of_ble_eq_true rfl⟩ 12 rfl rfl rfl [4, 5] [0, 1, 2, 3] rfl rfl (by decide) rfl hl.1 rfl (lv_room (Nat.le_of_ble_eq_true rfl)) dX12_readFeels_241 ⟨Nat.le_of_ble_eq_true rfl, Nat.le_of_ble_eq_true rfl⟩ (fun u_2090 H locs hw hP hD hS => ?_)
                        obtain ⟨n_2083, n_2084, n_2085, n_2086, n_2087, n_2088⟩ := u_2090
                        try dsimp only at hw
                        obtain ⟨he_n_2083, he_n_2084, he_n_2085, he_n_2086, he_n_2087, he_n_2088, hw⟩ := hw
                        obtain ⟨hr_n_2083, hr_n_2084, hr_n_2085, hr_n_2086, hr_n_2087, hf_2092, hf_2093⟩ := hw
                        refine lv_aload_n hx hb dX12_readFeels_244 rfl (lv_at hl 2 rfl) ?_
                        refine va_get (D := G) (ci := 12) (v := .int n_2083) (C := RX12) (T := TX12) (N := 65) hx hb hts inT12 hown hK hP 4 rfl rfl 14 (by decide) (hts _ tw_1899) (fun _ h9 => h9) rfl dX12_readFeels_245 ?_
                        refine lv_iconst (v := 2) hx hb dX12_readFeels_248 (by decide) ?_
                        refine lv_icmp_ne (tgt := 256) hx hb dX12_readFeels_249 (by decide) (fun c_2094 => ?_) (fun c_2094 => ?_)
                        · have b_2095 := z_fneT c_2094
                          refine lv_iconst (v := 0) hx hb dX12_readFeels_256 (by decide) ?_
                          refine lv_istore (lv' := [(5, .int 0), (3, .int x_2082), (4, .int v_1457), (0, .ref h0), (1, .int r_14), (2, .int x_45)]) hx hb dX12_readFeels_257 hl (by decide) rfl (fun ls hl => ?_)
                          refine lv_goto (tgt := 74) hx hb dX12_readFeels_259 (by decide) ?_
                          have hX_2096 : F_r_readFeels m_textEnd m_bad m_badAt m_behind m_number m_letters m_word g_tape g_c g_words g_hasFeels = F_r_readFeels_L74b m_textEnd g_tape r_14 n_12 n_13 g_32 x_45 n_L74b x_2082 v_1457 (0 : Int32) g_2080 n_2083 n_2084 n_2085 n_2086 n_2087 n_2088 := by
                            refine hF_L74b.trans ?_
                            refine (F_r_readFeels_L74b_s ..).trans ?_
                            refine (if_neg c_1946).trans ?_
                            refine (if_pos c_1971).trans ?_
                            refine (if_pos c_1975).trans ?_
                            try (extract_lets -merge -useContext +onlyGivenNames y9; have e9 : x_1979 = y9 := (by first | exact he_x_1979 | exact he_x_1979.symm); clear_value y9; subst e9)
                            refine (if_neg c_1980).trans ?_
                            try (extract_lets -merge -useContext +onlyGivenNames y9; have e9 : x_1982 = y9 := (by first | exact he_x_1982 | exact he_x_1982.symm); clear_value y9; subst e9)
                            refine (if_pos c_1983).trans ?_
                            try (extract_lets -merge -useContext +onlyGivenNames y9; have e9 : x_2066 = y9 := (by first | exact he_x_2066 | exact he_x_2066.symm); clear_value y9; subst e9)
                            try (extract_lets -merge -useContext +onlyGivenNames y9; have e9 : x_2067 = y9 := (by first | exact he_x_2067 | exact he_x_2067.symm); clear_value y9; subst e9)
                            refine (if_neg c_2068).trans ?_
                            try (extract_lets -merge -useContext +onlyGivenNames y9; have e9 : x_2073 = y9 := (by first | exact he_x_2073 | exact he_x_2073.symm); clear_value y9; subst e9)
                            try (extract_lets -merge -useContext +onlyGivenNames y9; have e9 : x_2074 = y9 := (by first | exact he_x_2074 | exact he_x_2074.symm); clear_value y9; subst e9)
                            try (extract_lets -merge -useContext +onlyGivenNames y9; have e9 : x_2075 = y9 := (by first | exact he_x_2075 | exact he_x_2075.symm); clear_value y9; subst e9)
                            try (extract_lets -merge -useContext +onlyGivenNames y9; have e9 : x_2076 = y9 := (by first | exact he_x_2076 | exact he_x_2076.symm); clear_value y9; subst e9)
                            try (extract_lets -merge -useContext +onlyGivenNames y9; have e9 : x_2077 = y9 := (by first | exact he_x_2077 | exact he_x_2077.symm); clear_value y9; subst e9)
                            try (extract_lets -merge -useContext +onlyGivenNames y9; have e9 : x_2078 = y9 := (by first | exact he_x_2078 | exact he_x_2078.symm); clear_value y9; subst e9)
                            try (extract_lets -merge -useContext +onlyGivenNames y9; have e9 : x_2079 = y9 := (by first | exact he_x_2079 | exact he_x_2079.symm); clear_value y9; subst e9)
                            try (extract_lets -merge -useContext +onlyGivenNames y9; have e9 : g_2080 = y9 := (by first | exact hg_g_2080 | exact hg_g_2080.symm); clear_value y9; subst e9)
                            try (extract_lets -merge -useContext +onlyGivenNames y9; have e9 : x_2082 = y9 := (by first | exact he_x_2082 | exact he_x_2082.symm); clear_value y9; subst e9)
                            extract_lets -merge -useContext +onlyGivenNames w9 y19_0 y19_1 y19_2 y19_3 y19_4 y19_5; have e9 : (n_2083, n_2084, n_2085, n_2086, n_2087, n_2088) = w9 := ((z_tS he_n_2083 (z_tS he_n_2084 (z_tS he_n_2085 (z_tS he_n_2086 (z_tS he_n_2087 he_n_2088.symm)))))).symm; clear_value w9; subst e9
                            refine (if_neg c_2094).trans ?_
                            exact rfl
                          exact ih_1945 x_2082 v_1457 0 g_2080 n_2083 n_2084 n_2085 n_2086 n_2087 n_2088 H locs ls (by omega) (by omega) (by omega) (by decide +kernel) hC_g_2080 hr_n_2083 hr_n_2084 hr_n_2085 hr_n_2086 hr_n_2087 hs_2081 (by rw [hq_x_2082]; exact zFl_step hi_1691 hg_g_2080 (by omega) (by omega) (by omega) (r := x_2075.toInt) (c := x_2078.toInt) (by rw [h_46]; omega) (by omega) (by omega) (by omega) (by omega) (by omega) (by omega) (by omega)) (by omega) (by omega) (by omega) (by omega) (by omega) hX_2096 hP hD hS (lv_sub hl [3, 4, 5, 1, 2, 0] rfl)
                        · have b_2097 := z_feqF c_2094
                          refine lv_iconst (v := 1) hx hb dX12_readFeels_252 (by decide) ?_
                          refine lv_goto (tgt := 257) hx hb dX12_readFeels_253 (by decide) ?_
                          refine lv_istore (lv' := [(5, .int 1), (3, .int x_2082), (4, .int v_1457), (0, .ref h0), (1, .int r_14), (2, .int x_45)]) hx hb dX12_readFeels_257 hl (by decide) rfl (fun ls hl => ?_)
                          refine lv_goto (tgt := 74) hx hb dX12_readFeels_259 (by decide) ?_
                          have hX_2098 : F_r_readFeels m_textEnd m_bad m_badAt m_behind m_number m_letters m_word g_tape g_c g_words g_hasFeels = F_r_readFeels_L74b m_textEnd g_tape r_14 n_12 n_13 g_32 x_45 n_L74b x_2082 v_1457 (1 : Int32) g_2080 n_2083 n_2084 n_2085 n_2086 n_2087 n_2088 := by
                            refine hF_L74b.trans ?_
                            refine (F_r_readFeels_L74b_s ..).trans ?_
                            refine (if_neg c_1946).trans ?_
                            refine (if_pos c_1971).trans ?_
                            refine (if_pos c_1975).trans ?_
                            try (extract_lets -merge -useContext +onlyGivenNames y9; have e9 : x_1979 = y9 := (by first | exact he_x_1979 | exact he_x_1979.symm); clear_value y9; subst e9)
                            refine (if_neg c_1980).trans ?_
                            try (extract_lets -merge -useContext +onlyGivenNames y9; have e9 : x_1982 = y9 := (by first | exact he_x_1982 | exact he_x_1982.symm); clear_value y9; subst e9)
                            refine (if_pos c_1983).trans ?_
                            try (extract_lets -merge -useContext +onlyGivenNames y9; have e9 : x_2066 = y9 := (by first | exact he_x_2066 | exact he_x_2066.symm); clear_value y9; subst e9)
                            try (extract_lets -merge -useContext +onlyGivenNames y9; have e9 : x_2067 = y9 := (by first | exact he_x_2067 | exact he_x_2067.symm); clear_value y9; subst e9)
                            refine (if_neg c_2068).trans ?_
                            try (extract_lets -merge -useContext +onlyGivenNames y9; have e9 : x_2073 = y9 := (by first | exact he_x_2073 | exact he_x_2073.symm); clear_value y9; subst e9)
                            try (extract_lets -merge -useContext +onlyGivenNames y9; have e9 : x_2074 = y9 := (by first | exact he_x_2074 | exact he_x_2074.symm); clear_value y9; subst e9)
                            try (extract_lets -merge -useContext +onlyGivenNames y9; have e9 : x_2075 = y9 := (by first | exact he_x_2075 | exact he_x_2075.symm); clear_value y9; subst e9)
                            try (extract_lets -merge -useContext +onlyGivenNames y9; have e9 : x_2076 = y9 := (by first | exact he_x_2076 | exact he_x_2076.symm); clear_value y9; subst e9)
                            try (extract_lets -merge -useContext +onlyGivenNames y9; have e9 : x_2077 = y9 := (by first | exact he_x_2077 | exact he_x_2077.symm); clear_value y9; subst e9)
                            try (extract_lets -merge -useContext +onlyGivenNames y9; have e9 : x_2078 = y9 := (by first | exact he_x_2078 | exact he_x_2078.symm); clear_value y9; subst e9)
                            try (extract_lets -merge -useContext +onlyGivenNames y9; have e9 : x_2079 = y9 := (by first | exact he_x_2079 | exact he_x_2079.symm); clear_value y9; subst e9)
                            try (extract_lets -merge -useContext +onlyGivenNames y9; have e9 : g_2080 = y9 := (by first | exact hg_g_2080 | exact hg_g_2080.symm); clear_value y9; subst e9)
                            try (extract_lets -merge -useContext +onlyGivenNames y9; have e9 : x_2082 = y9 := (by first | exact he_x_2082 | exact he_x_2082.symm); clear_value y9; subst e9)
                            extract_lets -merge -useContext +onlyGivenNames w9 y19_0 y19_1 y19_2 y19_3 y19_4 y19_5; have e9 : (n_2083, n_2084, n_2085, n_2086, n_2087, n_2088) = w9 := ((z_tS he_n_2083 (z_tS he_n_2084 (z_tS he_n_2085 (z_tS he_n_2086 (z_tS he_n_2087 he_n_2088.symm)))))).symm; clear_value w9; subst e9
                            refine (if_pos c_2094).trans ?_
                            exact rfl
                          exact ih_1945 x_2082 v_1457 1 g_2080 n_2083 n_2084 n_2085 n_2086 n_2087 n_2088 H locs ls (by omega) (by omega) (by omega) (by decide +kernel) hC_g_2080 hr_n_2083 hr_n_2084 hr_n_2085 hr_n_2086 hr_n_2087 hs_2081 (by rw [hq_x_2082]; exact zFl_step hi_1691 hg_g_2080 (by omega) (by omega) (by omega) (r := x_2075.toInt) (c := x_2078.toInt) (by rw [h_46]; omega) (by omega) (by omega) (by omega) (by omega) (by omega) (by omega) (by omega)) (by omega) (by omega) (by omega) (by omega) (by omega) hX_2098 hP hD hS (lv_sub hl [3, 4, 5, 1, 2, 0] rfl)
                      · have b_2099 := z_feqF c_2068
                        refine lv_iload hx hb dX12_readFeels_185 (lv_at hl 0 rfl) ?_
                        refine lv_bipush (v := 16) hx hb dX12_readFeels_187 (by decide) ?_
                        refine lv_icmp_eq (tgt := 202) hx hb dX12_readFeels_189 (by decide) (fun c_2100 => ?_) (fun c_2100 => ?_)
                        · have b_2101 := z_feqT c_2100
                          refine lv_aload_n hx hb dX12_readFeels_202 rfl (lv_at hl 1 rfl) ?_
                          refine va_get (D := G) (ci := 12) (v := .int n_12) (C := RX12) (T := TX12) (N := 65) hx hb hts inT12 hown hK hP 4 rfl rfl 12 (by decide) (hts _ tw_1897) (fun _ h9 => h9) rfl dX12_readFeels_203 ?_
                          refine lv_if_le (tgt := 210) hx hb dX12_readFeels_206 (by decide) (fun c_2102 => ?_) (fun h9 => (z_no (by have h8 := z_fgtF h9; omega)))
                          have b_2103 := z_fleT c_2102
                          have hn_k_2104 : 0 ≤ v_1450.toInt ∧ v_1450.toInt ≤ 8 := by omega
                          refine lv_aload_n hx hb dX12_readFeels_210 rfl (lv_at hl 1 rfl) ?_
                          refine va_get (D := G) (ci := 12) (v := .ref a_c) (C := RX12) (T := TX12) (N := 65) hx hb hts inT12 hown hK hP 4 rfl rfl 20 (by decide) (hts _ tw_1905) (fun _ h9 => h9) rfl dX12_readFeels_211 ?_
                          refine lv_sipush (v := 1477) hx hb dX12_readFeels_214 (by decide) ?_
                          refine lv_bipush (v := 16) hx hb dX12_readFeels_217 (by decide) ?_
                          refine lv_iload_n hx hb dX12_readFeels_219 rfl (lv_at hl 2 rfl) ?_
                          refine lv_imul hx hb dX12_readFeels_220 ?_
                          refine lv_topi (fun x_2105 he_x_2105 => ?_)
                          have hq_x_2105 := z_mulq he_x_2105 hk_16 (rfl : r_14.toInt = _) (by omega) (by omega)
                          refine lv_iadd hx hb dX12_readFeels_221 ?_
                          refine lv_topi (fun x_2106 he_x_2106 => ?_)
                          have hq_x_2106 := z_addq he_x_2106 hk_1477 (rfl : x_2105.toInt = _) (by omega) (by omega)
                          refine lv_iconst (v := 4) hx hb dX12_readFeels_222 (by decide) ?_
                          refine lv_iload_n hx hb dX12_readFeels_223 rfl (lv_at hl 4 rfl) ?_
                          refine lv_iload_n hx hb dX12_readFeels_224 rfl (lv_at hl 3 rfl) ?_
                          refine lv_idiv hx hb dX12_readFeels_225 (z_nz (by omega)) ?_
                          refine lv_topi (fun x_2107 he_x_2107 => ?_)
                          have hq_x_2107 := z_divq he_x_2107 (rfl : v_1450.toInt = _) (by omega : x_45.toInt = 3) (by omega) (by decide)
                          refine lv_imul hx hb dX12_readFeels_226 ?_
                          refine lv_topi (fun x_2108 he_x_2108 => ?_)
                          have hq_x_2108 := z_mulq he_x_2108 hk_4 (rfl : x_2107.toInt = _) (by omega) (by omega)
                          refine lv_iadd hx hb dX12_readFeels_227 ?_
                          refine lv_topi (fun x_2109 he_x_2109 => ?_)
                          have hq_x_2109 := z_addq he_x_2109 (rfl : x_2106.toInt = _) (rfl : x_2108.toInt = _) (by omega) (by omega)
                          refine lv_iload_n hx hb dX12_readFeels_228 rfl (lv_at hl 4 rfl) ?_
                          refine lv_iload_n hx hb dX12_readFeels_229 rfl (lv_at hl 3 rfl) ?_
                          refine lv_irem hx hb dX12_readFeels_230 (z_nz (by omega)) ?_
                          refine lv_topi (fun x_2110 he_x_2110 => ?_)
                          have hq_x_2110 := z_remq he_x_2110 (rfl : v_1450.toInt = _) (by omega : x_45.toInt = 3) (by omega) (by decide)
                          refine lv_iadd hx hb dX12_readFeels_231 ?_
                          refine lv_topi (fun x_2111 he_x_2111 => ?_)
                          have hq_x_2111 := z_addq he_x_2111 (rfl : x_2109.toInt = _) (rfl : x_2110.toInt = _) (by omega) (by omega)
                          refine lv_aload_n hx hb dX12_readFeels_232 rfl (lv_at hl 1 rfl) ?_
                          refine va_get (D := G) (ci := 12) (v := .int v_1457) (C := RX12) (T := TX12) (N := 65) hx hb hts inT12 hown hK hP 4 rfl rfl 17 (by decide) (hts _ tw_1902) (fun _ h9 => h9) rfl dX12_readFeels_233 ?_
                          refine z_iast hx hb hK hP hD hS 2 0 rfl rfl (z_inN (by omega) (by omega)) dX12_readFeels_236 (fun g_2112 hg_g_2112 H locs hP hD hS => ?_)
                          have hC_g_2112 := z_ctU hC_g_1453 hg_g_2112 (a := 1477) (b := 1519) (lo := 0) (hi := 16) (by decide +kernel) (by decide +kernel) (by omega) (by omega) (by omega)
                          have hw_g_2112_1460 := z_cwo hg_g_2112 (k := 1460) (by omega) (by omega)
                          have hs_2113 : zNw g_2112 g_isOn := (zNw_fr hs_1690 hg_g_2112 (a := 1477) (b := 1519) (by decide +kernel) (by omega) (by omega))
                          obtain ⟨x_2114, he_x_2114⟩ : ∃ z : Int32, z = v_1450 + 1 := ⟨_, rfl⟩
                          have hq_x_2114 := z_addq he_x_2114 (rfl : v_1450.toInt = _) hk_1 (by omega) (by omega)
                          refine lv_iinc (v := x_2114) (lv' := [(3, .int x_2114), (4, .int v_1457), (0, .ref h0), (1, .int r_14), (2, .int x_45), (5, .int v_1452)]) hx hb dX12_readFeels_237 hl (k := 4) rfl ((z_ofi (by decide +kernel)).trans he_x_2114.symm) (by decide) rfl (fun ls hl => ?_)
                          refine lv_aload_n hx hb dX12_readFeels_240 rfl (lv_at hl 2 rfl) ?_
                          refine z_callVv (As := []) (rest := []) (wr := [(a_hasFeels, .inl (cA.1 3, 3, .inl g_32)), (a_isOn, .inl (cA.1 3, 10, .inl g_isOn)), (a_c, .inl (cA.1 0, 1825, .inl g_2112)), (a_words, .inl (cA.1 1, 105, .inr (.inl g_words)))]) ⟨hx, hb, hml, hown, hts⟩ hK hE hT hP hD hS hA (r_next2 l G cA h0 m_status m_thrown m_above m_under a_traySort a_trayMany a_numbers a_tape m_taped m_textEnd m_faultKind m_faultAt n_12 n_13 v_1454 v_1455 v_1456 v_1457 v_1458 v_1459 a_c a_words m_markMany a_there a_tried a_best a_found m_thereMany m_foundMany m_orderHow m_orderRing m_orderMany m_hasBest m_bestTop m_bestBy a_weights a_shared m_random m_truePlace m_trueWay m_seconds m_done m_feelings m_tries m_leftOver m_playDoor m_playRing m_isOpen m_isOver m_wasTried m_hasPlayed a_feltNow a_last a_kept m_hasSeconds m_hasTurned m_hasRound a_hasFeels a_isOn m_firstAct m_meanTop m_meanBy a_order m_rowMany m_newSteps g_tape hr_m_textEnd hr_v_1455 hr_v_1456 hr_v_1454 hr_v_1457 hr_v_1458) lk_RX12_184 ⟨rfl, rfl⟩ ⟨Nat.le_of_ble_eq_true rfl, Nat.le_of_ble_eq_true rfl⟩ 12 rfl rfl rfl [4, 5] [0, 1, 2, 3] rfl rfl (by decide) rfl hl.1 rfl (lv_room (Nat.le_of_ble_eq_true rfl)) dX12_readFeels_241 ⟨Nat.le_of_ble_eq_true rfl, Nat.le_of_ble_eq_true rfl⟩ (fun u_2122 H locs hw hP hD hS => ?_)
                          obtain ⟨n_2115, n_2116, n_2117, n_2118, n_2119, n_2120⟩ := u_2122
                          try dsimp only at hw
                          obtain ⟨he_n_2115, he_n_2116, he_n_2117, he_n_2118, he_n_2119, he_n_2120, hw⟩ := hw
                          obtain ⟨hr_n_2115, hr_n_2116, hr_n_2117, hr_n_2118, hr_n_2119, hf_2124, hf_2125⟩ := hw
                          refine lv_aload_n hx hb dX12_readFeels_244 rfl (lv_at hl 2 rfl) ?_
                          refine va_get (D := G) (ci := 12) (v := .int n_2115) (C := RX12) (T := TX12) (N := 65) hx hb hts inT12 hown hK hP 4 rfl rfl 14 (by decide) (hts _ tw_1899) (fun _ h9 => h9) rfl dX12_readFeels_245 ?_
                          refine lv_iconst (v := 2) hx hb dX12_readFeels_248 (by decide) ?_
                          refine lv_icmp_ne (tgt := 256) hx hb dX12_readFeels_249 (by decide) (fun c_2126 => ?_) (fun c_2126 => ?_)
                          · have b_2127 := z_fneT c_2126
                            refine lv_iconst (v := 0) hx hb dX12_readFeels_256 (by decide) ?_
                            refine lv_istore (lv' := [(5, .int 0), (3, .int x_2114), (4, .int v_1457), (0, .ref h0), (1, .int r_14), (2, .int x_45)]) hx hb dX12_readFeels_257 hl (by decide) rfl (fun ls hl => ?_)
                            refine lv_goto (tgt := 74) hx hb dX12_readFeels_259 (by decide) ?_
                            have hX_2128 : F_r_readFeels m_textEnd m_bad m_badAt m_behind m_number m_letters m_word g_tape g_c g_words g_hasFeels = F_r_readFeels_L74b m_textEnd g_tape r_14 n_12 n_13 g_32 x_45 n_L74b x_2114 v_1457 (0 : Int32) g_2112 n_2115 n_2116 n_2117 n_2118 n_2119 n_2120 := by
                              refine hF_L74b.trans ?_
                              refine (F_r_readFeels_L74b_s ..).trans ?_
                              refine (if_neg c_1946).trans ?_
                              refine (if_pos c_1971).trans ?_
                              refine (if_pos c_1975).trans ?_
                              try (extract_lets -merge -useContext +onlyGivenNames y9; have e9 : x_1979 = y9 := (by first | exact he_x_1979 | exact he_x_1979.symm); clear_value y9; subst e9)
                              refine (if_neg c_1980).trans ?_
                              try (extract_lets -merge -useContext +onlyGivenNames y9; have e9 : x_1982 = y9 := (by first | exact he_x_1982 | exact he_x_1982.symm); clear_value y9; subst e9)
                              refine (if_pos c_1983).trans ?_
                              try (extract_lets -merge -useContext +onlyGivenNames y9; have e9 : x_2066 = y9 := (by first | exact he_x_2066 | exact he_x_2066.symm); clear_value y9; subst e9)
                              try (extract_lets -merge -useContext +onlyGivenNames y9; have e9 : x_2067 = y9 := (by first | exact he_x_2067 | exact he_x_2067.symm); clear_value y9; subst e9)
                              refine (if_pos c_2068).trans ?_
                              refine (if_pos c_2100).trans ?_
                              try (extract_lets -merge -useContext +onlyGivenNames y9; have e9 : x_2105 = y9 := (by first | exact he_x_2105 | exact he_x_2105.symm); clear_value y9; subst e9)
                              try (extract_lets -merge -useContext +onlyGivenNames y9; have e9 : x_2106 = y9 := (by first | exact he_x_2106 | exact he_x_2106.symm); clear_value y9; subst e9)
                              try (extract_lets -merge -useContext +onlyGivenNames y9; have e9 : x_2107 = y9 := (by first | exact he_x_2107 | exact he_x_2107.symm); clear_value y9; subst e9)
                              try (extract_lets -merge -useContext +onlyGivenNames y9; have e9 : x_2108 = y9 := (by first | exact he_x_2108 | exact he_x_2108.symm); clear_value y9; subst e9)
                              try (extract_lets -merge -useContext +onlyGivenNames y9; have e9 : x_2109 = y9 := (by first | exact he_x_2109 | exact he_x_2109.symm); clear_value y9; subst e9)
                              try (extract_lets -merge -useContext +onlyGivenNames y9; have e9 : x_2110 = y9 := (by first | exact he_x_2110 | exact he_x_2110.symm); clear_value y9; subst e9)
                              try (extract_lets -merge -useContext +onlyGivenNames y9; have e9 : x_2111 = y9 := (by first | exact he_x_2111 | exact he_x_2111.symm); clear_value y9; subst e9)
                              try (extract_lets -merge -useContext +onlyGivenNames y9; have e9 : g_2112 = y9 := (by first | exact hg_g_2112 | exact hg_g_2112.symm); clear_value y9; subst e9)
                              try (extract_lets -merge -useContext +onlyGivenNames y9; have e9 : x_2114 = y9 := (by first | exact he_x_2114 | exact he_x_2114.symm); clear_value y9; subst e9)
                              extract_lets -merge -useContext +onlyGivenNames w9 y20_0 y20_1 y20_2 y20_3 y20_4 y20_5; have e9 : (n_2115, n_2116, n_2117, n_2118, n_2119, n_2120) = w9 := ((z_tS he_n_2115 (z_tS he_n_2116 (z_tS he_n_2117 (z_tS he_n_2118 (z_tS he_n_2119 he_n_2120.symm)))))).symm; clear_value w9; subst e9
                              refine (if_neg c_2126).trans ?_
                              exact rfl
                            exact ih_1945 x_2114 v_1457 0 g_2112 n_2115 n_2116 n_2117 n_2118 n_2119 n_2120 H locs ls (by omega) (by omega) (by omega) (by decide +kernel) hC_g_2112 hr_n_2115 hr_n_2116 hr_n_2117 hr_n_2118 hr_n_2119 hs_2113 (by rw [hq_x_2114]; exact zFl_step hi_1691 hg_g_2112 (by omega) (by omega) (by omega) (r := x_2107.toInt) (c := x_2110.toInt) (by rw [h_46]; omega) (by omega) (by omega) (by omega) (by omega) (by omega) (by omega) (by omega)) (by omega) (by omega) (by omega) (by omega) (by omega) hX_2128 hP hD hS (lv_sub hl [3, 4, 5, 1, 2, 0] rfl)
                          · have b_2129 := z_feqF c_2126
                            refine lv_iconst (v := 1) hx hb dX12_readFeels_252 (by decide) ?_
                            refine lv_goto (tgt := 257) hx hb dX12_readFeels_253 (by decide) ?_
                            refine lv_istore (lv' := [(5, .int 1), (3, .int x_2114), (4, .int v_1457), (0, .ref h0), (1, .int r_14), (2, .int x_45)]) hx hb dX12_readFeels_257 hl (by decide) rfl (fun ls hl => ?_)
                            refine lv_goto (tgt := 74) hx hb dX12_readFeels_259 (by decide) ?_
                            have hX_2130 : F_r_readFeels m_textEnd m_bad m_badAt m_behind m_number m_letters m_word g_tape g_c g_words g_hasFeels = F_r_readFeels_L74b m_textEnd g_tape r_14 n_12 n_13 g_32 x_45 n_L74b x_2114 v_1457 (1 : Int32) g_2112 n_2115 n_2116 n_2117 n_2118 n_2119 n_2120 := by
                              refine hF_L74b.trans ?_
                              refine (F_r_readFeels_L74b_s ..).trans ?_
                              refine (if_neg c_1946).trans ?_
                              refine (if_pos c_1971).trans ?_
                              refine (if_pos c_1975).trans ?_
                              try (extract_lets -merge -useContext +onlyGivenNames y9; have e9 : x_1979 = y9 := (by first | exact he_x_1979 | exact he_x_1979.symm); clear_value y9; subst e9)
                              refine (if_neg c_1980).trans ?_
                              try (extract_lets -merge -useContext +onlyGivenNames y9; have e9 : x_1982 = y9 := (by first | exact he_x_1982 | exact he_x_1982.symm); clear_value y9; subst e9)
                              refine (if_pos c_1983).trans ?_
                              try (extract_lets -merge -useContext +onlyGivenNames y9; have e9 : x_2066 = y9 := (by first | exact he_x_2066 | exact he_x_2066.symm); clear_value y9; subst e9)
                              try (extract_lets -merge -useContext +onlyGivenNames y9; have e9 : x_2067 = y9 := (by first | exact he_x_2067 | exact he_x_2067.symm); clear_value y9; subst e9)
                              refine (if_pos c_2068).trans ?_
                              refine (if_pos c_2100).trans ?_
                              try (extract_lets -merge -useContext +onlyGivenNames y9; have e9 : x_2105 = y9 := (by first | exact he_x_2105 | exact he_x_2105.symm); clear_value y9; subst e9)
                              try (extract_lets -merge -useContext +onlyGivenNames y9; have e9 : x_2106 = y9 := (by first | exact he_x_2106 | exact he_x_2106.symm); clear_value y9; subst e9)
                              try (extract_lets -merge -useContext +onlyGivenNames y9; have e9 : x_2107 = y9 := (by first | exact he_x_2107 | exact he_x_2107.symm); clear_value y9; subst e9)
                              try (extract_lets -merge -useContext +onlyGivenNames y9; have e9 : x_2108 = y9 := (by first | exact he_x_2108 | exact he_x_2108.symm); clear_value y9; subst e9)
                              try (extract_lets -merge -useContext +onlyGivenNames y9; have e9 : x_2109 = y9 := (by first | exact he_x_2109 | exact he_x_2109.symm); clear_value y9; subst e9)
                              try (extract_lets -merge -useContext +onlyGivenNames y9; have e9 : x_2110 = y9 := (by first | exact he_x_2110 | exact he_x_2110.symm); clear_value y9; subst e9)
                              try (extract_lets -merge -useContext +onlyGivenNames y9; have e9 : x_2111 = y9 := (by first | exact he_x_2111 | exact he_x_2111.symm); clear_value y9; subst e9)
                              try (extract_lets -merge -useContext +onlyGivenNames y9; have e9 : g_2112 = y9 := (by first | exact hg_g_2112 | exact hg_g_2112.symm); clear_value y9; subst e9)
                              try (extract_lets -merge -useContext +onlyGivenNames y9; have e9 : x_2114 = y9 := (by first | exact he_x_2114 | exact he_x_2114.symm); clear_value y9; subst e9)
                              extract_lets -merge -useContext +onlyGivenNames w9 y20_0 y20_1 y20_2 y20_3 y20_4 y20_5; have e9 : (n_2115, n_2116, n_2117, n_2118, n_2119, n_2120) = w9 := ((z_tS he_n_2115 (z_tS he_n_2116 (z_tS he_n_2117 (z_tS he_n_2118 (z_tS he_n_2119 he_n_2120.symm)))))).symm; clear_value w9; subst e9
                              refine (if_pos c_2126).trans ?_
                              exact rfl
                            exact ih_1945 x_2114 v_1457 1 g_2112 n_2115 n_2116 n_2117 n_2118 n_2119 n_2120 H locs ls (by omega) (by omega) (by omega) (by decide +kernel) hC_g_2112 hr_n_2115 hr_n_2116 hr_n_2117 hr_n_2118 hr_n_2119 hs_2113 (by rw [hq_x_2114]; exact zFl_step hi_1691 hg_g_2112 (by omega) (by omega) (by omega) (r := x_2107.toInt) (c := x_2110.toInt) (by rw [h_46]; omega) (by omega) (by omega) (by omega) (by omega) (by omega) (by omega) (by omega)) (by omega) (by omega) (by omega) (by omega) (by omega) hX_2130 hP hD hS (lv_sub hl [3, 4, 5, 1, 2, 0] rfl)
                        · have b_2131 := z_fneF c_2100
                          refine lv_aload_n hx hb dX12_readFeels_192 rfl (lv_at hl 1 rfl) ?_
                          refine lv_bipush (v := 9) hx hb dX12_readFeels_193 (by decide) ?_
                          refine lv_aload_n hx hb dX12_readFeels_195 rfl (lv_at hl 1 rfl) ?_
                          refine va_get (D := G) (ci := 12) (v := .int v_1455) (C := RX12) (T := TX12) (N := 65) hx hb hts inT12 hown hK hP 4 rfl rfl 15 (by decide) (hts _ tw_1900) (fun _ h9 => h9) rfl dX12_readFeels_196 ?_
                          refine z_callVv (As := [.int 9, .int v_1455]) (rest := []) (wr := [(a_hasFeels, .inl (cA.1 3, 3, .inl g_32)), (a_isOn, .inl (cA.1 3, 10, .inl g_isOn)), (a_c, .inl (cA.1 0, 1825, .inl g_1453)), (a_words, .inl (cA.1 1, 105, .inr (.inl g_words))), (a_tape, .inl (cA.1 2, 900, .inl g_tape))]) ⟨hx, hb, hml, hown, hts⟩ hK hE hT hP hD hS hA (r_fail l G cA h0 m_status m_thrown m_above m_under a_traySort a_trayMany a_numbers a_tape m_taped m_textEnd m_faultKind m_faultAt n_12 n_13 v_1454 v_1455 v_1456 v_1457 v_1458 v_1459 a_c a_words m_markMany a_there a_tried a_best a_found m_thereMany m_foundMany m_orderHow m_orderRing m_orderMany m_hasBest m_bestTop m_bestBy a_weights a_shared m_random m_truePlace m_trueWay m_seconds m_done m_feelings m_tries m_leftOver m_playDoor m_playRing m_isOpen m_isOver m_wasTried m_hasPlayed a_feltNow a_last a_kept m_hasSeconds m_hasTurned m_hasRound a_hasFeels a_isOn m_firstAct m_meanTop m_meanBy a_order m_rowMany m_newSteps 9 v_1455 (by decide +kernel) hr_n_12) lk_RX12_180 ⟨rfl, rfl⟩ ⟨Nat.le_of_ble_eq_true rfl, Nat.le_of_ble_eq_true rfl⟩ 12 rfl rfl rfl [4] [0, 1, 2, 3, 5] rfl rfl (by decide) rfl hl.1 rfl (lv_room (Nat.le_of_ble_eq_true rfl)) dX12_readFeels_199 ⟨Nat.le_of_ble_eq_true rfl, Nat.le_of_ble_eq_true rfl⟩ (fun u_2135 H locs hw hP hD hS => ?_)
                          obtain ⟨n_2132, n_2133⟩ := u_2135
                          try dsimp only at hw
                          obtain ⟨he_n_2132, he_n_2133, hw⟩ := hw
                          obtain ⟨hr_n_2132, hf_2137⟩ := hw
                          refine lv_aload_n hx hb dX12_readFeels_202 rfl (lv_at hl 1 rfl) ?_
                          refine va_get (D := G) (ci := 12) (v := .int n_2132) (C := RX12) (T := TX12) (N := 65) hx hb hts inT12 hown hK hP 5 rfl rfl 12 (by decide) (hts _ tw_1897) (fun _ h9 => h9) rfl dX12_readFeels_203 ?_
                          refine lv_if_le (tgt := 210) hx hb dX12_readFeels_206 (by decide) (fun h9 => (z_no (by have h8 := z_fleT h9; omega))) (fun c_2138 => ?_)
                          have b_2139 := z_fgtF c_2138
                          have hpost : (0 ≤ n_2132.toInt ∧ n_2132.toInt ≤ 9) ∧ (0 ≤ v_1454.toInt ∧ v_1454.toInt ≤ 4) ∧ (0 ≤ v_1455.toInt ∧ v_1455.toInt ≤ 900) ∧ (0 ≤ v_1456.toInt ∧ v_1456.toInt ≤ 900) ∧ (0 ≤ v_1457.toInt ∧ v_1457.toInt ≤ 9999) ∧ (0 ≤ v_1458.toInt ∧ v_1458.toInt ≤ 900) ∧ (zRg 3 0 1 g_32) ∧ (zC g_1453) ∧ (zNw g_1453 g_isOn) ∧ (m_behind.toInt ≤ v_1456.toInt) ∧ (0 < m_bad.toInt → 0 < n_2132.toInt) ∧ (n_2132.toInt ≤ 0 → v_1454.toInt = 0 ∨ m_behind.toInt < v_1456.toInt) ∧ (n_2132.toInt ≤ 0 → v_1454.toInt = 3 → v_1457.toInt = 59 → zNf g_1453) := ⟨(z_rgw hr_n_2132 (by decide) (by decide)), hr_v_1454, hr_v_1455, hr_v_1456, hr_v_1457, hr_v_1458, hC_g_32, hC_g_1453, hs_1690, (by omega), (by omega), (by omega), (fun h1 h2 h3 => z_no (by omega))⟩
                          have hX_2140 : F_r_readFeels m_textEnd m_bad m_badAt m_behind m_number m_letters m_word g_tape g_c g_words g_hasFeels = ((n_2132, n_2133, v_1454, v_1455, v_1456, v_1457, v_1458, v_1459, g_32, g_1453) : Int32 × Int32 × Int32 × Int32 × Int32 × Int32 × Int32 × Int64 × (Nat → Int32) × (Nat → Int32)) := by
                            refine hF_L74b.trans ?_
                            refine (F_r_readFeels_L74b_s ..).trans ?_
                            refine (if_neg c_1946).trans ?_
                            refine (if_pos c_1971).trans ?_
                            refine (if_pos c_1975).trans ?_
                            try (extract_lets -merge -useContext +onlyGivenNames y9; have e9 : x_1979 = y9 := (by first | exact he_x_1979 | exact he_x_1979.symm); clear_value y9; subst e9)
                            refine (if_neg c_1980).trans ?_
                            try (extract_lets -merge -useContext +onlyGivenNames y9; have e9 : x_1982 = y9 := (by first | exact he_x_1982 | exact he_x_1982.symm); clear_value y9; subst e9)
                            refine (if_pos c_1983).trans ?_
                            try (extract_lets -merge -useContext +onlyGivenNames y9; have e9 : x_2066 = y9 := (by first | exact he_x_2066 | exact he_x_2066.symm); clear_value y9; subst e9)
                            try (extract_lets -merge -useContext +onlyGivenNames y9; have e9 : x_2067 = y9 := (by first | exact he_x_2067 | exact he_x_2067.symm); clear_value y9; subst e9)
                            refine (if_pos c_2068).trans ?_
                            refine (if_neg c_2100).trans ?_
                            extract_lets -merge -useContext +onlyGivenNames w9 y11_0 y11_1; have e9 : (n_2132, n_2133) = w9 := ((z_tS he_n_2132 he_n_2133.symm)).symm; clear_value w9; subst e9
                            exact rfl
                          exact hret _ _ _ _ _ (n_2132, n_2133, v_1454, v_1455, v_1456, v_1457, v_1458, v_1459, g_32, g_1453) [5, 4, 2, 3, 0, 1] hP hD hS rfl (by decide) dX12_readFeels_209 ⟨(congrArg (fun z9 => z9.1) hX_2140).symm, (congrArg (fun z9 => z9.2.1) hX_2140).symm, (congrArg (fun z9 => z9.2.2.1) hX_2140).symm, (congrArg (fun z9 => z9.2.2.2.1) hX_2140).symm, (congrArg (fun z9 => z9.2.2.2.2.1) hX_2140).symm, (congrArg (fun z9 => z9.2.2.2.2.2.1) hX_2140).symm, (congrArg (fun z9 => z9.2.2.2.2.2.2.1) hX_2140).symm, (congrArg (fun z9 => z9.2.2.2.2.2.2.2.1) hX_2140).symm, (congrArg (fun z9 => z9.2.2.2.2.2.2.2.2.1) hX_2140).symm, (congrArg (fun z9 => z9.2.2.2.2.2.2.2.2.2) hX_2140).symm, hpost⟩
                  · have b_2141 := z_feqF c_1980
                    refine lv_aload_n hx hb dX12_readFeels_137 rfl (lv_at hl 0 rfl) ?_
                    refine lv_bipush (v := 8) hx hb dX12_readFeels_138 (by decide) ?_
                    refine lv_aload_n hx hb dX12_readFeels_140 rfl (lv_at hl 0 rfl) ?_
                    refine va_get (D := G) (ci := 12) (v := .int v_1455) (C := RX12) (T := TX12) (N := 65) hx hb hts inT12 hown hK hP 4 rfl rfl 15 (by decide) (hts _ tw_1900) (fun _ h9 => h9) rfl dX12_readFeels_141 ?_
                    refine z_callVv (As := [.int 8, .int v_1455]) (rest := []) (wr := [(a_hasFeels, .inl (cA.1 3, 3, .inl g_32)), (a_isOn, .inl (cA.1 3, 10, .inl g_isOn)), (a_c, .inl (cA.1 0, 1825, .inl g_1453)), (a_words, .inl (cA.1 1, 105, .inr (.inl g_words))), (a_tape, .inl (cA.1 2, 900, .inl g_tape))]) ⟨hx, hb, hml, hown, hts⟩ hK hE hT hP hD hS hA (r_fail l G cA h0 m_status m_thrown m_above m_under a_traySort a_trayMany a_numbers a_tape m_taped m_textEnd m_faultKind m_faultAt n_12 n_13 v_1454 v_1455 v_1456 v_1457 v_1458 v_1459 a_c a_words m_markMany a_there a_tried a_best a_found m_thereMany m_foundMany m_orderHow m_orderRing m_orderMany m_hasBest m_bestTop m_bestBy a_weights a_shared m_random m_truePlace m_trueWay m_seconds m_done m_feelings m_tries m_leftOver m_playDoor m_playRing m_isOpen m_isOver m_wasTried m_hasPlayed a_feltNow a_last a_kept m_hasSeconds m_hasTurned m_hasRound a_hasFeels a_isOn m_firstAct m_meanTop m_meanBy a_order m_rowMany m_newSteps 8 v_1455 (by decide +kernel) hr_n_12) lk_RX12_180 ⟨rfl, rfl⟩ ⟨Nat.le_of_ble_eq_true rfl, Nat.le_of_ble_eq_true rfl⟩ 12 rfl rfl rfl [4] [0, 1, 2, 3, 5] rfl rfl (by decide) rfl hl.1 rfl (lv_room (Nat.le_of_ble_eq_true rfl)) dX12_readFeels_144 ⟨Nat.le_of_ble_eq_true rfl, Nat.le_of_ble_eq_true rfl⟩ (fun u_2145 H locs hw hP hD hS => ?_)
                    obtain ⟨n_2142, n_2143⟩ := u_2145
                    try dsimp only at hw
                    obtain ⟨he_n_2142, he_n_2143, hw⟩ := hw
                    obtain ⟨hr_n_2142, hf_2147⟩ := hw
                    refine lv_iload_n hx hb dX12_readFeels_147 rfl (lv_at hl 3 rfl) ?_
                    refine lv_iload_n hx hb dX12_readFeels_148 rfl (lv_at hl 2 rfl) ?_
                    refine lv_irem hx hb dX12_readFeels_149 (z_nz (by omega)) ?_
                    refine lv_topi (fun x_2148 he_x_2148 => ?_)
                    have hq_x_2148 := z_remq he_x_2148 (rfl : v_1450.toInt = _) (by omega : x_45.toInt = 3) (by omega) (by decide)
                    refine lv_if_ne (tgt := 160) hx hb dX12_readFeels_150 (by decide) (fun c_2149 => ?_) (fun c_2149 => ?_)
                    · have b_2150 := z_fneT c_2149
                      refine lv_iload hx hb dX12_readFeels_160 (lv_at hl 4 rfl) ?_
                      refine lv_aload_n hx hb dX12_readFeels_162 rfl (lv_at hl 0 rfl) ?_
                      refine va_get (D := G) (ci := 12) (v := .int v_1457) (C := RX12) (T := TX12) (N := 65) hx hb hts inT12 hown hK hP 5 rfl rfl 17 (by decide) (hts _ tw_1902) (fun _ h9 => h9) rfl dX12_readFeels_163 ?_
                      refine lv_iadd hx hb dX12_readFeels_166 ?_
                      refine lv_topi (fun x_2151 he_x_2151 => ?_)
                      have hq_x_2151 := z_addq he_x_2151 (rfl : v_1451.toInt = _) (rfl : v_1457.toInt = _) (by omega) (by omega)
                      refine lv_istore (lv' := [(4, .int x_2151), (0, .ref h0), (1, .int r_14), (2, .int x_45), (3, .int v_1450), (5, .int v_1452)]) hx hb dX12_readFeels_167 hl (by decide) rfl (fun ls hl => ?_)
                      refine lv_aload_n hx hb dX12_readFeels_169 rfl (lv_at hl 1 rfl) ?_
                      refine va_get (D := G) (ci := 12) (v := .int n_2142) (C := RX12) (T := TX12) (N := 65) hx hb hts inT12 hown hK hP 5 rfl rfl 12 (by decide) (hts _ tw_1897) (fun _ h9 => h9) rfl dX12_readFeels_170 ?_
                      refine lv_if_ne (tgt := 202) hx hb dX12_readFeels_173 (by decide) (fun c_2152 => ?_) (fun h9 => (z_no (by have h8 := z_feqF h9; omega)))
                      have b_2153 := z_fneT c_2152
                      refine lv_aload_n hx hb dX12_readFeels_202 rfl (lv_at hl 1 rfl) ?_
                      refine va_get (D := G) (ci := 12) (v := .int n_2142) (C := RX12) (T := TX12) (N := 65) hx hb hts inT12 hown hK hP 5 rfl rfl 12 (by decide) (hts _ tw_1897) (fun _ h9 => h9) rfl dX12_readFeels_203 ?_
                      refine lv_if_le (tgt := 210) hx hb dX12_readFeels_206 (by decide) (fun h9 => (z_no (by have h8 := z_fleT h9; omega))) (fun c_2154 => ?_)
                      have b_2155 := z_fgtF c_2154
                      have hpost : (0 ≤ n_2142.toInt ∧ n_2142.toInt ≤ 9) ∧ (0 ≤ v_1454.toInt ∧ v_1454.toInt ≤ 4) ∧ (0 ≤ v_1455.toInt ∧ v_1455.toInt ≤ 900) ∧ (0 ≤ v_1456.toInt ∧ v_1456.toInt ≤ 900) ∧ (0 ≤ v_1457.toInt ∧ v_1457.toInt ≤ 9999) ∧ (0 ≤ v_1458.toInt ∧ v_1458.toInt ≤ 900) ∧ (zRg 3 0 1 g_32) ∧ (zC g_1453) ∧ (zNw g_1453 g_isOn) ∧ (m_behind.toInt ≤ v_1456.toInt) ∧ (0 < m_bad.toInt → 0 < n_2142.toInt) ∧ (n_2142.toInt ≤ 0 → v_1454.toInt = 0 ∨ m_behind.toInt < v_1456.toInt) ∧ (n_2142.toInt ≤ 0 → v_1454.toInt = 3 → v_1457.toInt = 59 → zNf g_1453) := ⟨(z_rgw hr_n_2142 (by decide) (by decide)), hr_v_1454, hr_v_1455, hr_v_1456, hr_v_1457, hr_v_1458, hC_g_32, hC_g_1453, hs_1690, (by omega), (by omega), (by omega), (fun h1 h2 h3 => z_no (by omega))⟩
                      have hX_2156 : F_r_readFeels m_textEnd m_bad m_badAt m_behind m_number m_letters m_word g_tape g_c g_words g_hasFeels = ((n_2142, n_2143, v_1454, v_1455, v_1456, v_1457, v_1458, v_1459, g_32, g_1453) : Int32 × Int32 × Int32 × Int32 × Int32 × Int32 × Int32 × Int64 × (Nat → Int32) × (Nat → Int32)) := by
                        refine hF_L74b.trans ?_
                        refine (F_r_readFeels_L74b_s ..).trans ?_
                        refine (if_neg c_1946).trans ?_
                        refine (if_pos c_1971).trans ?_
                        refine (if_pos c_1975).trans ?_
                        try (extract_lets -merge -useContext +onlyGivenNames y9; have e9 : x_1979 = y9 := (by first | exact he_x_1979 | exact he_x_1979.symm); clear_value y9; subst e9)
                        refine (if_pos c_1980).trans ?_
                        extract_lets -merge -useContext +onlyGivenNames w9 y5_0 y5_1; have e9 : (n_2142, n_2143) = w9 := ((z_tS he_n_2142 he_n_2143.symm)).symm; clear_value w9; subst e9
                        try (extract_lets -merge -useContext +onlyGivenNames y9; have e9 : x_2148 = y9 := (by first | exact he_x_2148 | exact he_x_2148.symm); clear_value y9; subst e9)
                        refine (if_neg c_2149).trans ?_
                        try (extract_lets -merge -useContext +onlyGivenNames y9; have e9 : x_2151 = y9 := (by first | exact he_x_2151 | exact he_x_2151.symm); clear_value y9; subst e9)
                        exact rfl
                      exact hret _ _ _ _ _ (n_2142, n_2143, v_1454, v_1455, v_1456, v_1457, v_1458, v_1459, g_32, g_1453) [5, 4, 2, 3, 0, 1] hP hD hS rfl (by decide) dX12_readFeels_209 ⟨(congrArg (fun z9 => z9.1) hX_2156).symm, (congrArg (fun z9 => z9.2.1) hX_2156).symm, (congrArg (fun z9 => z9.2.2.1) hX_2156).symm, (congrArg (fun z9 => z9.2.2.2.1) hX_2156).symm, (congrArg (fun z9 => z9.2.2.2.2.1) hX_2156).symm, (congrArg (fun z9 => z9.2.2.2.2.2.1) hX_2156).symm, (congrArg (fun z9 => z9.2.2.2.2.2.2.1) hX_2156).symm, (congrArg (fun z9 => z9.2.2.2.2.2.2.2.1) hX_2156).symm, (congrArg (fun z9 => z9.2.2.2.2.2.2.2.2.1) hX_2156).symm, (congrArg (fun z9 => z9.2.2.2.2.2.2.2.2.2) hX_2156).symm, hpost⟩
                    · have b_2157 := z_feqF c_2149
                      refine lv_aload_n hx hb dX12_readFeels_153 rfl (lv_at hl 0 rfl) ?_
                      refine va_get (D := G) (ci := 12) (v := .int v_1457) (C := RX12) (T := TX12) (N := 65) hx hb hts inT12 hown hK hP 5 rfl rfl 17 (by decide) (hts _ tw_1902) (fun _ h9 => h9) rfl dX12_readFeels_154 ?_
                      refine lv_goto (tgt := 167) hx hb dX12_readFeels_157 (by decide) ?_
                      refine lv_istore (lv' := [(4, .int v_1457), (0, .ref h0), (1, .int r_14), (2, .int x_45), (3, .int v_1450), (5, .int v_1452)]) hx hb dX12_readFeels_167 hl (by decide) rfl (fun ls hl => ?_)
                      refine lv_aload_n hx hb dX12_readFeels_169 rfl (lv_at hl 1 rfl) ?_
                      refine va_get (D := G) (ci := 12) (v := .int n_2142) (C := RX12) (T := TX12) (N := 65) hx hb hts inT12 hown hK hP 5 rfl rfl 12 (by decide) (hts _ tw_1897) (fun _ h9 => h9) rfl dX12_readFeels_170 ?_
                      refine lv_if_ne (tgt := 202) hx hb dX12_readFeels_173 (by decide) (fun c_2158 => ?_) (fun h9 => (z_no (by have h8 := z_feqF h9; omega)))
                      have b_2159 := z_fneT c_2158
                      refine lv_aload_n hx hb dX12_readFeels_202 rfl (lv_at hl 1 rfl) ?_
                      refine va_get (D := G) (ci := 12) (v := .int n_2142) (C := RX12) (T := TX12) (N := 65) hx hb hts inT12 hown hK hP 5 rfl rfl 12 (by decide) (hts _ tw_1897) (fun _ h9 => h9) rfl dX12_readFeels_203 ?_
                      refine lv_if_le (tgt := 210) hx hb dX12_readFeels_206 (by decide) (fun h9 => (z_no (by have h8 := z_fleT h9; omega))) (fun c_2160 => ?_)
                      have b_2161 := z_fgtF c_2160
                      have hpost : (0 ≤ n_2142.toInt ∧ n_2142.toInt ≤ 9) ∧ (0 ≤ v_1454.toInt ∧ v_1454.toInt ≤ 4) ∧ (0 ≤ v_1455.toInt ∧ v_1455.toInt ≤ 900) ∧ (0 ≤ v_1456.toInt ∧ v_1456.toInt ≤ 900) ∧ (0 ≤ v_1457.toInt ∧ v_1457.toInt ≤ 9999) ∧ (0 ≤ v_1458.toInt ∧ v_1458.toInt ≤ 900) ∧ (zRg 3 0 1 g_32) ∧ (zC g_1453) ∧ (zNw g_1453 g_isOn) ∧ (m_behind.toInt ≤ v_1456.toInt) ∧ (0 < m_bad.toInt → 0 < n_2142.toInt) ∧ (n_2142.toInt ≤ 0 → v_1454.toInt = 0 ∨ m_behind.toInt < v_1456.toInt) ∧ (n_2142.toInt ≤ 0 → v_1454.toInt = 3 → v_1457.toInt = 59 → zNf g_1453) := ⟨(z_rgw hr_n_2142 (by decide) (by decide)), hr_v_1454, hr_v_1455, hr_v_1456, hr_v_1457, hr_v_1458, hC_g_32, hC_g_1453, hs_1690, (by omega), (by omega), (by omega), (fun h1 h2 h3 => z_no (by omega))⟩
                      have hX_2162 : F_r_readFeels m_textEnd m_bad m_badAt m_behind m_number m_letters m_word g_tape g_c g_words g_hasFeels = ((n_2142, n_2143, v_1454, v_1455, v_1456, v_1457, v_1458, v_1459, g_32, g_1453) : Int32 × Int32 × Int32 × Int32 × Int32 × Int32 × Int32 × Int64 × (Nat → Int32) × (Nat → Int32)) := by
                        refine hF_L74b.trans ?_
                        refine (F_r_readFeels_L74b_s ..).trans ?_
                        refine (if_neg c_1946).trans ?_
                        refine (if_pos c_1971).trans ?_
                        refine (if_pos c_1975).trans ?_
                        try (extract_lets -merge -useContext +onlyGivenNames y9; have e9 : x_1979 = y9 := (by first | exact he_x_1979 | exact he_x_1979.symm); clear_value y9; subst e9)
                        refine (if_pos c_1980).trans ?_
                        extract_lets -merge -useContext +onlyGivenNames w9 y5_0 y5_1; have e9 : (n_2142, n_2143) = w9 := ((z_tS he_n_2142 he_n_2143.symm)).symm; clear_value w9; subst e9
                        try (extract_lets -merge -useContext +onlyGivenNames y9; have e9 : x_2148 = y9 := (by first | exact he_x_2148 | exact he_x_2148.symm); clear_value y9; subst e9)
                        refine (if_pos c_2149).trans ?_
                        exact rfl
                      exact hret _ _ _ _ _ (n_2142, n_2143, v_1454, v_1455, v_1456, v_1457, v_1458, v_1459, g_32, g_1453) [5, 4, 2, 3, 0, 1] hP hD hS rfl (by decide) dX12_readFeels_209 ⟨(congrArg (fun z9 => z9.1) hX_2162).symm, (congrArg (fun z9 => z9.2.1) hX_2162).symm, (congrArg (fun z9 => z9.2.2.1) hX_2162).symm, (congrArg (fun z9 => z9.2.2.2.1) hX_2162).symm, (congrArg (fun z9 => z9.2.2.2.2.1) hX_2162).symm, (congrArg (fun z9 => z9.2.2.2.2.2.1) hX_2162).symm, (congrArg (fun z9 => z9.2.2.2.2.2.2.1) hX_2162).symm, (congrArg (fun z9 => z9.2.2.2.2.2.2.2.1) hX_2162).symm, (congrArg (fun z9 => z9.2.2.2.2.2.2.2.2.1) hX_2162).symm, (congrArg (fun z9 => z9.2.2.2.2.2.2.2.2.2) hX_2162).symm, hpost⟩
                · have b_2163 := z_fgtF c_1975
                  refine lv_aload_n hx hb dX12_readFeels_114 rfl (lv_at hl 0 rfl) ?_
                  refine lv_iconst (v := 4) hx hb dX12_readFeels_115 (by decide) ?_
                  refine lv_aload_n hx hb dX12_readFeels_116 rfl (lv_at hl 0 rfl) ?_
                  refine va_get (D := G) (ci := 12) (v := .int v_1455) (C := RX12) (T := TX12) (N := 65) hx hb hts inT12 hown hK hP 4 rfl rfl 15 (by decide) (hts _ tw_1900) (fun _ h9 => h9) rfl dX12_readFeels_117 ?_
                  refine z_callVv (As := [.int 4, .int v_1455]) (rest := []) (wr := [(a_hasFeels, .inl (cA.1 3, 3, .inl g_32)), (a_isOn, .inl (cA.1 3, 10, .inl g_isOn)), (a_c, .inl (cA.1 0, 1825, .inl g_1453)), (a_words, .inl (cA.1 1, 105, .inr (.inl g_words))), (a_tape, .inl (cA.1 2, 900, .inl g_tape))]) ⟨hx, hb, hml, hown, hts⟩ hK hE hT hP hD hS hA (r_fail l G cA h0 m_status m_thrown m_above m_under a_traySort a_trayMany a_numbers a_tape m_taped m_textEnd m_faultKind m_faultAt n_12 n_13 v_1454 v_1455 v_1456 v_1457 v_1458 v_1459 a_c a_words m_markMany a_there a_tried a_best a_found m_thereMany m_foundMany m_orderHow m_orderRing m_orderMany m_hasBest m_bestTop m_bestBy a_weights a_shared m_random m_truePlace m_trueWay m_seconds m_done m_feelings m_tries m_leftOver m_playDoor m_playRing m_isOpen m_isOver m_wasTried m_hasPlayed a_feltNow a_last a_kept m_hasSeconds m_hasTurned m_hasRound a_hasFeels a_isOn m_firstAct m_meanTop m_meanBy a_order m_rowMany m_newSteps 4 v_1455 (by decide +kernel) hr_n_12) lk_RX12_180 ⟨rfl, rfl⟩ ⟨Nat.le_of_ble_eq_true rfl, Nat.le_of_ble_eq_true rfl⟩ 12 rfl rfl rfl [4] [0, 1, 2, 3, 5] rfl rfl (by decide) rfl hl.1 rfl (lv_room (Nat.le_of_ble_eq_true rfl)) dX12_readFeels_120 ⟨Nat.le_of_ble_eq_true rfl, Nat.le_of_ble_eq_true rfl⟩ (fun u_2167 H locs hw hP hD hS => ?_)
                  obtain ⟨n_2164, n_2165⟩ := u_2167
                  try dsimp only at hw
                  obtain ⟨he_n_2164, he_n_2165, hw⟩ := hw
                  obtain ⟨hr_n_2164, hf_2169⟩ := hw
                  refine lv_aload_n hx hb dX12_readFeels_123 rfl (lv_at hl 0 rfl) ?_
                  refine va_get (D := G) (ci := 12) (v := .int n_2164) (C := RX12) (T := TX12) (N := 65) hx hb hts inT12 hown hK hP 5 rfl rfl 12 (by decide) (hts _ tw_1897) (fun _ h9 => h9) rfl dX12_readFeels_124 ?_
                  refine lv_if_ne (tgt := 147) hx hb dX12_readFeels_127 (by decide) (fun c_2170 => ?_) (fun h9 => (z_no (by have h8 := z_feqF h9; omega)))
                  have b_2171 := z_fneT c_2170
                  refine lv_iload_n hx hb dX12_readFeels_147 rfl (lv_at hl 3 rfl) ?_
                  refine lv_iload_n hx hb dX12_readFeels_148 rfl (lv_at hl 2 rfl) ?_
                  refine lv_irem hx hb dX12_readFeels_149 (z_nz (by omega)) ?_
                  refine lv_topi (fun x_2172 he_x_2172 => ?_)
                  have hq_x_2172 := z_remq he_x_2172 (rfl : v_1450.toInt = _) (by omega : x_45.toInt = 3) (by omega) (by decide)
                  refine lv_if_ne (tgt := 160) hx hb dX12_readFeels_150 (by decide) (fun c_2173 => ?_) (fun c_2173 => ?_)
                  · have b_2174 := z_fneT c_2173
                    refine lv_iload hx hb dX12_readFeels_160 (lv_at hl 4 rfl) ?_
                    refine lv_aload_n hx hb dX12_readFeels_162 rfl (lv_at hl 0 rfl) ?_
                    refine va_get (D := G) (ci := 12) (v := .int v_1457) (C := RX12) (T := TX12) (N := 65) hx hb hts inT12 hown hK hP 5 rfl rfl 17 (by decide) (hts _ tw_1902) (fun _ h9 => h9) rfl dX12_readFeels_163 ?_
                    refine lv_iadd hx hb dX12_readFeels_166 ?_
                    refine lv_topi (fun x_2175 he_x_2175 => ?_)
                    have hq_x_2175 := z_addq he_x_2175 (rfl : v_1451.toInt = _) (rfl : v_1457.toInt = _) (by omega) (by omega)
                    refine lv_istore (lv' := [(4, .int x_2175), (0, .ref h0), (1, .int r_14), (2, .int x_45), (3, .int v_1450), (5, .int v_1452)]) hx hb dX12_readFeels_167 hl (by decide) rfl (fun ls hl => ?_)
                    refine lv_aload_n hx hb dX12_readFeels_169 rfl (lv_at hl 1 rfl) ?_
                    refine va_get (D := G) (ci := 12) (v := .int n_2164) (C := RX12) (T := TX12) (N := 65) hx hb hts inT12 hown hK hP 5 rfl rfl 12 (by decide) (hts _ tw_1897) (fun _ h9 => h9) rfl dX12_readFeels_170 ?_
                    refine lv_if_ne (tgt := 202) hx hb dX12_readFeels_173 (by decide) (fun c_2176 => ?_) (fun h9 => (z_no (by have h8 := z_feqF h9; omega)))
                    have b_2177 := z_fneT c_2176
                    refine lv_aload_n hx hb dX12_readFeels_202 rfl (lv_at hl 1 rfl) ?_
                    refine va_get (D := G) (ci := 12) (v := .int n_2164) (C := RX12) (T := TX12) (N := 65) hx hb hts inT12 hown hK hP 5 rfl rfl 12 (by decide) (hts _ tw_1897) (fun _ h9 => h9) rfl dX12_readFeels_203 ?_
                    refine lv_if_le (tgt := 210) hx hb dX12_readFeels_206 (by decide) (fun h9 => (z_no (by have h8 := z_fleT h9; omega))) (fun c_2178 => ?_)
                    have b_2179 := z_fgtF c_2178
                    have hpost : (0 ≤ n_2164.toInt ∧ n_2164.toInt ≤ 9) ∧ (0 ≤ v_1454.toInt ∧ v_1454.toInt ≤ 4) ∧ (0 ≤ v_1455.toInt ∧ v_1455.toInt ≤ 900) ∧ (0 ≤ v_1456.toInt ∧ v_1456.toInt ≤ 900) ∧ (0 ≤ v_1457.toInt ∧ v_1457.toInt ≤ 9999) ∧ (0 ≤ v_1458.toInt ∧ v_1458.toInt ≤ 900) ∧ (zRg 3 0 1 g_32) ∧ (zC g_1453) ∧ (zNw g_1453 g_isOn) ∧ (m_behind.toInt ≤ v_1456.toInt) ∧ (0 < m_bad.toInt → 0 < n_2164.toInt) ∧ (n_2164.toInt ≤ 0 → v_1454.toInt = 0 ∨ m_behind.toInt < v_1456.toInt) ∧ (n_2164.toInt ≤ 0 → v_1454.toInt = 3 → v_1457.toInt = 59 → zNf g_1453) := ⟨(z_rgw hr_n_2164 (by decide) (by decide)), hr_v_1454, hr_v_1455, hr_v_1456, hr_v_1457, hr_v_1458, hC_g_32, hC_g_1453, hs_1690, (by omega), (by omega), (by omega), (fun h1 h2 h3 => z_no (by omega))⟩
                    have hX_2180 : F_r_readFeels m_textEnd m_bad m_badAt m_behind m_number m_letters m_word g_tape g_c g_words g_hasFeels = ((n_2164, n_2165, v_1454, v_1455, v_1456, v_1457, v_1458, v_1459, g_32, g_1453) : Int32 × Int32 × Int32 × Int32 × Int32 × Int32 × Int32 × Int64 × (Nat → Int32) × (Nat → Int32)) := by
                      refine hF_L74b.trans ?_
                      refine (F_r_readFeels_L74b_s ..).trans ?_
                      refine (if_neg c_1946).trans ?_
                      refine (if_pos c_1971).trans ?_
                      refine (if_neg c_1975).trans ?_
                      extract_lets -merge -useContext +onlyGivenNames w9 y3_0 y3_1; have e9 : (n_2164, n_2165) = w9 := ((z_tS he_n_2164 he_n_2165.symm)).symm; clear_value w9; subst e9
                      try (extract_lets -merge -useContext +onlyGivenNames y9; have e9 : x_2172 = y9 := (by first | exact he_x_2172 | exact he_x_2172.symm); clear_value y9; subst e9)
                      refine (if_neg c_2173).trans ?_
                      try (extract_lets -merge -useContext +onlyGivenNames y9; have e9 : x_2175 = y9 := (by first | exact he_x_2175 | exact he_x_2175.symm); clear_value y9; subst e9)
                      exact rfl
                    exact hret _ _ _ _ _ (n_2164, n_2165, v_1454, v_1455, v_1456, v_1457, v_1458, v_1459, g_32, g_1453) [5, 4, 2, 3, 0, 1] hP hD hS rfl (by decide) dX12_readFeels_209 ⟨(congrArg (fun z9 => z9.1) hX_2180).symm, (congrArg (fun z9 => z9.2.1) hX_2180).symm, (congrArg (fun z9 => z9.2.2.1) hX_2180).symm, (congrArg (fun z9 => z9.2.2.2.1) hX_2180).symm, (congrArg (fun z9 => z9.2.2.2.2.1) hX_2180).symm, (congrArg (fun z9 => z9.2.2.2.2.2.1) hX_2180).symm, (congrArg (fun z9 => z9.2.2.2.2.2.2.1) hX_2180).symm, (congrArg (fun z9 => z9.2.2.2.2.2.2.2.1) hX_2180).symm, (congrArg (fun z9 => z9.2.2.2.2.2.2.2.2.1) hX_2180).symm, (congrArg (fun z9 => z9.2.2.2.2.2.2.2.2.2) hX_2180).symm, hpost⟩
                  · have b_2181 := z_feqF c_2173
                    refine lv_aload_n hx hb dX12_readFeels_153 rfl (lv_at hl 0 rfl) ?_
                    refine va_get (D := G) (ci := 12) (v := .int v_1457) (C := RX12) (T := TX12) (N := 65) hx hb hts inT12 hown hK hP 5 rfl rfl 17 (by decide) (hts _ tw_1902) (fun _ h9 => h9) rfl dX12_readFeels_154 ?_
                    refine lv_goto (tgt := 167) hx hb dX12_readFeels_157 (by decide) ?_
                    refine lv_istore (lv' := [(4, .int v_1457), (0, .ref h0), (1, .int r_14), (2, .int x_45), (3, .int v_1450), (5, .int v_1452)]) hx hb dX12_readFeels_167 hl (by decide) rfl (fun ls hl => ?_)
                    refine lv_aload_n hx hb dX12_readFeels_169 rfl (lv_at hl 1 rfl) ?_
                    refine va_get (D := G) (ci := 12) (v := .int n_2164) (C := RX12) (T := TX12) (N := 65) hx hb hts inT12 hown hK hP 5 rfl rfl 12 (by decide) (hts _ tw_1897) (fun _ h9 => h9) rfl dX12_readFeels_170 ?_
                    refine lv_if_ne (tgt := 202) hx hb dX12_readFeels_173 (by decide) (fun c_2182 => ?_) (fun h9 => (z_no (by have h8 := z_feqF h9; omega)))
                    have b_2183 := z_fneT c_2182
                    refine lv_aload_n hx hb dX12_readFeels_202 rfl (lv_at hl 1 rfl) ?_
                    refine va_get (D := G) (ci := 12) (v := .int n_2164) (C := RX12) (T := TX12) (N := 65) hx hb hts inT12 hown hK hP 5 rfl rfl 12 (by decide) (hts _ tw_1897) (fun _ h9 => h9) rfl dX12_readFeels_203 ?_
                    refine lv_if_le (tgt := 210) hx hb dX12_readFeels_206 (by decide) (fun h9 => (z_no (by have h8 := z_fleT h9; omega))) (fun c_2184 => ?_)
                    have b_2185 := z_fgtF c_2184
                    have hpost : (0 ≤ n_2164.toInt ∧ n_2164.toInt ≤ 9) ∧ (0 ≤ v_1454.toInt ∧ v_1454.toInt ≤ 4) ∧ (0 ≤ v_1455.toInt ∧ v_1455.toInt ≤ 900) ∧ (0 ≤ v_1456.toInt ∧ v_1456.toInt ≤ 900) ∧ (0 ≤ v_1457.toInt ∧ v_1457.toInt ≤ 9999) ∧ (0 ≤ v_1458.toInt ∧ v_1458.toInt ≤ 900) ∧ (zRg 3 0 1 g_32) ∧ (zC g_1453) ∧ (zNw g_1453 g_isOn) ∧ (m_behind.toInt ≤ v_1456.toInt) ∧ (0 < m_bad.toInt → 0 < n_2164.toInt) ∧ (n_2164.toInt ≤ 0 → v_1454.toInt = 0 ∨ m_behind.toInt < v_1456.toInt) ∧ (n_2164.toInt ≤ 0 → v_1454.toInt = 3 → v_1457.toInt = 59 → zNf g_1453) := ⟨(z_rgw hr_n_2164 (by decide) (by decide)), hr_v_1454, hr_v_1455, hr_v_1456, hr_v_1457, hr_v_1458, hC_g_32, hC_g_1453, hs_1690, (by omega), (by omega), (by omega), (fun h1 h2 h3 => z_no (by omega))⟩
                    have hX_2186 : F_r_readFeels m_textEnd m_bad m_badAt m_behind m_number m_letters m_word g_tape g_c g_words g_hasFeels = ((n_2164, n_2165, v_1454, v_1455, v_1456, v_1457, v_1458, v_1459, g_32, g_1453) : Int32 × Int32 × Int32 × Int32 × Int32 × Int32 × Int32 × Int64 × (Nat → Int32) × (Nat → Int32)) := by
                      refine hF_L74b.trans ?_
                      refine (F_r_readFeels_L74b_s ..).trans ?_
                      refine (if_neg c_1946).trans ?_
                      refine (if_pos c_1971).trans ?_
                      refine (if_neg c_1975).trans ?_
                      extract_lets -merge -useContext +onlyGivenNames w9 y3_0 y3_1; have e9 : (n_2164, n_2165) = w9 := ((z_tS he_n_2164 he_n_2165.symm)).symm; clear_value w9; subst e9
                      try (extract_lets -merge -useContext +onlyGivenNames y9; have e9 : x_2172 = y9 := (by first | exact he_x_2172 | exact he_x_2172.symm); clear_value y9; subst e9)
                      refine (if_pos c_2173).trans ?_
                      exact rfl
                    exact hret _ _ _ _ _ (n_2164, n_2165, v_1454, v_1455, v_1456, v_1457, v_1458, v_1459, g_32, g_1453) [5, 4, 2, 3, 0, 1] hP hD hS rfl (by decide) dX12_readFeels_209 ⟨(congrArg (fun z9 => z9.1) hX_2186).symm, (congrArg (fun z9 => z9.2.1) hX_2186).symm, (congrArg (fun z9 => z9.2.2.1) hX_2186).symm, (congrArg (fun z9 => z9.2.2.2.1) hX_2186).symm, (congrArg (fun z9 => z9.2.2.2.2.1) hX_2186).symm, (congrArg (fun z9 => z9.2.2.2.2.2.1) hX_2186).symm, (congrArg (fun z9 => z9.2.2.2.2.2.2.1) hX_2186).symm, (congrArg (fun z9 => z9.2.2.2.2.2.2.2.1) hX_2186).symm, (congrArg (fun z9 => z9.2.2.2.2.2.2.2.2.1) hX_2186).symm, (congrArg (fun z9 => z9.2.2.2.2.2.2.2.2.2) hX_2186).symm, hpost⟩
              · have b_2187 := z_fneF c_1971
                refine lv_aload_n hx hb dX12_readFeels_94 rfl (lv_at hl 0 rfl) ?_
                refine z_callVv (As := []) (rest := []) (wr := [(a_hasFeels, .inl (cA.1 3, 3, .inl g_32)), (a_isOn, .inl (cA.1 3, 10, .inl g_isOn)), (a_c, .inl (cA.1 0, 1825, .inl g_1453)), (a_words, .inl (cA.1 1, 105, .inr (.inl g_words))), (a_tape, .inl (cA.1 2, 900, .inl g_tape))]) ⟨hx, hb, hml, hown, hts⟩ hK hE hT hP hD hS hA (r_wrong l G cA h0 m_status m_thrown m_above m_under a_traySort a_trayMany a_numbers a_tape m_taped m_textEnd m_faultKind m_faultAt n_12 n_13 v_1454 v_1455 v_1456 v_1457 v_1458 v_1459 a_c a_words m_markMany a_there a_tried a_best a_found m_thereMany m_foundMany m_orderHow m_orderRing m_orderMany m_hasBest m_bestTop m_bestBy a_weights a_shared m_random m_truePlace m_trueWay m_seconds m_done m_feelings m_tries m_leftOver m_playDoor m_playRing m_isOpen m_isOver m_wasTried m_hasPlayed a_feltNow a_last a_kept m_hasSeconds m_hasTurned m_hasRound a_hasFeels a_isOn m_firstAct m_meanTop m_meanBy a_order m_rowMany m_newSteps hr_v_1455 hr_n_12 hr_v_1454) lk_RX12_187 ⟨rfl, rfl⟩ ⟨Nat.le_of_ble_eq_true rfl, Nat.le_of_ble_eq_true rfl⟩ 12 rfl rfl rfl [4] [0, 1, 2, 3, 5] rfl rfl (by decide) rfl hl.1 rfl (lv_room (Nat.le_of_ble_eq_true rfl)) dX12_readFeels_95 ⟨Nat.le_of_ble_eq_true rfl, Nat.le_of_ble_eq_true rfl⟩ (fun u_2191 H locs hw hP hD hS => ?_)
                obtain ⟨n_2188, n_2189⟩ := u_2191
                try dsimp only at hw
                obtain ⟨he_n_2188, he_n_2189, hw⟩ := hw
                have hr_n_2188 := hw
                refine lv_aload_n hx hb dX12_readFeels_98 rfl (lv_at hl 0 rfl) ?_
                refine va_get (D := G) (ci := 12) (v := .int n_2188) (C := RX12) (T := TX12) (N := 65) hx hb hts inT12 hown hK hP 5 rfl rfl 12 (by decide) (hts _ tw_1897) (fun _ h9 => h9) rfl dX12_readFeels_99 ?_
                refine lv_if_ne (tgt := 123) hx hb dX12_readFeels_102 (by decide) (fun c_2193 => ?_) (fun h9 => (z_no (by have h8 := z_feqF h9; omega)))
                have b_2194 := z_fneT c_2193
                refine lv_aload_n hx hb dX12_readFeels_123 rfl (lv_at hl 0 rfl) ?_
                refine va_get (D := G) (ci := 12) (v := .int n_2188) (C := RX12) (T := TX12) (N := 65) hx hb hts inT12 hown hK hP 5 rfl rfl 12 (by decide) (hts _ tw_1897) (fun _ h9 => h9) rfl dX12_readFeels_124 ?_
                refine lv_if_ne (tgt := 147) hx hb dX12_readFeels_127 (by decide) (fun c_2195 => ?_) (fun h9 => (z_no (by have h8 := z_feqF h9; omega)))
                have b_2196 := z_fneT c_2195
                refine lv_iload_n hx hb dX12_readFeels_147 rfl (lv_at hl 3 rfl) ?_
                refine lv_iload_n hx hb dX12_readFeels_148 rfl (lv_at hl 2 rfl) ?_
                refine lv_irem hx hb dX12_readFeels_149 (z_nz (by omega)) ?_
                refine lv_topi (fun x_2197 he_x_2197 => ?_)
                have hq_x_2197 := z_remq he_x_2197 (rfl : v_1450.toInt = _) (by omega : x_45.toInt = 3) (by omega) (by decide)
                refine lv_if_ne (tgt := 160) hx hb dX12_readFeels_150 (by decide) (fun c_2198 => ?_) (fun c_2198 => ?_)
                · have b_2199 := z_fneT c_2198
                  refine lv_iload hx hb dX12_readFeels_160 (lv_at hl 4 rfl) ?_
                  refine lv_aload_n hx hb dX12_readFeels_162 rfl (lv_at hl 0 rfl) ?_
                  refine va_get (D := G) (ci := 12) (v := .int v_1457) (C := RX12) (T := TX12) (N := 65) hx hb hts inT12 hown hK hP 5 rfl rfl 17 (by decide) (hts _ tw_1902) (fun _ h9 => h9) rfl dX12_readFeels_163 ?_
                  refine lv_iadd hx hb dX12_readFeels_166 ?_
                  refine lv_topi (fun x_2200 he_x_2200 => ?_)
                  have hq_x_2200 := z_addq he_x_2200 (rfl : v_1451.toInt = _) (rfl : v_1457.toInt = _) (by omega) (by omega)
                  refine lv_istore (lv' := [(4, .int x_2200), (0, .ref h0), (1, .int r_14), (2, .int x_45), (3, .int v_1450), (5, .int v_1452)]) hx hb dX12_readFeels_167 hl (by decide) rfl (fun ls hl => ?_)
                  refine lv_aload_n hx hb dX12_readFeels_169 rfl (lv_at hl 1 rfl) ?_
                  refine va_get (D := G) (ci := 12) (v := .int n_2188) (C := RX12) (T := TX12) (N := 65) hx hb hts inT12 hown hK hP 5 rfl rfl 12 (by decide) (hts _ tw_1897) (fun _ h9 => h9) rfl dX12_readFeels_170 ?_
                  refine lv_if_ne (tgt := 202) hx hb dX12_readFeels_173 (by decide) (fun c_2201 => ?_) (fun h9 => (z_no (by have h8 := z_feqF h9; omega)))
                  have b_2202 := z_fneT c_2201
                  refine lv_aload_n hx hb dX12_readFeels_202 rfl (lv_at hl 1 rfl) ?_
                  refine va_get (D := G) (ci := 12) (v := .int n_2188) (C := RX12) (T := TX12) (N := 65) hx hb hts inT12 hown hK hP 5 rfl rfl 12 (by decide) (hts _ tw_1897) (fun _ h9 => h9) rfl dX12_readFeels_203 ?_
                  refine lv_if_le (tgt := 210) hx hb dX12_readFeels_206 (by decide) (fun h9 => (z_no (by have h8 := z_fleT h9; omega))) (fun c_2203 => ?_)
                  have b_2204 := z_fgtF c_2203
                  have hpost : (0 ≤ n_2188.toInt ∧ n_2188.toInt ≤ 9) ∧ (0 ≤ v_1454.toInt ∧ v_1454.toInt ≤ 4) ∧ (0 ≤ v_1455.toInt ∧ v_1455.toInt ≤ 900) ∧ (0 ≤ v_1456.toInt ∧ v_1456.toInt ≤ 900) ∧ (0 ≤ v_1457.toInt ∧ v_1457.toInt ≤ 9999) ∧ (0 ≤ v_1458.toInt ∧ v_1458.toInt ≤ 900) ∧ (zRg 3 0 1 g_32) ∧ (zC g_1453) ∧ (zNw g_1453 g_isOn) ∧ (m_behind.toInt ≤ v_1456.toInt) ∧ (0 < m_bad.toInt → 0 < n_2188.toInt) ∧ (n_2188.toInt ≤ 0 → v_1454.toInt = 0 ∨ m_behind.toInt < v_1456.toInt) ∧ (n_2188.toInt ≤ 0 → v_1454.toInt = 3 → v_1457.toInt = 59 → zNf g_1453) := ⟨(z_rgw hr_n_2188 (by decide) (by decide)), hr_v_1454, hr_v_1455, hr_v_1456, hr_v_1457, hr_v_1458, hC_g_32, hC_g_1453, hs_1690, (by omega), (by omega), (by omega), (fun h1 h2 h3 => z_no (by omega))⟩
                  have hX_2205 : F_r_readFeels m_textEnd m_bad m_badAt m_behind m_number m_letters m_word g_tape g_c g_words g_hasFeels = ((n_2188, n_2189, v_1454, v_1455, v_1456, v_1457, v_1458, v_1459, g_32, g_1453) : Int32 × Int32 × Int32 × Int32 × Int32 × Int32 × Int32 × Int64 × (Nat → Int32) × (Nat → Int32)) := by
                    refine hF_L74b.trans ?_
                    refine (F_r_readFeels_L74b_s ..).trans ?_
                    refine (if_neg c_1946).trans ?_
                    refine (if_neg c_1971).trans ?_
                    extract_lets -merge -useContext +onlyGivenNames w9 y2_0 y2_1; have e9 : (n_2188, n_2189) = w9 := ((z_tS he_n_2188 he_n_2189.symm)).symm; clear_value w9; subst e9
                    try (extract_lets -merge -useContext +onlyGivenNames y9; have e9 : x_2197 = y9 := (by first | exact he_x_2197 | exact he_x_2197.symm); clear_value y9; subst e9)
                    refine (if_neg c_2198).trans ?_
                    try (extract_lets -merge -useContext +onlyGivenNames y9; have e9 : x_2200 = y9 := (by first | exact he_x_2200 | exact he_x_2200.symm); clear_value y9; subst e9)
                    exact rfl
                  exact hret _ _ _ _ _ (n_2188, n_2189, v_1454, v_1455, v_1456, v_1457, v_1458, v_1459, g_32, g_1453) [5, 4, 2, 3, 0, 1] hP hD hS rfl (by decide) dX12_readFeels_209 ⟨(congrArg (fun z9 => z9.1) hX_2205).symm, (congrArg (fun z9 => z9.2.1) hX_2205).symm, (congrArg (fun z9 => z9.2.2.1) hX_2205).symm, (congrArg (fun z9 => z9.2.2.2.1) hX_2205).symm, (congrArg (fun z9 => z9.2.2.2.2.1) hX_2205).symm, (congrArg (fun z9 => z9.2.2.2.2.2.1) hX_2205).symm, (congrArg (fun z9 => z9.2.2.2.2.2.2.1) hX_2205).symm, (congrArg (fun z9 => z9.2.2.2.2.2.2.2.1) hX_2205).symm, (congrArg (fun z9 => z9.2.2.2.2.2.2.2.2.1) hX_2205).symm, (congrArg (fun z9 => z9.2.2.2.2.2.2.2.2.2) hX_2205).symm, hpost⟩
                · have b_2206 := z_feqF c_2198
                  refine lv_aload_n hx hb dX12_readFeels_153 rfl (lv_at hl 0 rfl) ?_
                  refine va_get (D := G) (ci := 12) (v := .int v_1457) (C := RX12) (T := TX12) (N := 65) hx hb hts inT12 hown hK hP 5 rfl rfl 17 (by decide) (hts _ tw_1902) (fun _ h9 => h9) rfl dX12_readFeels_154 ?_
                  refine lv_goto (tgt := 167) hx hb dX12_readFeels_157 (by decide) ?_
                  refine lv_istore (lv' := [(4, .int v_1457), (0, .ref h0), (1, .int r_14), (2, .int x_45), (3, .int v_1450), (5, .int v_1452)]) hx hb dX12_readFeels_167 hl (by decide) rfl (fun ls hl => ?_)
                  refine lv_aload_n hx hb dX12_readFeels_169 rfl (lv_at hl 1 rfl) ?_
                  refine va_get (D := G) (ci := 12) (v := .int n_2188) (C := RX12) (T := TX12) (N := 65) hx hb hts inT12 hown hK hP 5 rfl rfl 12 (by decide) (hts _ tw_1897) (fun _ h9 => h9) rfl dX12_readFeels_170 ?_
                  refine lv_if_ne (tgt := 202) hx hb dX12_readFeels_173 (by decide) (fun c_2207 => ?_) (fun h9 => (z_no (by have h8 := z_feqF h9; omega)))
                  have b_2208 := z_fneT c_2207
                  refine lv_aload_n hx hb dX12_readFeels_202 rfl (lv_at hl 1 rfl) ?_
                  refine va_get (D := G) (ci := 12) (v := .int n_2188) (C := RX12) (T := TX12) (N := 65) hx hb hts inT12 hown hK hP 5 rfl rfl 12 (by decide) (hts _ tw_1897) (fun _ h9 => h9) rfl dX12_readFeels_203 ?_
                  refine lv_if_le (tgt := 210) hx hb dX12_readFeels_206 (by decide) (fun h9 => (z_no (by have h8 := z_fleT h9; omega))) (fun c_2209 => ?_)
                  have b_2210 := z_fgtF c_2209
                  have hpost : (0 ≤ n_2188.toInt ∧ n_2188.toInt ≤ 9) ∧ (0 ≤ v_1454.toInt ∧ v_1454.toInt ≤ 4) ∧ (0 ≤ v_1455.toInt ∧ v_1455.toInt ≤ 900) ∧ (0 ≤ v_1456.toInt ∧ v_1456.toInt ≤ 900) ∧ (0 ≤ v_1457.toInt ∧ v_1457.toInt ≤ 9999) ∧ (0 ≤ v_1458.toInt ∧ v_1458.toInt ≤ 900) ∧ (zRg 3 0 1 g_32) ∧ (zC g_1453) ∧ (zNw g_1453 g_isOn) ∧ (m_behind.toInt ≤ v_1456.toInt) ∧ (0 < m_bad.toInt → 0 < n_2188.toInt) ∧ (n_2188.toInt ≤ 0 → v_1454.toInt = 0 ∨ m_behind.toInt < v_1456.toInt) ∧ (n_2188.toInt ≤ 0 → v_1454.toInt = 3 → v_1457.toInt = 59 → zNf g_1453) := ⟨(z_rgw hr_n_2188 (by decide) (by decide)), hr_v_1454, hr_v_1455, hr_v_1456, hr_v_1457, hr_v_1458, hC_g_32, hC_g_1453, hs_1690, (by omega), (by omega), (by omega), (fun h1 h2 h3 => z_no (by omega))⟩
                  have hX_2211 : F_r_readFeels m_textEnd m_bad m_badAt m_behind m_number m_letters m_word g_tape g_c g_words g_hasFeels = ((n_2188, n_2189, v_1454, v_1455, v_1456, v_1457, v_1458, v_1459, g_32, g_1453) : Int32 × Int32 × Int32 × Int32 × Int32 × Int32 × Int32 × Int64 × (Nat → Int32) × (Nat → Int32)) := by
                    refine hF_L74b.trans ?_
                    refine (F_r_readFeels_L74b_s ..).trans ?_
                    refine (if_neg c_1946).trans ?_
                    refine (if_neg c_1971).trans ?_
                    extract_lets -merge -useContext +onlyGivenNames w9 y2_0 y2_1; have e9 : (n_2188, n_2189) = w9 := ((z_tS he_n_2188 he_n_2189.symm)).symm; clear_value w9; subst e9
                    try (extract_lets -merge -useContext +onlyGivenNames y9; have e9 : x_2197 = y9 := (by first | exact he_x_2197 | exact he_x_2197.symm); clear_value y9; subst e9)
                    refine (if_pos c_2198).trans ?_
                    exact rfl
                  exact hret _ _ _ _ _ (n_2188, n_2189, v_1454, v_1455, v_1456, v_1457, v_1458, v_1459, g_32, g_1453) [5, 4, 2, 3, 0, 1] hP hD hS rfl (by decide) dX12_readFeels_209 ⟨(congrArg (fun z9 => z9.1) hX_2211).symm, (congrArg (fun z9 => z9.2.1) hX_2211).symm, (congrArg (fun z9 => z9.2.2.1) hX_2211).symm, (congrArg (fun z9 => z9.2.2.2.1) hX_2211).symm, (congrArg (fun z9 => z9.2.2.2.2.1) hX_2211).symm, (congrArg (fun z9 => z9.2.2.2.2.2.1) hX_2211).symm, (congrArg (fun z9 => z9.2.2.2.2.2.2.1) hX_2211).symm, (congrArg (fun z9 => z9.2.2.2.2.2.2.2.1) hX_2211).symm, (congrArg (fun z9 => z9.2.2.2.2.2.2.2.2.1) hX_2211).symm, (congrArg (fun z9 => z9.2.2.2.2.2.2.2.2.2) hX_2211).symm, hpost⟩
        have hX_2212 : F_r_readFeels m_textEnd m_bad m_badAt m_behind m_number m_letters m_word g_tape g_c g_words g_hasFeels = F_r_readFeels_L74b m_textEnd g_tape r_14 n_12 n_13 g_32 x_45 ((900 - n_35.toInt + (1 : Int32).toInt).toNat + 1) (0 : Int32) (0 : Int32) (1 : Int32) g_c n_33 n_34 n_35 n_36 n_37 n_38 := by
          refine (F_r_readFeels_s ..).trans ?_
          extract_lets -merge -useContext +onlyGivenNames w9 y0_0 y0_1 y0_2 y0_3 y0_4 y0_5; have e9 : (n_1, n_2, n_3, n_4, n_5, n_6) = w9 := ((z_tS he_n_1 (z_tS he_n_2 (z_tS he_n_3 (z_tS he_n_4 (z_tS he_n_5 he_n_6.symm)))))).symm; clear_value w9; subst e9
          extract_lets -merge -useContext +onlyGivenNames w9 y1_0 y1_1 y1_2; have e9 : (r_14, n_12, n_13) = w9 := ((z_tS he_r_14 (z_tS he_n_12 he_n_13.symm))).symm; clear_value w9; subst e9
          refine (if_pos c_20).trans ?_
          try (extract_lets -merge -useContext +onlyGivenNames y9; have e9 : x_26 = y9 := (by first | exact he_x_26 | exact he_x_26.symm); clear_value y9; subst e9)
          refine (if_pos c_27).trans ?_
          try (extract_lets -merge -useContext +onlyGivenNames y9; have e9 : g_32 = y9 := (by first | exact hg_g_32 | exact hg_g_32.symm); clear_value y9; subst e9)
          extract_lets -merge -useContext +onlyGivenNames w9 y6_0 y6_1 y6_2 y6_3 y6_4 y6_5; have e9 : (n_33, n_34, n_35, n_36, n_37, n_38) = w9 := ((z_tS he_n_33 (z_tS he_n_34 (z_tS he_n_35 (z_tS he_n_36 (z_tS he_n_37 he_n_38.symm)))))).symm; clear_value w9; subst e9
          try (extract_lets -merge -useContext +onlyGivenNames y9; have e9 : x_44 = y9 := (by first | exact he_x_44 | exact he_x_44.symm); clear_value y9; subst e9)
          try (extract_lets -merge -useContext +onlyGivenNames y9; have e9 : x_45 = y9 := (by first | exact he_x_45 | exact he_x_45.symm); clear_value y9; subst e9)
          exact rfl
        exact hlp_1944 ((900 - n_35.toInt + (1 : Int32).toInt).toNat + 1) 0 0 1 g_c n_33 n_34 n_35 n_36 n_37 n_38 _ _ _ (Nat.lt_succ_self _) (by decide +kernel) (by decide +kernel) (by decide +kernel) hC_g_c hr_n_33 hr_n_34 hr_n_35 hr_n_36 hr_n_37 hNW0 (zFl_0 (by omega)) (by omega) (by omega) (by omega) (by omega) (by omega) hX_2212 hP hD hS (lv_sub hl [5, 4, 3, 2, 1, 0] rfl)
      · skip
        refine lv_iconst (v := 0) hx hb dX12_readFeels_66 (by decide) ?_
        refine lv_istore_n (lv' := [(3, .int 0), (2, .int x_45), (1, .int r_14), (0, .ref h0)]) hx hb dX12_readFeels_67 rfl hl (by decide) rfl (fun ls hl => ?_)
        refine lv_iconst (v := 0) hx hb dX12_readFeels_68 (by decide) ?_
        refine lv_istore (lv' := [(4, .int 0), (3, .int 0), (2, .int x_45), (1, .int r_14), (0, .ref h0)]) hx hb dX12_readFeels_69 hl (by decide) rfl (fun ls hl => ?_)
        refine lv_iconst (v := 1) hx hb dX12_readFeels_71 (by decide) ?_
        refine lv_istore (lv' := [(5, .int 1), (4, .int 0), (3, .int 0), (2, .int x_45), (1, .int r_14), (0, .ref h0)]) hx hb dX12_readFeels_72 hl (by decide) rfl (fun ls hl => ?_)
        have hlp_3027 : ∀ (n_L74c : Nat) (v_2533 : Int32) (v_2534 : Int32) (v_2535 : Int32) (g_2536 : Nat → Int32) (v_2537 : Int32) (v_2538 : Int32) (v_2539 : Int32) (v_2540 : Int32) (v_2541 : Int32) (v_2542 : Int64) (H : Heap) (locs : List Loc) (ls : Array Slot), (900 - v_2539.toInt + v_2535.toInt).toNat < n_L74c → (0 ≤ v_2533.toInt ∧ v_2533.toInt ≤ 16) → (0 ≤ v_2534.toInt ∧ v_2534.toInt ≤ 256) → (0 ≤ v_2535.toInt ∧ v_2535.toInt ≤ 1) → (zC g_2536) → (0 ≤ v_2537.toInt ∧ v_2537.toInt ≤ 4) → (0 ≤ v_2538.toInt ∧ v_2538.toInt ≤ 900) → (0 ≤ v_2539.toInt ∧ v_2539.toInt ≤ 900) → (0 ≤ v_2540.toInt ∧ v_2540.toInt ≤ 9999) → (0 ≤ v_2541.toInt ∧ v_2541.toInt ≤ 900) → (zNw g_2536 g_isOn) → (zFl g_c g_2536 r_14.toInt x_45.toInt v_2533.toInt v_2534.toInt) → (v_2533.toInt ≤ 16) → (v_2534.toInt ≤ 16 * v_2533.toInt) → ((g_2536 1460).toInt = (g_c 1460).toInt) → (m_behind.toInt ≤ v_2539.toInt) → (n_12.toInt ≤ 0 → v_2537.toInt = 0 ∨ m_behind.toInt < v_2539.toInt) → (F_r_readFeels m_textEnd m_bad m_badAt m_behind m_number m_letters m_word g_tape g_c g_words g_hasFeels = F_r_readFeels_L74c m_textEnd g_tape r_14 n_12 n_13 g_32 x_45 n_L74c v_2533 v_2534 v_2535 g_2536 v_2537 v_2538 v_2539 v_2540 v_2541 v_2542) → va_P G vwCl [(a_hasFeels, .inl (cA.1 3, 3, .inl g_32)), (a_isOn, .inl (cA.1 3, 10, .inl g_isOn)), (a_c, .inl (cA.1 0, 1825, .inl g_2536)), (a_words, .inl (cA.1 1, 105, .inr (.inl g_words))), (h0, .inr (12, [.int m_status, .int m_thrown, .long m_above, .long m_under, .ref a_traySort, .ref a_trayMany, .ref a_numbers, .ref a_tape, .int m_taped, .int m_textEnd, .int m_faultKind, .int m_faultAt, .int n_12, .int n_13, .int v_2537, .int v_2538, .int v_2539, .int v_2540, .int v_2541, .long v_2542, .ref a_c, .ref a_words, .int m_markMany, .ref a_there, .ref a_tried, .ref a_best, .ref a_found, .int m_thereMany, .int m_foundMany, .int m_orderHow, .int m_orderRing, .int m_orderMany, .int m_hasBest, .long m_bestTop, .long m_bestBy, .ref a_weights, .ref a_shared, .int m_random, .int m_truePlace, .int m_trueWay, .int m_seconds, .int m_done, .int m_feelings, .int m_tries, .int m_leftOver, .int m_playDoor, .int m_playRing, .int m_isOpen, .int m_isOver, .int m_wasTried, .int m_hasPlayed, .ref a_feltNow, .ref a_last, .ref a_kept, .int m_hasSeconds, .int m_hasTurned, .int m_hasRound, .ref a_hasFeels, .ref a_isOn, .int m_firstAct, .long m_meanTop, .long m_meanBy, .ref a_order, .int m_rowMany, .int m_newSteps])), (a_tape, .inl (cA.1 2, 900, .inl g_tape))] H → va_D A [(a_hasFeels, .inl (cA.1 3, 3, .inl g_32)), (a_isOn, .inl (cA.1 3, 10, .inl g_isOn)), (a_c, .inl (cA.1 0, 1825, .inl g_2536)), (a_words, .inl (cA.1 1, 105, .inr (.inl g_words))), (h0, .inr (12, [.int m_status, .int m_thrown, .long m_above, .long m_under, .ref a_traySort, .ref a_trayMany, .ref a_numbers, .ref a_tape, .int m_taped, .int m_textEnd, .int m_faultKind, .int m_faultAt, .int n_12, .int n_13, .int v_2537, .int v_2538, .int v_2539, .int v_2540, .int v_2541, .long v_2542, .ref a_c, .ref a_words, .int m_markMany, .ref a_there, .ref a_tried, .ref a_best, .ref a_found, .int m_thereMany, .int m_foundMany, .int m_orderHow, .int m_orderRing, .int m_orderMany, .int m_hasBest, .long m_bestTop, .long m_bestBy, .ref a_weights, .ref a_shared, .int m_random, .int m_truePlace, .int m_trueWay, .int m_seconds, .int m_done, .int m_feelings, .int m_tries, .int m_leftOver, .int m_playDoor, .int m_playRing, .int m_isOpen, .int m_isOver, .int m_wasTried, .int m_hasPlayed, .ref a_feltNow, .ref a_last, .ref a_kept, .int m_hasSeconds, .int m_hasTurned, .int m_hasRound, .ref a_hasFeels, .ref a_isOn, .int m_firstAct, .long m_meanTop, .long m_meanBy, .ref a_order, .int m_rowMany, .int m_newSteps])), (a_tape, .inl (cA.1 2, 900, .inl g_tape))] → va_S A s.heap H locs → lv_has ls 6 [(0, .ref h0), (1, .int r_14), (2, .int x_45), (3, .int v_2533), (4, .int v_2534), (5, .int v_2535)] → W p l e ({ frames := 4, cells := 0, slots := 0, locals := 90 }) s m args below meth c H locs 0 0 Q (F0 m 74 ls []) := by
          intro n_L74c
          induction n_L74c with
          | zero =>
            intro v_2533 v_2534 v_2535 g_2536 v_2537 v_2538 v_2539 v_2540 v_2541 v_2542 H locs ls hmu_hlp_3027 hr_v_2533 hr_v_2534 hr_v_2535 hC_g_2536 hr_v_2537 hr_v_2538 hr_v_2539 hr_v_2540 hr_v_2541 hs_2773 hi_2774 hi_2775 hi_2776 hi_2777 hi_2778 hi_2779 hF_L74c hP hD hS hl
            exact absurd hmu_hlp_3027 (Nat.not_lt_zero _)
          | succ n_L74c ih_3028 =>
            intro v_2533 v_2534 v_2535 g_2536 v_2537 v_2538 v_2539 v_2540 v_2541 v_2542 H locs ls hmu_hlp_3027 hr_v_2533 hr_v_2534 hr_v_2535 hC_g_2536 hr_v_2537 hr_v_2538 hr_v_2539 hr_v_2540 hr_v_2541 hs_2773 hi_2774 hi_2775 hi_2776 hi_2777 hi_2778 hi_2779 hF_L74c hP hD hS hl
            refine lv_iload hx hb dX12_readFeels_74 (lv_at hl 5 rfl) ?_
            refine lv_if_eq (tgt := 262) hx hb dX12_readFeels_76 (by decide) (fun c_3029 => ?_) (fun c_3029 => ?_)
            · have b_3030 := z_feqT c_3029
              refine lv_aload_n hx hb dX12_readFeels_262 rfl (lv_at hl 0 rfl) ?_
              refine va_get (D := G) (ci := 12) (v := .int n_12) (C := RX12) (T := TX12) (N := 65) hx hb hts inT12 hown hK hP 4 rfl rfl 12 (by decide) (hts _ tw_1897) (fun _ h9 => h9) rfl dX12_readFeels_263 ?_
              refine lv_if_ne (tgt := 295) hx hb dX12_readFeels_266 (by decide) (fun h9 => (z_no (by have h8 := z_fneT h9; omega))) (fun c_3031 => ?_)
              have b_3032 := z_feqF c_3031
              refine lv_aload_n hx hb dX12_readFeels_269 rfl (lv_at hl 0 rfl) ?_
              refine lv_bipush (v := 59) hx hb dX12_readFeels_270 (by decide) ?_
              refine z_callVi (As := [.int 59]) (rest := []) (wr := [(a_hasFeels, .inl (cA.1 3, 3, .inl g_32)), (a_isOn, .inl (cA.1 3, 10, .inl g_isOn)), (a_c, .inl (cA.1 0, 1825, .inl g_2536)), (a_words, .inl (cA.1 1, 105, .inr (.inl g_words))), (a_tape, .inl (cA.1 2, 900, .inl g_tape))]) ⟨hx, hb, hml, hown, hts⟩ hK hE hT hP hD hS hA (r_isSign l G cA h0 m_status m_thrown m_above m_under a_traySort a_trayMany a_numbers a_tape m_taped m_textEnd m_faultKind m_faultAt n_12 n_13 v_2537 v_2538 v_2539 v_2540 v_2541 v_2542 a_c a_words m_markMany a_there a_tried a_best a_found m_thereMany m_foundMany m_orderHow m_orderRing m_orderMany m_hasBest m_bestTop m_bestBy a_weights a_shared m_random m_truePlace m_trueWay m_seconds m_done m_feelings m_tries m_leftOver m_playDoor m_playRing m_isOpen m_isOver m_wasTried m_hasPlayed a_feltNow a_last a_kept m_hasSeconds m_hasTurned m_hasRound a_hasFeels a_isOn m_firstAct m_meanTop m_meanBy a_order m_rowMany m_newSteps 59 hr_v_2537 hr_v_2540) lk_RX12_220 ⟨rfl, rfl⟩ ⟨Nat.le_of_ble_eq_true rfl, Nat.le_of_ble_eq_true rfl⟩ 12 rfl rfl rfl [4] [0, 1, 2, 3, 5] rfl rfl (by decide) rfl hl.1 rfl (lv_room (Nat.le_of_ble_eq_true rfl)) dX12_readFeels_272 ⟨Nat.le_of_ble_eq_true rfl, Nat.le_of_ble_eq_true rfl⟩ (fun r_3033 u_3034 H locs hw hP hD hS => ?_)
              obtain ⟨he_r_3033, hw⟩ := hw
              rcases hw with ⟨rfl, hf_3036⟩ | ⟨rfl, hf_3037⟩
              · skip
                refine lv_if_eq (tgt := 295) hx hb dX12_readFeels_275 (by decide) (fun _ => ?_) (fun h9 => absurd (by decide +kernel) h9)
                have hpost : (0 ≤ n_12.toInt ∧ n_12.toInt ≤ 9) ∧ (0 ≤ v_2537.toInt ∧ v_2537.toInt ≤ 4) ∧ (0 ≤ v_2538.toInt ∧ v_2538.toInt ≤ 900) ∧ (0 ≤ v_2539.toInt ∧ v_2539.toInt ≤ 900) ∧ (0 ≤ v_2540.toInt ∧ v_2540.toInt ≤ 9999) ∧ (0 ≤ v_2541.toInt ∧ v_2541.toInt ≤ 900) ∧ (zRg 3 0 1 g_32) ∧ (zC g_2536) ∧ (zNw g_2536 g_isOn) ∧ (m_behind.toInt ≤ v_2539.toInt) ∧ (0 < m_bad.toInt → 0 < n_12.toInt) ∧ (n_12.toInt ≤ 0 → v_2537.toInt = 0 ∨ m_behind.toInt < v_2539.toInt) ∧ (n_12.toInt ≤ 0 → v_2537.toInt = 3 → v_2540.toInt = 59 → zNf g_2536) := ⟨hr_n_12, hr_v_2537, hr_v_2538, hr_v_2539, hr_v_2540, hr_v_2541, hC_g_32, hC_g_2536, hs_2773, (by omega), (by omega), (by omega), (fun h1 h2 h3 => (zFl_end hi_2774 hC_g_2536.1 hNF0 (by omega) (by omega) (by omega) (by rw [h_46]; omega)))⟩
                have hX_3038 : F_r_readFeels m_textEnd m_bad m_badAt m_behind m_number m_letters m_word g_tape g_c g_words g_hasFeels = ((n_12, n_13, v_2537, v_2538, v_2539, v_2540, v_2541, v_2542, g_32, g_2536) : Int32 × Int32 × Int32 × Int32 × Int32 × Int32 × Int32 × Int64 × (Nat → Int32) × (Nat → Int32)) := by
                  refine hF_L74c.trans ?_
                  refine (F_r_readFeels_L74c_s ..).trans ?_
                  refine (if_pos c_3029).trans ?_
                  extract_lets -merge -useContext +onlyGivenNames w9 y9; have e9 : (0 : Int32) = w9 := he_r_3033; clear_value w9; subst e9
                  refine (if_pos rfl).trans ?_
                  exact rfl
                exact hret _ _ _ _ _ (n_12, n_13, v_2537, v_2538, v_2539, v_2540, v_2541, v_2542, g_32, g_2536) [5, 4, 2, 3, 0, 1] hP hD hS rfl (by decide) dX12_readFeels_295 ⟨(congrArg (fun z9 => z9.1) hX_3038).symm, (congrArg (fun z9 => z9.2.1) hX_3038).symm, (congrArg (fun z9 => z9.2.2.1) hX_3038).symm, (congrArg (fun z9 => z9.2.2.2.1) hX_3038).symm, (congrArg (fun z9 => z9.2.2.2.2.1) hX_3038).symm, (congrArg (fun z9 => z9.2.2.2.2.2.1) hX_3038).symm, (congrArg (fun z9 => z9.2.2.2.2.2.2.1) hX_3038).symm, (congrArg (fun z9 => z9.2.2.2.2.2.2.2.1) hX_3038).symm, (congrArg (fun z9 => z9.2.2.2.2.2.2.2.2.1) hX_3038).symm, (congrArg (fun z9 => z9.2.2.2.2.2.2.2.2.2) hX_3038).symm, hpost⟩
              · skip
                refine lv_if_eq (tgt := 295) hx hb dX12_readFeels_275 (by decide) (fun h9 => absurd h9 (by decide +kernel)) (fun _ => ?_)
                refine lv_iload_n hx hb dX12_readFeels_278 rfl (lv_at hl 3 rfl) ?_
                refine lv_iload_n hx hb dX12_readFeels_279 rfl (lv_at hl 2 rfl) ?_
                refine lv_iload_n hx hb dX12_readFeels_280 rfl (lv_at hl 2 rfl) ?_
                refine lv_imul hx hb dX12_readFeels_281 ?_
                refine lv_topi (fun x_3039 he_x_3039 => ?_)
                have hq_x_3039 := z_mulq he_x_3039 (by omega : x_45.toInt = 4) (rfl : x_45.toInt = _) (by omega) (by omega)
                refine lv_icmp_ge (tgt := 295) hx hb dX12_readFeels_282 (by decide) (fun c_3040 => ?_) (fun c_3040 => ?_)
                · have b_3041 := z_fgeT c_3040
                  have hpost : (0 ≤ n_12.toInt ∧ n_12.toInt ≤ 9) ∧ (0 ≤ v_2537.toInt ∧ v_2537.toInt ≤ 4) ∧ (0 ≤ v_2538.toInt ∧ v_2538.toInt ≤ 900) ∧ (0 ≤ v_2539.toInt ∧ v_2539.toInt ≤ 900) ∧ (0 ≤ v_2540.toInt ∧ v_2540.toInt ≤ 9999) ∧ (0 ≤ v_2541.toInt ∧ v_2541.toInt ≤ 900) ∧ (zRg 3 0 1 g_32) ∧ (zC g_2536) ∧ (zNw g_2536 g_isOn) ∧ (m_behind.toInt ≤ v_2539.toInt) ∧ (0 < m_bad.toInt → 0 < n_12.toInt) ∧ (n_12.toInt ≤ 0 → v_2537.toInt = 0 ∨ m_behind.toInt < v_2539.toInt) ∧ (n_12.toInt ≤ 0 → v_2537.toInt = 3 → v_2540.toInt = 59 → zNf g_2536) := ⟨hr_n_12, hr_v_2537, hr_v_2538, hr_v_2539, hr_v_2540, hr_v_2541, hC_g_32, hC_g_2536, hs_2773, (by omega), (by omega), (by omega), (fun h1 h2 h3 => (zFl_end hi_2774 hC_g_2536.1 hNF0 (by omega) (by omega) (by omega) (by rw [h_46]; omega)))⟩
                  have hX_3042 : F_r_readFeels m_textEnd m_bad m_badAt m_behind m_number m_letters m_word g_tape g_c g_words g_hasFeels = ((n_12, n_13, v_2537, v_2538, v_2539, v_2540, v_2541, v_2542, g_32, g_2536) : Int32 × Int32 × Int32 × Int32 × Int32 × Int32 × Int32 × Int64 × (Nat → Int32) × (Nat → Int32)) := by
                    refine hF_L74c.trans ?_
                    refine (F_r_readFeels_L74c_s ..).trans ?_
                    refine (if_pos c_3029).trans ?_
                    extract_lets -merge -useContext +onlyGivenNames w9 y9; have e9 : (1 : Int32) = w9 := he_r_3033; clear_value w9; subst e9
                    refine (if_neg (show ¬ (1 : Int32) = 0 by decide)).trans ?_
                    try (extract_lets -merge -useContext +onlyGivenNames y9; have e9 : x_3039 = y9 := (by first | exact he_x_3039 | exact he_x_3039.symm); clear_value y9; subst e9)
                    refine (if_pos c_3040).trans ?_
                    exact rfl
                  exact hret _ _ _ _ _ (n_12, n_13, v_2537, v_2538, v_2539, v_2540, v_2541, v_2542, g_32, g_2536) [5, 4, 2, 3, 0, 1] hP hD hS rfl (by decide) dX12_readFeels_295 ⟨(congrArg (fun z9 => z9.1) hX_3042).symm, (congrArg (fun z9 => z9.2.1) hX_3042).symm, (congrArg (fun z9 => z9.2.2.1) hX_3042).symm, (congrArg (fun z9 => z9.2.2.2.1) hX_3042).symm, (congrArg (fun z9 => z9.2.2.2.2.1) hX_3042).symm, (congrArg (fun z9 => z9.2.2.2.2.2.1) hX_3042).symm, (congrArg (fun z9 => z9.2.2.2.2.2.2.1) hX_3042).symm, (congrArg (fun z9 => z9.2.2.2.2.2.2.2.1) hX_3042).symm, (congrArg (fun z9 => z9.2.2.2.2.2.2.2.2.1) hX_3042).symm, (congrArg (fun z9 => z9.2.2.2.2.2.2.2.2.2) hX_3042).symm, hpost⟩
                · have b_3043 := z_fltF c_3040
                  refine lv_aload_n hx hb dX12_readFeels_285 rfl (lv_at hl 0 rfl) ?_
                  refine lv_bipush (v := 8) hx hb dX12_readFeels_286 (by decide) ?_
                  refine lv_aload_n hx hb dX12_readFeels_288 rfl (lv_at hl 0 rfl) ?_
                  refine va_get (D := G) (ci := 12) (v := .int v_2538) (C := RX12) (T := TX12) (N := 65) hx hb hts inT12 hown hK hP 5 rfl rfl 15 (by decide) (hts _ tw_1900) (fun _ h9 => h9) rfl dX12_readFeels_289 ?_
                  refine z_callVv (As := [.int 8, .int v_2538]) (rest := []) (wr := [(a_hasFeels, .inl (cA.1 3, 3, .inl g_32)), (a_isOn, .inl (cA.1 3, 10, .inl g_isOn)), (a_c, .inl (cA.1 0, 1825, .inl g_2536)), (a_words, .inl (cA.1 1, 105, .inr (.inl g_words))), (a_tape, .inl (cA.1 2, 900, .inl g_tape))]) ⟨hx, hb, hml, hown, hts⟩ hK hE hT hP hD hS hA (r_fail l G cA h0 m_status m_thrown m_above m_under a_traySort a_trayMany a_numbers a_tape m_taped m_textEnd m_faultKind m_faultAt n_12 n_13 v_2537 v_2538 v_2539 v_2540 v_2541 v_2542 a_c a_words m_markMany a_there a_tried a_best a_found m_thereMany m_foundMany m_orderHow m_orderRing m_orderMany m_hasBest m_bestTop m_bestBy a_weights a_shared m_random m_truePlace m_trueWay m_seconds m_done m_feelings m_tries m_leftOver m_playDoor m_playRing m_isOpen m_isOver m_wasTried m_hasPlayed a_feltNow a_last a_kept m_hasSeconds m_hasTurned m_hasRound a_hasFeels a_isOn m_firstAct m_meanTop m_meanBy a_order m_rowMany m_newSteps 8 v_2538 (by decide +kernel) hr_n_12) lk_RX12_180 ⟨rfl, rfl⟩ ⟨Nat.le_of_ble_eq_true rfl, Nat.le_of_ble_eq_true rfl⟩ 12 rfl rfl rfl [5] [0, 1, 2, 3, 4] rfl rfl (by decide) rfl hl.1 rfl (lv_room (Nat.le_of_ble_eq_true rfl)) dX12_readFeels_292 ⟨Nat.le_of_ble_eq_true rfl, Nat.le_of_ble_eq_true rfl⟩ (fun u_3047 H locs hw hP hD hS => ?_)
                  obtain ⟨n_3044, n_3045⟩ := u_3047
                  try dsimp only at hw
                  obtain ⟨he_n_3044, he_n_3045, hw⟩ := hw
                  obtain ⟨hr_n_3044, hf_3049⟩ := hw
                  have hpost : (0 ≤ n_3044.toInt ∧ n_3044.toInt ≤ 9) ∧ (0 ≤ v_2537.toInt ∧ v_2537.toInt ≤ 4) ∧ (0 ≤ v_2538.toInt ∧ v_2538.toInt ≤ 900) ∧ (0 ≤ v_2539.toInt ∧ v_2539.toInt ≤ 900) ∧ (0 ≤ v_2540.toInt ∧ v_2540.toInt ≤ 9999) ∧ (0 ≤ v_2541.toInt ∧ v_2541.toInt ≤ 900) ∧ (zRg 3 0 1 g_32) ∧ (zC g_2536) ∧ (zNw g_2536 g_isOn) ∧ (m_behind.toInt ≤ v_2539.toInt) ∧ (0 < m_bad.toInt → 0 < n_3044.toInt) ∧ (n_3044.toInt ≤ 0 → v_2537.toInt = 0 ∨ m_behind.toInt < v_2539.toInt) ∧ (n_3044.toInt ≤ 0 → v_2537.toInt = 3 → v_2540.toInt = 59 → zNf g_2536) := ⟨(z_rgw hr_n_3044 (by decide) (by decide)), hr_v_2537, hr_v_2538, hr_v_2539, hr_v_2540, hr_v_2541, hC_g_32, hC_g_2536, hs_2773, (by omega), (by omega), (by omega), (fun h1 h2 h3 => (zFl_end hi_2774 hC_g_2536.1 hNF0 (by omega) (by omega) (by omega) (by rw [h_46]; omega)))⟩
                  have hX_3050 : F_r_readFeels m_textEnd m_bad m_badAt m_behind m_number m_letters m_word g_tape g_c g_words g_hasFeels = ((n_3044, n_3045, v_2537, v_2538, v_2539, v_2540, v_2541, v_2542, g_32, g_2536) : Int32 × Int32 × Int32 × Int32 × Int32 × Int32 × Int32 × Int64 × (Nat → Int32) × (Nat → Int32)) := by
                    refine hF_L74c.trans ?_
                    refine (F_r_readFeels_L74c_s ..).trans ?_
                    refine (if_pos c_3029).trans ?_
                    extract_lets -merge -useContext +onlyGivenNames w9 y9; have e9 : (1 : Int32) = w9 := he_r_3033; clear_value w9; subst e9
                    refine (if_neg (show ¬ (1 : Int32) = 0 by decide)).trans ?_
                    try (extract_lets -merge -useContext +onlyGivenNames y9; have e9 : x_3039 = y9 := (by first | exact he_x_3039 | exact he_x_3039.symm); clear_value y9; subst e9)
                    refine (if_neg c_3040).trans ?_
                    extract_lets -merge -useContext +onlyGivenNames w9 y5_0 y5_1; have e9 : (n_3044, n_3045) = w9 := ((z_tS he_n_3044 he_n_3045.symm)).symm; clear_value w9; subst e9
                    exact rfl
                  exact hret _ _ _ _ _ (n_3044, n_3045, v_2537, v_2538, v_2539, v_2540, v_2541, v_2542, g_32, g_2536) [5, 4, 2, 3, 0, 1] hP hD hS rfl (by decide) dX12_readFeels_295 ⟨(congrArg (fun z9 => z9.1) hX_3050).symm, (congrArg (fun z9 => z9.2.1) hX_3050).symm, (congrArg (fun z9 => z9.2.2.1) hX_3050).symm, (congrArg (fun z9 => z9.2.2.2.1) hX_3050).symm, (congrArg (fun z9 => z9.2.2.2.2.1) hX_3050).symm, (congrArg (fun z9 => z9.2.2.2.2.2.1) hX_3050).symm, (congrArg (fun z9 => z9.2.2.2.2.2.2.1) hX_3050).symm, (congrArg (fun z9 => z9.2.2.2.2.2.2.2.1) hX_3050).symm, (congrArg (fun z9 => z9.2.2.2.2.2.2.2.2.1) hX_3050).symm, (congrArg (fun z9 => z9.2.2.2.2.2.2.2.2.2) hX_3050).symm, hpost⟩
            · have b_3051 := z_fneF c_3029
              refine lv_aload_n hx hb dX12_readFeels_79 rfl (lv_at hl 0 rfl) ?_
              refine va_get (D := G) (ci := 12) (v := .int n_12) (C := RX12) (T := TX12) (N := 65) hx hb hts inT12 hown hK hP 4 rfl rfl 12 (by decide) (hts _ tw_1897) (fun _ h9 => h9) rfl dX12_readFeels_80 ?_
              refine lv_if_ne (tgt := 262) hx hb dX12_readFeels_83 (by decide) (fun h9 => (z_no (by have h8 := z_fneT h9; omega))) (fun c_3052 => ?_)
              have b_3053 := z_feqF c_3052
              refine lv_aload_n hx hb dX12_readFeels_86 rfl (lv_at hl 0 rfl) ?_
              refine va_get (D := G) (ci := 12) (v := .int v_2537) (C := RX12) (T := TX12) (N := 65) hx hb hts inT12 hown hK hP 4 rfl rfl 14 (by decide) (hts _ tw_1899) (fun _ h9 => h9) rfl dX12_readFeels_87 ?_
              refine lv_iconst (v := 2) hx hb dX12_readFeels_90 (by decide) ?_
              refine lv_icmp_eq (tgt := 98) hx hb dX12_readFeels_91 (by decide) (fun c_3054 => ?_) (fun c_3054 => ?_)
              · have b_3055 := z_feqT c_3054
                refine lv_aload_n hx hb dX12_readFeels_98 rfl (lv_at hl 0 rfl) ?_
                refine va_get (D := G) (ci := 12) (v := .int n_12) (C := RX12) (T := TX12) (N := 65) hx hb hts inT12 hown hK hP 4 rfl rfl 12 (by decide) (hts _ tw_1897) (fun _ h9 => h9) rfl dX12_readFeels_99 ?_
                refine lv_if_ne (tgt := 123) hx hb dX12_readFeels_102 (by decide) (fun h9 => (z_no (by have h8 := z_fneT h9; omega))) (fun c_3056 => ?_)
                have b_3057 := z_feqF c_3056
                refine lv_aload_n hx hb dX12_readFeels_105 rfl (lv_at hl 0 rfl) ?_
                refine va_get (D := G) (ci := 12) (v := .int v_2540) (C := RX12) (T := TX12) (N := 65) hx hb hts inT12 hown hK hP 4 rfl rfl 17 (by decide) (hts _ tw_1902) (fun _ h9 => h9) rfl dX12_readFeels_106 ?_
                refine lv_bipush (v := 16) hx hb dX12_readFeels_109 (by decide) ?_
                refine lv_icmp_le (tgt := 123) hx hb dX12_readFeels_111 (by decide) (fun c_3058 => ?_) (fun c_3058 => ?_)
                · have b_3059 := z_fleT c_3058
                  refine lv_aload_n hx hb dX12_readFeels_123 rfl (lv_at hl 0 rfl) ?_
                  refine va_get (D := G) (ci := 12) (v := .int n_12) (C := RX12) (T := TX12) (N := 65) hx hb hts inT12 hown hK hP 4 rfl rfl 12 (by decide) (hts _ tw_1897) (fun _ h9 => h9) rfl dX12_readFeels_124 ?_
                  refine lv_if_ne (tgt := 147) hx hb dX12_readFeels_127 (by decide) (fun h9 => (z_no (by have h8 := z_fneT h9; omega))) (fun c_3060 => ?_)
                  have b_3061 := z_feqF c_3060
                  refine lv_iload_n hx hb dX12_readFeels_130 rfl (lv_at hl 3 rfl) ?_
                  refine lv_iload_n hx hb dX12_readFeels_131 rfl (lv_at hl 2 rfl) ?_
                  refine lv_iload_n hx hb dX12_readFeels_132 rfl (lv_at hl 2 rfl) ?_
                  refine lv_imul hx hb dX12_readFeels_133 ?_
                  refine lv_topi (fun x_3062 he_x_3062 => ?_)
                  have hq_x_3062 := z_mulq he_x_3062 (by omega : x_45.toInt = 4) (rfl : x_45.toInt = _) (by omega) (by omega)
                  refine lv_icmp_ne (tgt := 147) hx hb dX12_readFeels_134 (by decide) (fun c_3063 => ?_) (fun c_3063 => ?_)
                  · have b_3064 := z_fneT c_3063
                    refine lv_iload_n hx hb dX12_readFeels_147 rfl (lv_at hl 3 rfl) ?_
                    refine lv_iload_n hx hb dX12_readFeels_148 rfl (lv_at hl 2 rfl) ?_
                    refine lv_irem hx hb dX12_readFeels_149 (z_nz (by omega)) ?_
                    refine lv_topi (fun x_3065 he_x_3065 => ?_)
                    have hq_x_3065 := z_remq he_x_3065 (rfl : v_2533.toInt = _) (by omega : x_45.toInt = 4) (by omega) (by decide)
                    refine lv_if_ne (tgt := 160) hx hb dX12_readFeels_150 (by decide) (fun c_3066 => ?_) (fun c_3066 => ?_)
                    · have b_3067 := z_fneT c_3066
                      refine lv_iload hx hb dX12_readFeels_160 (lv_at hl 4 rfl) ?_
                      refine lv_aload_n hx hb dX12_readFeels_162 rfl (lv_at hl 0 rfl) ?_
                      refine va_get (D := G) (ci := 12) (v := .int v_2540) (C := RX12) (T := TX12) (N := 65) hx hb hts inT12 hown hK hP 4 rfl rfl 17 (by decide) (hts _ tw_1902) (fun _ h9 => h9) rfl dX12_readFeels_163 ?_
                      refine lv_iadd hx hb dX12_readFeels_166 ?_
                      refine lv_topi (fun x_3068 he_x_3068 => ?_)
                      have hq_x_3068 := z_addq he_x_3068 (rfl : v_2534.toInt = _) (rfl : v_2540.toInt = _) (by omega) (by omega)
                      refine lv_istore (lv' := [(4, .int x_3068), (0, .ref h0), (1, .int r_14), (2, .int x_45), (3, .int v_2533), (5, .int v_2535)]) hx hb dX12_readFeels_167 hl (by decide) rfl (fun ls hl => ?_)
                      refine lv_aload_n hx hb dX12_readFeels_169 rfl (lv_at hl 1 rfl) ?_
                      refine va_get (D := G) (ci := 12) (v := .int n_12) (C := RX12) (T := TX12) (N := 65) hx hb hts inT12 hown hK hP 4 rfl rfl 12 (by decide) (hts _ tw_1897) (fun _ h9 => h9) rfl dX12_readFeels_170 ?_
                      refine lv_if_ne (tgt := 202) hx hb dX12_readFeels_173 (by decide) (fun h9 => (z_no (by have h8 := z_fneT h9; omega))) (fun c_3069 => ?_)
                      have b_3070 := z_feqF c_3069
                      refine lv_iload_n hx hb dX12_readFeels_176 rfl (lv_at hl 4 rfl) ?_
                      refine lv_iload_n hx hb dX12_readFeels_177 rfl (lv_at hl 3 rfl) ?_
                      refine lv_irem hx hb dX12_readFeels_178 (z_nz (by omega)) ?_
                      refine lv_topi (fun x_3071 he_x_3071 => ?_)
                      have hq_x_3071 := z_remq he_x_3071 (rfl : v_2533.toInt = _) (by omega : x_45.toInt = 4) (by omega) (by decide)
                      refine lv_iload_n hx hb dX12_readFeels_179 rfl (lv_at hl 3 rfl) ?_
                      refine lv_iconst (v := 1) hx hb dX12_readFeels_180 (by decide) ?_
                      refine lv_isub hx hb dX12_readFeels_181 ?_
                      refine lv_topi (fun x_3072 he_x_3072 => ?_)
                      have hq_x_3072 := z_subq he_x_3072 (rfl : x_45.toInt = _) hk_1 (by omega) (by omega)
                      refine lv_icmp_ne (tgt := 202) hx hb dX12_readFeels_182 (by decide) (fun c_3073 => ?_) (fun c_3073 => ?_)
                      · have b_3074 := z_fneT c_3073
                        refine lv_aload_n hx hb dX12_readFeels_202 rfl (lv_at hl 1 rfl) ?_
                        refine va_get (D := G) (ci := 12) (v := .int n_12) (C := RX12) (T := TX12) (N := 65) hx hb hts inT12 hown hK hP 4 rfl rfl 12 (by decide) (hts _ tw_1897) (fun _ h9 => h9) rfl dX12_readFeels_203 ?_
                        refine lv_if_le (tgt := 210) hx hb dX12_readFeels_206 (by decide) (fun c_3075 => ?_) (fun h9 => (z_no (by have h8 := z_fgtF h9; omega)))
                        have b_3076 := z_fleT c_3075
                        have hn_k_3077 : 0 ≤ v_2533.toInt ∧ v_2533.toInt ≤ 15 := by omega
                        refine lv_aload_n hx hb dX12_readFeels_210 rfl (lv_at hl 1 rfl) ?_
                        refine va_get (D := G) (ci := 12) (v := .ref a_c) (C := RX12) (T := TX12) (N := 65) hx hb hts inT12 hown hK hP 4 rfl rfl 20 (by decide) (hts _ tw_1905) (fun _ h9 => h9) rfl dX12_readFeels_211 ?_
                        refine lv_sipush (v := 1477) hx hb dX12_readFeels_214 (by decide) ?_
                        refine lv_bipush (v := 16) hx hb dX12_readFeels_217 (by decide) ?_
                        refine lv_iload_n hx hb dX12_readFeels_219 rfl (lv_at hl 2 rfl) ?_
                        refine lv_imul hx hb dX12_readFeels_220 ?_
                        refine lv_topi (fun x_3078 he_x_3078 => ?_)
                        have hq_x_3078 := z_mulq he_x_3078 hk_16 (rfl : r_14.toInt = _) (by omega) (by omega)
                        refine lv_iadd hx hb dX12_readFeels_221 ?_
                        refine lv_topi (fun x_3079 he_x_3079 => ?_)
                        have hq_x_3079 := z_addq he_x_3079 hk_1477 (rfl : x_3078.toInt = _) (by omega) (by omega)
                        refine lv_iconst (v := 4) hx hb dX12_readFeels_222 (by decide) ?_
                        refine lv_iload_n hx hb dX12_readFeels_223 rfl (lv_at hl 4 rfl) ?_
                        refine lv_iload_n hx hb dX12_readFeels_224 rfl (lv_at hl 3 rfl) ?_
                        refine lv_idiv hx hb dX12_readFeels_225 (z_nz (by omega)) ?_
                        refine lv_topi (fun x_3080 he_x_3080 => ?_)
                        have hq_x_3080 := z_divq he_x_3080 (rfl : v_2533.toInt = _) (by omega : x_45.toInt = 4) (by omega) (by decide)
                        refine lv_imul hx hb dX12_readFeels_226 ?_
                        refine lv_topi (fun x_3081 he_x_3081 => ?_)
                        have hq_x_3081 := z_mulq he_x_3081 hk_4 (rfl : x_3080.toInt = _) (by omega) (by omega)
                        refine lv_iadd hx hb dX12_readFeels_227 ?_
                        refine lv_topi (fun x_3082 he_x_3082 => ?_)
                        have hq_x_3082 := z_addq he_x_3082 (rfl : x_3079.toInt = _) (rfl : x_3081.toInt = _) (by omega) (by omega)
                        refine lv_iload_n hx hb dX12_readFeels_228 rfl (lv_at hl 4 rfl) ?_
                        refine lv_iload_n hx hb dX12_readFeels_229 rfl (lv_at hl 3 rfl) ?_
                        refine lv_irem hx hb dX12_readFeels_230 (z_nz (by omega)) ?_
                        refine lv_topi (fun x_3083 he_x_3083 => ?_)
                        have hq_x_3083 := z_remq he_x_3083 (rfl : v_2533.toInt = _) (by omega : x_45.toInt = 4) (by omega) (by decide)
                        refine lv_iadd hx hb dX12_readFeels_231 ?_
                        refine lv_topi (fun x_3084 he_x_3084 => ?_)
                        have hq_x_3084 := z_addq he_x_3084 (rfl : x_3082.toInt = _) (rfl : x_3083.toInt = _) (by omega) (by omega)
                        refine lv_aload_n hx hb dX12_readFeels_232 rfl (lv_at hl 1 rfl) ?_
                        refine va_get (D := G) (ci := 12) (v := .int v_2540) (C := RX12) (T := TX12) (N := 65) hx hb hts inT12 hown hK hP 4 rfl rfl 17 (by decide) (hts _ tw_1902) (fun _ h9 => h9) rfl dX12_readFeels_233 ?_
                        refine z_iast hx hb hK hP hD hS 2 0 rfl rfl (z_inN (by omega) (by omega)) dX12_readFeels_236 (fun g_3085 hg_g_3085 H locs hP hD hS => ?_)
                        have hC_g_3085 := z_ctU hC_g_2536 hg_g_3085 (a := 1477) (b := 1524) (lo := 0) (hi := 16) (by decide +kernel) (by decide +kernel) (by omega) (by omega) (by omega)
                        have hw_g_3085_1460 := z_cwo hg_g_3085 (k := 1460) (by omega) (by omega)
                        have hs_3086 : zNw g_3085 g_isOn := (zNw_fr hs_2773 hg_g_3085 (a := 1477) (b := 1524) (by decide +kernel) (by omega) (by omega))
                        obtain ⟨x_3087, he_x_3087⟩ : ∃ z : Int32, z = v_2533 + 1 := ⟨_, rfl⟩
                        have hq_x_3087 := z_addq he_x_3087 (rfl : v_2533.toInt = _) hk_1 (by omega) (by omega)
                        refine lv_iinc (v := x_3087) (lv' := [(3, .int x_3087), (4, .int x_3068), (0, .ref h0), (1, .int r_14), (2, .int x_45), (5, .int v_2535)]) hx hb dX12_readFeels_237 hl (k := 4) rfl ((z_ofi (by decide +kernel)).trans he_x_3087.symm) (by decide) rfl (fun ls hl => ?_)
                        refine lv_aload_n hx hb dX12_readFeels_240 rfl (lv_at hl 2 rfl) ?_
                        refine z_callVv (As := []) (rest := []) (wr := [(a_hasFeels, .inl (cA.1 3, 3, .inl g_32)), (a_isOn, .inl (cA.1 3, 10, .inl g_isOn)), (a_c, .inl (cA.1 0, 1825, .inl g_3085)), (a_words, .inl (cA.1 1, 105, .inr (.inl g_words)))]) ⟨hx, hb, hml, hown, hts⟩ hK hE hT hP hD hS hA (r_next2 l G cA h0 m_status m_thrown m_above m_under a_traySort a_trayMany a_numbers a_tape m_taped m_textEnd m_faultKind m_faultAt n_12 n_13 v_2537 v_2538 v_2539 v_2540 v_2541 v_2542 a_c a_words m_markMany a_there a_tried a_best a_found m_thereMany m_foundMany m_orderHow m_orderRing m_orderMany m_hasBest m_bestTop m_bestBy a_weights a_shared m_random m_truePlace m_trueWay m_seconds m_done m_feelings m_tries m_leftOver m_playDoor m_playRing m_isOpen m_isOver m_wasTried m_hasPlayed a_feltNow a_last a_kept m_hasSeconds m_hasTurned m_hasRound a_hasFeels a_isOn m_firstAct m_meanTop m_meanBy a_order m_rowMany m_newSteps g_tape hr_m_textEnd hr_v_2538 hr_v_2539 hr_v_2537 hr_v_2540 hr_v_2541) lk_RX12_184 ⟨rfl, rfl⟩ ⟨Nat.le_of_ble_eq_true rfl, Nat.le_of_ble_eq_true rfl⟩ 12 rfl rfl rfl [4, 5] [0, 1, 2, 3] rfl rfl (by decide) rfl hl.1 rfl (lv_room (Nat.le_of_ble_eq_true rfl)) dX12_readFeels_241 ⟨Nat.le_of_ble_eq_true rfl, Nat.le_of_ble_eq_true rfl⟩ (fun u_3095 H locs hw hP hD hS => ?_)
                        obtain ⟨n_3088, n_3089, n_3090, n_3091, n_3092, n_3093⟩ := u_3095
                        try dsimp only at hw
                        obtain ⟨he_n_3088, he_n_3089, he_n_3090, he_n_3091, he_n_3092, he_n_3093, hw⟩ := hw
                        obtain ⟨hr_n_3088, hr_n_3089, hr_n_3090, hr_n_3091, hr_n_3092, hf_3097, hf_3098⟩ := hw
                        refine lv_aload_n hx hb dX12_readFeels_244 rfl (lv_at hl 2 rfl) ?_
                        refine va_get (D := G) (ci := 12) (v := .int n_3088) (C := RX12) (T := TX12) (N := 65) hx hb hts inT12 hown hK hP 4 rfl rfl 14 (by decide) (hts _ tw_1899) (fun _ h9 => h9) rfl dX12_readFeels_245 ?_
                        refine lv_iconst (v := 2) hx hb dX12_readFeels_248 (by decide) ?_
                        refine lv_icmp_ne (tgt := 256) hx hb dX12_readFeels_249 (by decide) (fun c_3099 => ?_) (fun c_3099 => ?_)
                        · have b_3100 := z_fneT c_3099
                          refine lv_iconst (v := 0) hx hb dX12_readFeels_256 (by decide) ?_
                          refine lv_istore (lv' := [(5, .int 0), (3, .int x_3087), (4, .int x_3068), (0, .ref h0), (1, .int r_14), (2, .int x_45)]) hx hb dX12_readFeels_257 hl (by decide) rfl (fun ls hl => ?_)
                          refine lv_goto (tgt := 74) hx hb dX12_readFeels_259 (by decide) ?_
                          have hX_3101 : F_r_readFeels m_textEnd m_bad m_badAt m_behind m_number m_letters m_word g_tape g_c g_words g_hasFeels = F_r_readFeels_L74c m_textEnd g_tape r_14 n_12 n_13 g_32 x_45 n_L74c x_3087 x_3068 (0 : Int32) g_3085 n_3088 n_3089 n_3090 n_3091 n_3092 n_3093 := by
                            refine hF_L74c.trans ?_
                            refine (F_r_readFeels_L74c_s ..).trans ?_
                            refine (if_neg c_3029).trans ?_
                            refine (if_pos c_3054).trans ?_
                            refine (if_pos c_3058).trans ?_
                            try (extract_lets -merge -useContext +onlyGivenNames y9; have e9 : x_3062 = y9 := (by first | exact he_x_3062 | exact he_x_3062.symm); clear_value y9; subst e9)
                            refine (if_neg c_3063).trans ?_
                            try (extract_lets -merge -useContext +onlyGivenNames y9; have e9 : x_3065 = y9 := (by first | exact he_x_3065 | exact he_x_3065.symm); clear_value y9; subst e9)
                            refine (if_neg c_3066).trans ?_
                            try (extract_lets -merge -useContext +onlyGivenNames y9; have e9 : x_3068 = y9 := (by first | exact he_x_3068 | exact he_x_3068.symm); clear_value y9; subst e9)
                            try (extract_lets -merge -useContext +onlyGivenNames y9; have e9 : x_3071 = y9 := (by first | exact he_x_3071 | exact he_x_3071.symm); clear_value y9; subst e9)
                            try (extract_lets -merge -useContext +onlyGivenNames y9; have e9 : x_3072 = y9 := (by first | exact he_x_3072 | exact he_x_3072.symm); clear_value y9; subst e9)
                            refine (if_neg c_3073).trans ?_
                            try (extract_lets -merge -useContext +onlyGivenNames y9; have e9 : x_3078 = y9 := (by first | exact he_x_3078 | exact he_x_3078.symm); clear_value y9; subst e9)
                            try (extract_lets -merge -useContext +onlyGivenNames y9; have e9 : x_3079 = y9 := (by first | exact he_x_3079 | exact he_x_3079.symm); clear_value y9; subst e9)
                            try (extract_lets -merge -useContext +onlyGivenNames y9; have e9 : x_3080 = y9 := (by first | exact he_x_3080 | exact he_x_3080.symm); clear_value y9; subst e9)
                            try (extract_lets -merge -useContext +onlyGivenNames y9; have e9 : x_3081 = y9 := (by first | exact he_x_3081 | exact he_x_3081.symm); clear_value y9; subst e9)
                            try (extract_lets -merge -useContext +onlyGivenNames y9; have e9 : x_3082 = y9 := (by first | exact he_x_3082 | exact he_x_3082.symm); clear_value y9; subst e9)
                            try (extract_lets -merge -useContext +onlyGivenNames y9; have e9 : x_3083 = y9 := (by first | exact he_x_3083 | exact he_x_3083.symm); clear_value y9; subst e9)
                            try (extract_lets -merge -useContext +onlyGivenNames y9; have e9 : x_3084 = y9 := (by first | exact he_x_3084 | exact he_x_3084.symm); clear_value y9; subst e9)
                            try (extract_lets -merge -useContext +onlyGivenNames y9; have e9 : g_3085 = y9 := (by first | exact hg_g_3085 | exact hg_g_3085.symm); clear_value y9; subst e9)
                            try (extract_lets -merge -useContext +onlyGivenNames y9; have e9 : x_3087 = y9 := (by first | exact he_x_3087 | exact he_x_3087.symm); clear_value y9; subst e9)
                            extract_lets -merge -useContext +onlyGivenNames w9 y20_0 y20_1 y20_2 y20_3 y20_4 y20_5; have e9 : (n_3088, n_3089, n_3090, n_3091, n_3092, n_3093) = w9 := ((z_tS he_n_3088 (z_tS he_n_3089 (z_tS he_n_3090 (z_tS he_n_3091 (z_tS he_n_3092 he_n_3093.symm)))))).symm; clear_value w9; subst e9
                            refine (if_neg c_3099).trans ?_
                            exact rfl
                          exact ih_3028 x_3087 x_3068 0 g_3085 n_3088 n_3089 n_3090 n_3091 n_3092 n_3093 H locs ls (by omega) (by omega) (by omega) (by decide +kernel) hC_g_3085 hr_n_3088 hr_n_3089 hr_n_3090 hr_n_3091 hr_n_3092 hs_3086 (by rw [hq_x_3087]; exact zFl_step hi_2774 hg_g_3085 (by omega) (by omega) (by omega) (r := x_3080.toInt) (c := x_3083.toInt) (by rw [h_46]; omega) (by omega) (by omega) (by omega) (by omega) (by omega) (by omega) (by omega)) (by omega) (by omega) (by omega) (by omega) (by omega) hX_3101 hP hD hS (lv_sub hl [3, 4, 5, 1, 2, 0] rfl)
                        · have b_3102 := z_feqF c_3099
                          refine lv_iconst (v := 1) hx hb dX12_readFeels_252 (by decide) ?_
                          refine lv_goto (tgt := 257) hx hb dX12_readFeels_253 (by decide) ?_
                          refine lv_istore (lv' := [(5, .int 1), (3, .int x_3087), (4, .int x_3068), (0, .ref h0), (1, .int r_14), (2, .int x_45)]) hx hb dX12_readFeels_257 hl (by decide) rfl (fun ls hl => ?_)
                          refine lv_goto (tgt := 74) hx hb dX12_readFeels_259 (by decide) ?_
                          have hX_3103 : F_r_readFeels m_textEnd m_bad m_badAt m_behind m_number m_letters m_word g_tape g_c g_words g_hasFeels = F_r_readFeels_L74c m_textEnd g_tape r_14 n_12 n_13 g_32 x_45 n_L74c x_3087 x_3068 (1 : Int32) g_3085 n_3088 n_3089 n_3090 n_3091 n_3092 n_3093 := by
                            refine hF_L74c.trans ?_
                            refine (F_r_readFeels_L74c_s ..).trans ?_
                            refine (if_neg c_3029).trans ?_
                            refine (if_pos c_3054).trans ?_
                            refine (if_pos c_3058).trans ?_
                            try (extract_lets -merge -useContext +onlyGivenNames y9; have e9 : x_3062 = y9 := (by first | exact he_x_3062 | exact he_x_3062.symm); clear_value y9; subst e9)
                            refine (if_neg c_3063).trans ?_
                            try (extract_lets -merge -useContext +onlyGivenNames y9; have e9 : x_3065 = y9 := (by first | exact he_x_3065 | exact he_x_3065.symm); clear_value y9; subst e9)
                            refine (if_neg c_3066).trans ?_
                            try (extract_lets -merge -useContext +onlyGivenNames y9; have e9 : x_3068 = y9 := (by first | exact he_x_3068 | exact he_x_3068.symm); clear_value y9; subst e9)
                            try (extract_lets -merge -useContext +onlyGivenNames y9; have e9 : x_3071 = y9 := (by first | exact he_x_3071 | exact he_x_3071.symm); clear_value y9; subst e9)
                            try (extract_lets -merge -useContext +onlyGivenNames y9; have e9 : x_3072 = y9 := (by first | exact he_x_3072 | exact he_x_3072.symm); clear_value y9; subst e9)
                            refine (if_neg c_3073).trans ?_
                            try (extract_lets -merge -useContext +onlyGivenNames y9; have e9 : x_3078 = y9 := (by first | exact he_x_3078 | exact he_x_3078.symm); clear_value y9; subst e9)
                            try (extract_lets -merge -useContext +onlyGivenNames y9; have e9 : x_3079 = y9 := (by first | exact he_x_3079 | exact he_x_3079.symm); clear_value y9; subst e9)
                            try (extract_lets -merge -useContext +onlyGivenNames y9; have e9 : x_3080 = y9 := (by first | exact he_x_3080 | exact he_x_3080.symm); clear_value y9; subst e9)
                            try (extract_lets -merge -useContext +onlyGivenNames y9; have e9 : x_3081 = y9 := (by first | exact he_x_3081 | exact he_x_3081.symm); clear_value y9; subst e9)
                            try (extract_lets -merge -useContext +onlyGivenNames y9; have e9 : x_3082 = y9 := (by first | exact he_x_3082 | exact he_x_3082.symm); clear_value y9; subst e9)
                            try (extract_lets -merge -useContext +onlyGivenNames y9; have e9 : x_3083 = y9 := (by first | exact he_x_3083 | exact he_x_3083.symm); clear_value y9; subst e9)
                            try (extract_lets -merge -useContext +onlyGivenNames y9; have e9 : x_3084 = y9 := (by first | exact he_x_3084 | exact he_x_3084.symm); clear_value y9; subst e9)
                            try (extract_lets -merge -useContext +onlyGivenNames y9; have e9 : g_3085 = y9 := (by first | exact hg_g_3085 | exact hg_g_3085.symm); clear_value y9; subst e9)
                            try (extract_lets -merge -useContext +onlyGivenNames y9; have e9 : x_3087 = y9 := (by first | exact he_x_3087 | exact he_x_3087.symm); clear_value y9; subst e9)
                            extract_lets -merge -useContext +onlyGivenNames w9 y20_0 y20_1 y20_2 y20_3 y20_4 y20_5; have e9 : (n_3088, n_3089, n_3090, n_3091, n_3092, n_3093) = w9 := ((z_tS he_n_3088 (z_tS he_n_3089 (z_tS he_n_3090 (z_tS he_n_3091 (z_tS he_n_3092 he_n_3093.symm)))))).symm; clear_value w9; subst e9
                            refine (if_pos c_3099).trans ?_
                            exact rfl
                          exact ih_3028 x_3087 x_3068 1 g_3085 n_3088 n_3089 n_3090 n_3091 n_3092 n_3093 H locs ls (by omega) (by omega) (by omega) (by decide +kernel) hC_g_3085 hr_n_3088 hr_n_3089 hr_n_3090 hr_n_3091 hr_n_3092 hs_3086 (by rw [hq_x_3087]; exact zFl_step hi_2774 hg_g_3085 (by omega) (by omega) (by omega) (r := x_3080.toInt) (c := x_3083.toInt) (by rw [h_46]; omega) (by omega) (by omega) (by omega) (by omega) (by omega) (by omega) (by omega)) (by omega) (by omega) (by omega) (by omega) (by omega) hX_3103 hP hD hS (lv_sub hl [3, 4, 5, 1, 2, 0] rfl)
                      · have b_3104 := z_feqF c_3073
                        refine lv_iload hx hb dX12_readFeels_185 (lv_at hl 0 rfl) ?_
                        refine lv_bipush (v := 16) hx hb dX12_readFeels_187 (by decide) ?_
                        refine lv_icmp_eq (tgt := 202) hx hb dX12_readFeels_189 (by decide) (fun c_3105 => ?_) (fun c_3105 => ?_)
                        · have b_3106 := z_feqT c_3105
                          refine lv_aload_n hx hb dX12_readFeels_202 rfl (lv_at hl 1 rfl) ?_
                          refine va_get (D := G) (ci := 12) (v := .int n_12) (C := RX12) (T := TX12) (N := 65) hx hb hts inT12 hown hK hP 4 rfl rfl 12 (by decide) (hts _ tw_1897) (fun _ h9 => h9) rfl dX12_readFeels_203 ?_
                          refine lv_if_le (tgt := 210) hx hb dX12_readFeels_206 (by decide) (fun c_3107 => ?_) (fun h9 => (z_no (by have h8 := z_fgtF h9; omega)))
                          have b_3108 := z_fleT c_3107
                          have hn_k_3109 : 0 ≤ v_2533.toInt ∧ v_2533.toInt ≤ 15 := by omega
                          refine lv_aload_n hx hb dX12_readFeels_210 rfl (lv_at hl 1 rfl) ?_
                          refine va_get (D := G) (ci := 12) (v := .ref a_c) (C := RX12) (T := TX12) (N := 65) hx hb hts inT12 hown hK hP 4 rfl rfl 20 (by decide) (hts _ tw_1905) (fun _ h9 => h9) rfl dX12_readFeels_211 ?_
                          refine lv_sipush (v := 1477) hx hb dX12_readFeels_214 (by decide) ?_
                          refine lv_bipush (v := 16) hx hb dX12_readFeels_217 (by decide) ?_
                          refine lv_iload_n hx hb dX12_readFeels_219 rfl (lv_at hl 2 rfl) ?_
                          refine lv_imul hx hb dX12_readFeels_220 ?_
                          refine lv_topi (fun x_3110 he_x_3110 => ?_)
                          have hq_x_3110 := z_mulq he_x_3110 hk_16 (rfl : r_14.toInt = _) (by omega) (by omega)
                          refine lv_iadd hx hb dX12_readFeels_221 ?_
                          refine lv_topi (fun x_3111 he_x_3111 => ?_)
                          have hq_x_3111 := z_addq he_x_3111 hk_1477 (rfl : x_3110.toInt = _) (by omega) (by omega)
                          refine lv_iconst (v := 4) hx hb dX12_readFeels_222 (by decide) ?_
                          refine lv_iload_n hx hb dX12_readFeels_223 rfl (lv_at hl 4 rfl) ?_
                          refine lv_iload_n hx hb dX12_readFeels_224 rfl (lv_at hl 3 rfl) ?_
                          refine lv_idiv hx hb dX12_readFeels_225 (z_nz (by omega)) ?_
                          refine lv_topi (fun x_3112 he_x_3112 => ?_)
                          have hq_x_3112 := z_divq he_x_3112 (rfl : v_2533.toInt = _) (by omega : x_45.toInt = 4) (by omega) (by decide)
                          refine lv_imul hx hb dX12_readFeels_226 ?_
                          refine lv_topi (fun x_3113 he_x_3113 => ?_)
                          have hq_x_3113 := z_mulq he_x_3113 hk_4 (rfl : x_3112.toInt = _) (by omega) (by omega)
                          refine lv_iadd hx hb dX12_readFeels_227 ?_
                          refine lv_topi (fun x_3114 he_x_3114 => ?_)
                          have hq_x_3114 := z_addq he_x_3114 (rfl : x_3111.toInt = _) (rfl : x_3113.toInt = _) (by omega) (by omega)
                          refine lv_iload_n hx hb dX12_readFeels_228 rfl (lv_at hl 4 rfl) ?_
                          refine lv_iload_n hx hb dX12_readFeels_229 rfl (lv_at hl 3 rfl) ?_
                          refine lv_irem hx hb dX12_readFeels_230 (z_nz (by omega)) ?_
                          refine lv_topi (fun x_3115 he_x_3115 => ?_)
                          have hq_x_3115 := z_remq he_x_3115 (rfl : v_2533.toInt = _) (by omega : x_45.toInt = 4) (by omega) (by decide)
                          refine lv_iadd hx hb dX12_readFeels_231 ?_
                          refine lv_topi (fun x_3116 he_x_3116 => ?_)
                          have hq_x_3116 := z_addq he_x_3116 (rfl : x_3114.toInt = _) (rfl : x_3115.toInt = _) (by omega) (by omega)
                          refine lv_aload_n hx hb dX12_readFeels_232 rfl (lv_at hl 1 rfl) ?_
                          refine va_get (D := G) (ci := 12) (v := .int v_2540) (C := RX12) (T := TX12) (N := 65) hx hb hts inT12 hown hK hP 4 rfl rfl 17 (by decide) (hts _ tw_1902) (fun _ h9 => h9) rfl dX12_readFeels_233 ?_
                          refine z_iast hx hb hK hP hD hS 2 0 rfl rfl (z_inN (by omega) (by omega)) dX12_readFeels_236 (fun g_3117 hg_g_3117 H locs hP hD hS => ?_)
                          have hC_g_3117 := z_ctU hC_g_2536 hg_g_3117 (a := 1477) (b := 1524) (lo := 0) (hi := 16) (by decide +kernel) (by decide +kernel) (by omega) (by omega) (by omega)
                          have hw_g_3117_1460 := z_cwo hg_g_3117 (k := 1460) (by omega) (by omega)
                          have hs_3118 : zNw g_3117 g_isOn := (zNw_fr hs_2773 hg_g_3117 (a := 1477) (b := 1524) (by decide +kernel) (by omega) (by omega))
                          obtain ⟨x_3119, he_x_3119⟩ : ∃ z : Int32, z = v_2533 + 1 := ⟨_, rfl⟩
                          have hq_x_3119 := z_addq he_x_3119 (rfl : v_2533.toInt = _) hk_1 (by omega) (by omega)
                          refine lv_iinc (v := x_3119) (lv' := [(3, .int x_3119), (4, .int x_3068), (0, .ref h0), (1, .int r_14), (2, .int x_45), (5, .int v_2535)]) hx hb dX12_readFeels_237 hl (k := 4) rfl ((z_ofi (by decide +kernel)).trans he_x_3119.symm) (by decide) rfl (fun ls hl => ?_)
                          refine lv_aload_n hx hb dX12_readFeels_240 rfl (lv_at hl 2 rfl) ?_
                          refine z_callVv (As := []) (rest := []) (wr := [(a_hasFeels, .inl (cA.1 3, 3, .inl g_32)), (a_isOn, .inl (cA.1 3, 10, .inl g_isOn)), (a_c, .inl (cA.1 0, 1825, .inl g_3117)), (a_words, .inl (cA.1 1, 105, .inr (.inl g_words)))]) ⟨hx, hb, hml, hown, hts⟩ hK hE hT hP hD hS hA (r_next2 l G cA h0 m_status m_thrown m_above m_under a_traySort a_trayMany a_numbers a_tape m_taped m_textEnd m_faultKind m_faultAt n_12 n_13 v_2537 v_2538 v_2539 v_2540 v_2541 v_2542 a_c a_words m_markMany a_there a_tried a_best a_found m_thereMany m_foundMany m_orderHow m_orderRing m_orderMany m_hasBest m_bestTop m_bestBy a_weights a_shared m_random m_truePlace m_trueWay m_seconds m_done m_feelings m_tries m_leftOver m_playDoor m_playRing m_isOpen m_isOver m_wasTried m_hasPlayed a_feltNow a_last a_kept m_hasSeconds m_hasTurned m_hasRound a_hasFeels a_isOn m_firstAct m_meanTop m_meanBy a_order m_rowMany m_newSteps g_tape hr_m_textEnd hr_v_2538 hr_v_2539 hr_v_2537 hr_v_2540 hr_v_2541) lk_RX12_184 ⟨rfl, rfl⟩ ⟨Nat.le_of_ble_eq_true rfl, Nat.le_of_ble_eq_true rfl⟩ 12 rfl rfl rfl [4, 5] [0, 1, 2, 3] rfl rfl (by decide) rfl hl.1 rfl (lv_room (Nat.le_of_ble_eq_true rfl)) dX12_readFeels_241 ⟨Nat.le_of_ble_eq_true rfl, Nat.le_of_ble_eq_true rfl⟩ (fun u_3127 H locs hw hP hD hS => ?_)
                          obtain ⟨n_3120, n_3121, n_3122, n_3123, n_3124, n_3125⟩ := u_3127
                          try dsimp only at hw
                          obtain ⟨he_n_3120, he_n_3121, he_n_3122, he_n_3123, he_n_3124, he_n_3125, hw⟩ := hw
                          obtain ⟨hr_n_3120, hr_n_3121, hr_n_3122, hr_n_3123, hr_n_3124, hf_3129, hf_3130⟩ := hw
                          refine lv_aload_n hx hb dX12_readFeels_244 rfl (lv_at hl 2 rfl) ?_
                          refine va_get (D := G) (ci := 12) (v := .int n_3120) (C := RX12) (T := TX12) (N := 65) hx hb hts inT12 hown hK hP 4 rfl rfl 14 (by decide) (hts _ tw_1899) (fun _ h9 => h9) rfl dX12_readFeels_245 ?_
                          refine lv_iconst (v := 2) hx hb dX12_readFeels_248 (by decide) ?_
                          refine lv_icmp_ne (tgt := 256) hx hb dX12_readFeels_249 (by decide) (fun c_3131 => ?_) (fun c_3131 => ?_)
                          · have b_3132 := z_fneT c_3131
                            refine lv_iconst (v := 0) hx hb dX12_readFeels_256 (by decide) ?_
                            refine lv_istore (lv' := [(5, .int 0), (3, .int x_3119), (4, .int x_3068), (0, .ref h0), (1, .int r_14), (2, .int x_45)]) hx hb dX12_readFeels_257 hl (by decide) rfl (fun ls hl => ?_)
                            refine lv_goto (tgt := 74) hx hb dX12_readFeels_259 (by decide) ?_
                            have hX_3133 : F_r_readFeels m_textEnd m_bad m_badAt m_behind m_number m_letters m_word g_tape g_c g_words g_hasFeels = F_r_readFeels_L74c m_textEnd g_tape r_14 n_12 n_13 g_32 x_45 n_L74c x_3119 x_3068 (0 : Int32) g_3117 n_3120 n_3121 n_3122 n_3123 n_3124 n_3125 := by
                              refine hF_L74c.trans ?_
                              refine (F_r_readFeels_L74c_s ..).trans ?_
                              refine (if_neg c_3029).trans ?_
                              refine (if_pos c_3054).trans ?_
                              refine (if_pos c_3058).trans ?_
                              try (extract_lets -merge -useContext +onlyGivenNames y9; have e9 : x_3062 = y9 := (by first | exact he_x_3062 | exact he_x_3062.symm); clear_value y9; subst e9)
                              refine (if_neg c_3063).trans ?_
                              try (extract_lets -merge -useContext +onlyGivenNames y9; have e9 : x_3065 = y9 := (by first | exact he_x_3065 | exact he_x_3065.symm); clear_value y9; subst e9)
                              refine (if_neg c_3066).trans ?_
                              try (extract_lets -merge -useContext +onlyGivenNames y9; have e9 : x_3068 = y9 := (by first | exact he_x_3068 | exact he_x_3068.symm); clear_value y9; subst e9)
                              try (extract_lets -merge -useContext +onlyGivenNames y9; have e9 : x_3071 = y9 := (by first | exact he_x_3071 | exact he_x_3071.symm); clear_value y9; subst e9)
                              try (extract_lets -merge -useContext +onlyGivenNames y9; have e9 : x_3072 = y9 := (by first | exact he_x_3072 | exact he_x_3072.symm); clear_value y9; subst e9)
                              refine (if_pos c_3073).trans ?_
                              refine (if_pos c_3105).trans ?_
                              try (extract_lets -merge -useContext +onlyGivenNames y9; have e9 : x_3110 = y9 := (by first | exact he_x_3110 | exact he_x_3110.symm); clear_value y9; subst e9)
                              try (extract_lets -merge -useContext +onlyGivenNames y9; have e9 : x_3111 = y9 := (by first | exact he_x_3111 | exact he_x_3111.symm); clear_value y9; subst e9)
                              try (extract_lets -merge -useContext +onlyGivenNames y9; have e9 : x_3112 = y9 := (by first | exact he_x_3112 | exact he_x_3112.symm); clear_value y9; subst e9)
                              try (extract_lets -merge -useContext +onlyGivenNames y9; have e9 : x_3113 = y9 := (by first | exact he_x_3113 | exact he_x_3113.symm); clear_value y9; subst e9)
                              try (extract_lets -merge -useContext +onlyGivenNames y9; have e9 : x_3114 = y9 := (by first | exact he_x_3114 | exact he_x_3114.symm); clear_value y9; subst e9)
                              try (extract_lets -merge -useContext +onlyGivenNames y9; have e9 : x_3115 = y9 := (by first | exact he_x_3115 | exact he_x_3115.symm); clear_value y9; subst e9)
                              try (extract_lets -merge -useContext +onlyGivenNames y9; have e9 : x_3116 = y9 := (by first | exact he_x_3116 | exact he_x_3116.symm); clear_value y9; subst e9)
                              try (extract_lets -merge -useContext +onlyGivenNames y9; have e9 : g_3117 = y9 := (by first | exact hg_g_3117 | exact hg_g_3117.symm); clear_value y9; subst e9)
                              try (extract_lets -merge -useContext +onlyGivenNames y9; have e9 : x_3119 = y9 := (by first | exact he_x_3119 | exact he_x_3119.symm); clear_value y9; subst e9)
                              extract_lets -merge -useContext +onlyGivenNames w9 y21_0 y21_1 y21_2 y21_3 y21_4 y21_5; have e9 : (n_3120, n_3121, n_3122, n_3123, n_3124, n_3125) = w9 := ((z_tS he_n_3120 (z_tS he_n_3121 (z_tS he_n_3122 (z_tS he_n_3123 (z_tS he_n_3124 he_n_3125.symm)))))).symm; clear_value w9; subst e9
                              refine (if_neg c_3131).trans ?_
                              exact rfl
                            exact ih_3028 x_3119 x_3068 0 g_3117 n_3120 n_3121 n_3122 n_3123 n_3124 n_3125 H locs ls (by omega) (by omega) (by omega) (by decide +kernel) hC_g_3117 hr_n_3120 hr_n_3121 hr_n_3122 hr_n_3123 hr_n_3124 hs_3118 (by rw [hq_x_3119]; exact zFl_step hi_2774 hg_g_3117 (by omega) (by omega) (by omega) (r := x_3112.toInt) (c := x_3115.toInt) (by rw [h_46]; omega) (by omega) (by omega) (by omega) (by omega) (by omega) (by omega) (by omega)) (by omega) (by omega) (by omega) (by omega) (by omega) hX_3133 hP hD hS (lv_sub hl [3, 4, 5, 1, 2, 0] rfl)
                          · have b_3134 := z_feqF c_3131
                            refine lv_iconst (v := 1) hx hb dX12_readFeels_252 (by decide) ?_
                            refine lv_goto (tgt := 257) hx hb dX12_readFeels_253 (by decide) ?_
                            refine lv_istore (lv' := [(5, .int 1), (3, .int x_3119), (4, .int x_3068), (0, .ref h0), (1, .int r_14), (2, .int x_45)]) hx hb dX12_readFeels_257 hl (by decide) rfl (fun ls hl => ?_)
                            refine lv_goto (tgt := 74) hx hb dX12_readFeels_259 (by decide) ?_
                            have hX_3135 : F_r_readFeels m_textEnd m_bad m_badAt m_behind m_number m_letters m_word g_tape g_c g_words g_hasFeels = F_r_readFeels_L74c m_textEnd g_tape r_14 n_12 n_13 g_32 x_45 n_L74c x_3119 x_3068 (1 : Int32) g_3117 n_3120 n_3121 n_3122 n_3123 n_3124 n_3125 := by
                              refine hF_L74c.trans ?_
                              refine (F_r_readFeels_L74c_s ..).trans ?_
                              refine (if_neg c_3029).trans ?_
                              refine (if_pos c_3054).trans ?_
                              refine (if_pos c_3058).trans ?_
                              try (extract_lets -merge -useContext +onlyGivenNames y9; have e9 : x_3062 = y9 := (by first | exact he_x_3062 | exact he_x_3062.symm); clear_value y9; subst e9)
                              refine (if_neg c_3063).trans ?_
                              try (extract_lets -merge -useContext +onlyGivenNames y9; have e9 : x_3065 = y9 := (by first | exact he_x_3065 | exact he_x_3065.symm); clear_value y9; subst e9)
                              refine (if_neg c_3066).trans ?_
                              try (extract_lets -merge -useContext +onlyGivenNames y9; have e9 : x_3068 = y9 := (by first | exact he_x_3068 | exact he_x_3068.symm); clear_value y9; subst e9)
                              try (extract_lets -merge -useContext +onlyGivenNames y9; have e9 : x_3071 = y9 := (by first | exact he_x_3071 | exact he_x_3071.symm); clear_value y9; subst e9)
                              try (extract_lets -merge -useContext +onlyGivenNames y9; have e9 : x_3072 = y9 := (by first | exact he_x_3072 | exact he_x_3072.symm); clear_value y9; subst e9)
                              refine (if_pos c_3073).trans ?_
                              refine (if_pos c_3105).trans ?_
                              try (extract_lets -merge -useContext +onlyGivenNames y9; have e9 : x_3110 = y9 := (by first | exact he_x_3110 | exact he_x_3110.symm); clear_value y9; subst e9)
                              try (extract_lets -merge -useContext +onlyGivenNames y9; have e9 : x_3111 = y9 := (by first | exact he_x_3111 | exact he_x_3111.symm); clear_value y9; subst e9)
                              try (extract_lets -merge -useContext +onlyGivenNames y9; have e9 : x_3112 = y9 := (by first | exact he_x_3112 | exact he_x_3112.symm); clear_value y9; subst e9)
                              try (extract_lets -merge -useContext +onlyGivenNames y9; have e9 : x_3113 = y9 := (by first | exact he_x_3113 | exact he_x_3113.symm); clear_value y9; subst e9)
                              try (extract_lets -merge -useContext +onlyGivenNames y9; have e9 : x_3114 = y9 := (by first | exact he_x_3114 | exact he_x_3114.symm); clear_value y9; subst e9)
                              try (extract_lets -merge -useContext +onlyGivenNames y9; have e9 : x_3115 = y9 := (by first | exact he_x_3115 | exact he_x_3115.symm); clear_value y9; subst e9)
                              try (extract_lets -merge -useContext +onlyGivenNames y9; have e9 : x_3116 = y9 := (by first | exact he_x_3116 | exact he_x_3116.symm); clear_value y9; subst e9)
                              try (extract_lets -merge -useContext +onlyGivenNames y9; have e9 : g_3117 = y9 := (by first | exact hg_g_3117 | exact hg_g_3117.symm); clear_value y9; subst e9)
                              try (extract_lets -merge -useContext +onlyGivenNames y9; have e9 : x_3119 = y9 := (by first | exact he_x_3119 | exact he_x_3119.symm); clear_value y9; subst e9)
                              extract_lets -merge -useContext +onlyGivenNames w9 y21_0 y21_1 y21_2 y21_3 y21_4 y21_5; have e9 : (n_3120, n_3121, n_3122, n_3123, n_3124, n_3125) = w9 := ((z_tS he_n_3120 (z_tS he_n_3121 (z_tS he_n_3122 (z_tS he_n_3123 (z_tS he_n_3124 he_n_3125.symm)))))).symm; clear_value w9; subst e9
                              refine (if_pos c_3131).trans ?_
                              exact rfl
                            exact ih_3028 x_3119 x_3068 1 g_3117 n_3120 n_3121 n_3122 n_3123 n_3124 n_3125 H locs ls (by omega) (by omega) (by omega) (by decide +kernel) hC_g_3117 hr_n_3120 hr_n_3121 hr_n_3122 hr_n_3123 hr_n_3124 hs_3118 (by rw [hq_x_3119]; exact zFl_step hi_2774 hg_g_3117 (by omega) (by omega) (by omega) (r := x_3112.toInt) (c := x_3115.toInt) (by rw [h_46]; omega) (by omega) (by omega) (by omega) (by omega) (by omega) (by omega) (by omega)) (by omega) (by omega) (by omega) (by omega) (by omega) hX_3135 hP hD hS (lv_sub hl [3, 4, 5, 1, 2, 0] rfl)
                        · have b_3136 := z_fneF c_3105
                          refine lv_aload_n hx hb dX12_readFeels_192 rfl (lv_at hl 1 rfl) ?_
                          refine lv_bipush (v := 9) hx hb dX12_readFeels_193 (by decide) ?_
                          refine lv_aload_n hx hb dX12_readFeels_195 rfl (lv_at hl 1 rfl) ?_
                          refine va_get (D := G) (ci := 12) (v := .int v_2538) (C := RX12) (T := TX12) (N := 65) hx hb hts inT12 hown hK hP 4 rfl rfl 15 (by decide) (hts _ tw_1900) (fun _ h9 => h9) rfl dX12_readFeels_196 ?_
                          refine z_callVv (As := [.int 9, .int v_2538]) (rest := []) (wr := [(a_hasFeels, .inl (cA.1 3, 3, .inl g_32)), (a_isOn, .inl (cA.1 3, 10, .inl g_isOn)), (a_c, .inl (cA.1 0, 1825, .inl g_2536)), (a_words, .inl (cA.1 1, 105, .inr (.inl g_words))), (a_tape, .inl (cA.1 2, 900, .inl g_tape))]) ⟨hx, hb, hml, hown, hts⟩ hK hE hT hP hD hS hA (r_fail l G cA h0 m_status m_thrown m_above m_under a_traySort a_trayMany a_numbers a_tape m_taped m_textEnd m_faultKind m_faultAt n_12 n_13 v_2537 v_2538 v_2539 v_2540 v_2541 v_2542 a_c a_words m_markMany a_there a_tried a_best a_found m_thereMany m_foundMany m_orderHow m_orderRing m_orderMany m_hasBest m_bestTop m_bestBy a_weights a_shared m_random m_truePlace m_trueWay m_seconds m_done m_feelings m_tries m_leftOver m_playDoor m_playRing m_isOpen m_isOver m_wasTried m_hasPlayed a_feltNow a_last a_kept m_hasSeconds m_hasTurned m_hasRound a_hasFeels a_isOn m_firstAct m_meanTop m_meanBy a_order m_rowMany m_newSteps 9 v_2538 (by decide +kernel) hr_n_12) lk_RX12_180 ⟨rfl, rfl⟩ ⟨Nat.le_of_ble_eq_true rfl, Nat.le_of_ble_eq_true rfl⟩ 12 rfl rfl rfl [4] [0, 1, 2, 3, 5] rfl rfl (by decide) rfl hl.1 rfl (lv_room (Nat.le_of_ble_eq_true rfl)) dX12_readFeels_199 ⟨Nat.le_of_ble_eq_true rfl, Nat.le_of_ble_eq_true rfl⟩ (fun u_3140 H locs hw hP hD hS => ?_)
                          obtain ⟨n_3137, n_3138⟩ := u_3140
                          try dsimp only at hw
                          obtain ⟨he_n_3137, he_n_3138, hw⟩ := hw
                          obtain ⟨hr_n_3137, hf_3142⟩ := hw
                          refine lv_aload_n hx hb dX12_readFeels_202 rfl (lv_at hl 1 rfl) ?_
                          refine va_get (D := G) (ci := 12) (v := .int n_3137) (C := RX12) (T := TX12) (N := 65) hx hb hts inT12 hown hK hP 5 rfl rfl 12 (by decide) (hts _ tw_1897) (fun _ h9 => h9) rfl dX12_readFeels_203 ?_
                          refine lv_if_le (tgt := 210) hx hb dX12_readFeels_206 (by decide) (fun h9 => (z_no (by have h8 := z_fleT h9; omega))) (fun c_3143 => ?_)
                          have b_3144 := z_fgtF c_3143
                          have hpost : (0 ≤ n_3137.toInt ∧ n_3137.toInt ≤ 9) ∧ (0 ≤ v_2537.toInt ∧ v_2537.toInt ≤ 4) ∧ (0 ≤ v_2538.toInt ∧ v_2538.toInt ≤ 900) ∧ (0 ≤ v_2539.toInt ∧ v_2539.toInt ≤ 900) ∧ (0 ≤ v_2540.toInt ∧ v_2540.toInt ≤ 9999) ∧ (0 ≤ v_2541.toInt ∧ v_2541.toInt ≤ 900) ∧ (zRg 3 0 1 g_32) ∧ (zC g_2536) ∧ (zNw g_2536 g_isOn) ∧ (m_behind.toInt ≤ v_2539.toInt) ∧ (0 < m_bad.toInt → 0 < n_3137.toInt) ∧ (n_3137.toInt ≤ 0 → v_2537.toInt = 0 ∨ m_behind.toInt < v_2539.toInt) ∧ (n_3137.toInt ≤ 0 → v_2537.toInt = 3 → v_2540.toInt = 59 → zNf g_2536) := ⟨(z_rgw hr_n_3137 (by decide) (by decide)), hr_v_2537, hr_v_2538, hr_v_2539, hr_v_2540, hr_v_2541, hC_g_32, hC_g_2536, hs_2773, (by omega), (by omega), (by omega), (fun h1 h2 h3 => z_no (by omega))⟩
                          have hX_3145 : F_r_readFeels m_textEnd m_bad m_badAt m_behind m_number m_letters m_word g_tape g_c g_words g_hasFeels = ((n_3137, n_3138, v_2537, v_2538, v_2539, v_2540, v_2541, v_2542, g_32, g_2536) : Int32 × Int32 × Int32 × Int32 × Int32 × Int32 × Int32 × Int64 × (Nat → Int32) × (Nat → Int32)) := by
                            refine hF_L74c.trans ?_
                            refine (F_r_readFeels_L74c_s ..).trans ?_
                            refine (if_neg c_3029).trans ?_
                            refine (if_pos c_3054).trans ?_
                            refine (if_pos c_3058).trans ?_
                            try (extract_lets -merge -useContext +onlyGivenNames y9; have e9 : x_3062 = y9 := (by first | exact he_x_3062 | exact he_x_3062.symm); clear_value y9; subst e9)
                            refine (if_neg c_3063).trans ?_
                            try (extract_lets -merge -useContext +onlyGivenNames y9; have e9 : x_3065 = y9 := (by first | exact he_x_3065 | exact he_x_3065.symm); clear_value y9; subst e9)
                            refine (if_neg c_3066).trans ?_
                            try (extract_lets -merge -useContext +onlyGivenNames y9; have e9 : x_3068 = y9 := (by first | exact he_x_3068 | exact he_x_3068.symm); clear_value y9; subst e9)
                            try (extract_lets -merge -useContext +onlyGivenNames y9; have e9 : x_3071 = y9 := (by first | exact he_x_3071 | exact he_x_3071.symm); clear_value y9; subst e9)
                            try (extract_lets -merge -useContext +onlyGivenNames y9; have e9 : x_3072 = y9 := (by first | exact he_x_3072 | exact he_x_3072.symm); clear_value y9; subst e9)
                            refine (if_pos c_3073).trans ?_
                            refine (if_neg c_3105).trans ?_
                            extract_lets -merge -useContext +onlyGivenNames w9 y12_0 y12_1; have e9 : (n_3137, n_3138) = w9 := ((z_tS he_n_3137 he_n_3138.symm)).symm; clear_value w9; subst e9
                            exact rfl
                          exact hret _ _ _ _ _ (n_3137, n_3138, v_2537, v_2538, v_2539, v_2540, v_2541, v_2542, g_32, g_2536) [5, 4, 2, 3, 0, 1] hP hD hS rfl (by decide) dX12_readFeels_209 ⟨(congrArg (fun z9 => z9.1) hX_3145).symm, (congrArg (fun z9 => z9.2.1) hX_3145).symm, (congrArg (fun z9 => z9.2.2.1) hX_3145).symm, (congrArg (fun z9 => z9.2.2.2.1) hX_3145).symm, (congrArg (fun z9 => z9.2.2.2.2.1) hX_3145).symm, (congrArg (fun z9 => z9.2.2.2.2.2.1) hX_3145).symm, (congrArg (fun z9 => z9.2.2.2.2.2.2.1) hX_3145).symm, (congrArg (fun z9 => z9.2.2.2.2.2.2.2.1) hX_3145).symm, (congrArg (fun z9 => z9.2.2.2.2.2.2.2.2.1) hX_3145).symm, (congrArg (fun z9 => z9.2.2.2.2.2.2.2.2.2) hX_3145).symm, hpost⟩
                    · have b_3146 := z_feqF c_3066
                      refine lv_aload_n hx hb dX12_readFeels_153 rfl (lv_at hl 0 rfl) ?_
                      refine va_get (D := G) (ci := 12) (v := .int v_2540) (C := RX12) (T := TX12) (N := 65) hx hb hts inT12 hown hK hP 4 rfl rfl 17 (by decide) (hts _ tw_1902) (fun _ h9 => h9) rfl dX12_readFeels_154 ?_
                      refine lv_goto (tgt := 167) hx hb dX12_readFeels_157 (by decide) ?_
                      refine lv_istore (lv' := [(4, .int v_2540), (0, .ref h0), (1, .int r_14), (2, .int x_45), (3, .int v_2533), (5, .int v_2535)]) hx hb dX12_readFeels_167 hl (by decide) rfl (fun ls hl => ?_)
                      refine lv_aload_n hx hb dX12_readFeels_169 rfl (lv_at hl 1 rfl) ?_
                      refine va_get (D := G) (ci := 12) (v := .int n_12) (C := RX12) (T := TX12) (N := 65) hx hb hts inT12 hown hK hP 4 rfl rfl 12 (by decide) (hts _ tw_1897) (fun _ h9 => h9) rfl dX12_readFeels_170 ?_
                      refine lv_if_ne (tgt := 202) hx hb dX12_readFeels_173 (by decide) (fun h9 => (z_no (by have h8 := z_fneT h9; omega))) (fun c_3147 => ?_)
                      have b_3148 := z_feqF c_3147
                      refine lv_iload_n hx hb dX12_readFeels_176 rfl (lv_at hl 4 rfl) ?_
                      refine lv_iload_n hx hb dX12_readFeels_177 rfl (lv_at hl 3 rfl) ?_
                      refine lv_irem hx hb dX12_readFeels_178 (z_nz (by omega)) ?_
                      refine lv_topi (fun x_3149 he_x_3149 => ?_)
                      have hq_x_3149 := z_remq he_x_3149 (rfl : v_2533.toInt = _) (by omega : x_45.toInt = 4) (by omega) (by decide)
                      refine lv_iload_n hx hb dX12_readFeels_179 rfl (lv_at hl 3 rfl) ?_
                      refine lv_iconst (v := 1) hx hb dX12_readFeels_180 (by decide) ?_
                      refine lv_isub hx hb dX12_readFeels_181 ?_
                      refine lv_topi (fun x_3150 he_x_3150 => ?_)
                      have hq_x_3150 := z_subq he_x_3150 (rfl : x_45.toInt = _) hk_1 (by omega) (by omega)
                      refine lv_icmp_ne (tgt := 202) hx hb dX12_readFeels_182 (by decide) (fun c_3151 => ?_) (fun c_3151 => ?_)
                      · have b_3152 := z_fneT c_3151
                        refine lv_aload_n hx hb dX12_readFeels_202 rfl (lv_at hl 1 rfl) ?_
                        refine va_get (D := G) (ci := 12) (v := .int n_12) (C := RX12) (T := TX12) (N := 65) hx hb hts inT12 hown hK hP 4 rfl rfl 12 (by decide) (hts _ tw_1897) (fun _ h9 => h9) rfl dX12_readFeels_203 ?_
                        refine lv_if_le (tgt := 210) hx hb dX12_readFeels_206 (by decide) (fun c_3153 => ?_) (fun h9 => (z_no (by have h8 := z_fgtF h9; omega)))
                        have b_3154 := z_fleT c_3153
                        have hn_k_3155 : 0 ≤ v_2533.toInt ∧ v_2533.toInt ≤ 15 := by omega
                        refine lv_aload_n hx hb dX12_readFeels_210 rfl (lv_at hl 1 rfl) ?_
                        refine va_get (D := G) (ci := 12) (v := .ref a_c) (C := RX12) (T := TX12) (N := 65) hx hb hts inT12 hown hK hP 4 rfl rfl 20 (by decide) (hts _ tw_1905) (fun _ h9 => h9) rfl dX12_readFeels_211 ?_
                        refine lv_sipush (v := 1477) hx hb dX12_readFeels_214 (by decide) ?_
                        refine lv_bipush (v := 16) hx hb dX12_readFeels_217 (by decide) ?_
                        refine lv_iload_n hx hb dX12_readFeels_219 rfl (lv_at hl 2 rfl) ?_
                        refine lv_imul hx hb dX12_readFeels_220 ?_
                        refine lv_topi (fun x_3156 he_x_3156 => ?_)
                        have hq_x_3156 := z_mulq he_x_3156 hk_16 (rfl : r_14.toInt = _) (by omega) (by omega)
                        refine lv_iadd hx hb dX12_readFeels_221 ?_
                        refine lv_topi (fun x_3157 he_x_3157 => ?_)
                        have hq_x_3157 := z_addq he_x_3157 hk_1477 (rfl : x_3156.toInt = _) (by omega) (by omega)
                        refine lv_iconst (v := 4) hx hb dX12_readFeels_222 (by decide) ?_
                        refine lv_iload_n hx hb dX12_readFeels_223 rfl (lv_at hl 4 rfl) ?_
                        refine lv_iload_n hx hb dX12_readFeels_224 rfl (lv_at hl 3 rfl) ?_
                        refine lv_idiv hx hb dX12_readFeels_225 (z_nz (by omega)) ?_
                        refine lv_topi (fun x_3158 he_x_3158 => ?_)
                        have hq_x_3158 := z_divq he_x_3158 (rfl : v_2533.toInt = _) (by omega : x_45.toInt = 4) (by omega) (by decide)
                        refine lv_imul hx hb dX12_readFeels_226 ?_
                        refine lv_topi (fun x_3159 he_x_3159 => ?_)
                        have hq_x_3159 := z_mulq he_x_3159 hk_4 (rfl : x_3158.toInt = _) (by omega) (by omega)
                        refine lv_iadd hx hb dX12_readFeels_227 ?_
                        refine lv_topi (fun x_3160 he_x_3160 => ?_)
                        have hq_x_3160 := z_addq he_x_3160 (rfl : x_3157.toInt = _) (rfl : x_3159.toInt = _) (by omega) (by omega)
                        refine lv_iload_n hx hb dX12_readFeels_228 rfl (lv_at hl 4 rfl) ?_
                        refine lv_iload_n hx hb dX12_readFeels_229 rfl (lv_at hl 3 rfl) ?_
                        refine lv_irem hx hb dX12_readFeels_230 (z_nz (by omega)) ?_
                        refine lv_topi (fun x_3161 he_x_3161 => ?_)
                        have hq_x_3161 := z_remq he_x_3161 (rfl : v_2533.toInt = _) (by omega : x_45.toInt = 4) (by omega) (by decide)
                        refine lv_iadd hx hb dX12_readFeels_231 ?_
                        refine lv_topi (fun x_3162 he_x_3162 => ?_)
                        have hq_x_3162 := z_addq he_x_3162 (rfl : x_3160.toInt = _) (rfl : x_3161.toInt = _) (by omega) (by omega)
                        refine lv_aload_n hx hb dX12_readFeels_232 rfl (lv_at hl 1 rfl) ?_
                        refine va_get (D := G) (ci := 12) (v := .int v_2540) (C := RX12) (T := TX12) (N := 65) hx hb hts inT12 hown hK hP 4 rfl rfl 17 (by decide) (hts _ tw_1902) (fun _ h9 => h9) rfl dX12_readFeels_233 ?_
                        refine z_iast hx hb hK hP hD hS 2 0 rfl rfl (z_inN (by omega) (by omega)) dX12_readFeels_236 (fun g_3163 hg_g_3163 H locs hP hD hS => ?_)
                        have hC_g_3163 := z_ctU hC_g_2536 hg_g_3163 (a := 1477) (b := 1524) (lo := 0) (hi := 16) (by decide +kernel) (by decide +kernel) (by omega) (by omega) (by omega)
                        have hw_g_3163_1460 := z_cwo hg_g_3163 (k := 1460) (by omega) (by omega)
                        have hs_3164 : zNw g_3163 g_isOn := (zNw_fr hs_2773 hg_g_3163 (a := 1477) (b := 1524) (by decide +kernel) (by omega) (by omega))
                        obtain ⟨x_3165, he_x_3165⟩ : ∃ z : Int32, z = v_2533 + 1 := ⟨_, rfl⟩
                        have hq_x_3165 := z_addq he_x_3165 (rfl : v_2533.toInt = _) hk_1 (by omega) (by omega)
                        refine lv_iinc (v := x_3165) (lv' := [(3, .int x_3165), (4, .int v_2540), (0, .ref h0), (1, .int r_14), (2, .int x_45), (5, .int v_2535)]) hx hb dX12_readFeels_237 hl (k := 4) rfl ((z_ofi (by decide +kernel)).trans he_x_3165.symm) (by decide) rfl (fun ls hl => ?_)
                        refine lv_aload_n hx hb dX12_readFeels_240 rfl (lv_at hl 2 rfl) ?_
                        refine z_callVv (As := []) (rest := []) (wr := [(a_hasFeels, .inl (cA.1 3, 3, .inl g_32)), (a_isOn, .inl (cA.1 3, 10, .inl g_isOn)), (a_c, .inl (cA.1 0, 1825, .inl g_3163)), (a_words, .inl (cA.1 1, 105, .inr (.inl g_words)))]) ⟨hx, hb, hml, hown, hts⟩ hK hE hT hP hD hS hA (r_next2 l G cA h0 m_status m_thrown m_above m_under a_traySort a_trayMany a_numbers a_tape m_taped m_textEnd m_faultKind m_faultAt n_12 n_13 v_2537 v_2538 v_2539 v_2540 v_2541 v_2542 a_c a_words m_markMany a_there a_tried a_best a_found m_thereMany m_foundMany m_orderHow m_orderRing m_orderMany m_hasBest m_bestTop m_bestBy a_weights a_shared m_random m_truePlace m_trueWay m_seconds m_done m_feelings m_tries m_leftOver m_playDoor m_playRing m_isOpen m_isOver m_wasTried m_hasPlayed a_feltNow a_last a_kept m_hasSeconds m_hasTurned m_hasRound a_hasFeels a_isOn m_firstAct m_meanTop m_meanBy a_order m_rowMany m_newSteps g_tape hr_m_textEnd hr_v_2538 hr_v_2539 hr_v_2537 hr_v_2540 hr_v_2541) lk_RX12_184 ⟨rfl, rfl⟩ ⟨Nat.le_of_ble_eq_true rfl, Nat.le_of_ble_eq_true rfl⟩ 12 rfl rfl rfl [4, 5] [0, 1, 2, 3] rfl rfl (by decide) rfl hl.1 rfl (lv_room (Nat.le_of_ble_eq_true rfl)) dX12_readFeels_241 ⟨Nat.le_of_ble_eq_true rfl, Nat.le_of_ble_eq_true rfl⟩ (fun u_3173 H locs hw hP hD hS => ?_)
                        obtain ⟨n_3166, n_3167, n_3168, n_3169, n_3170, n_3171⟩ := u_3173
                        try dsimp only at hw
                        obtain ⟨he_n_3166, he_n_3167, he_n_3168, he_n_3169, he_n_3170, he_n_3171, hw⟩ := hw
                        obtain ⟨hr_n_3166, hr_n_3167, hr_n_3168, hr_n_3169, hr_n_3170, hf_3175, hf_3176⟩ := hw
                        refine lv_aload_n hx hb dX12_readFeels_244 rfl (lv_at hl 2 rfl) ?_
                        refine va_get (D := G) (ci := 12) (v := .int n_3166) (C := RX12) (T := TX12) (N := 65) hx hb hts inT12 hown hK hP 4 rfl rfl 14 (by decide) (hts _ tw_1899) (fun _ h9 => h9) rfl dX12_readFeels_245 ?_
                        refine lv_iconst (v := 2) hx hb dX12_readFeels_248 (by decide) ?_
                        refine lv_icmp_ne (tgt := 256) hx hb dX12_readFeels_249 (by decide) (fun c_3177 => ?_) (fun c_3177 => ?_)
                        · have b_3178 := z_fneT c_3177
                          refine lv_iconst (v := 0) hx hb dX12_readFeels_256 (by decide) ?_
                          refine lv_istore (lv' := [(5, .int 0), (3, .int x_3165), (4, .int v_2540), (0, .ref h0), (1, .int r_14), (2, .int x_45)]) hx hb dX12_readFeels_257 hl (by decide) rfl (fun ls hl => ?_)
                          refine lv_goto (tgt := 74) hx hb dX12_readFeels_259 (by decide) ?_
                          have hX_3179 : F_r_readFeels m_textEnd m_bad m_badAt m_behind m_number m_letters m_word g_tape g_c g_words g_hasFeels = F_r_readFeels_L74c m_textEnd g_tape r_14 n_12 n_13 g_32 x_45 n_L74c x_3165 v_2540 (0 : Int32) g_3163 n_3166 n_3167 n_3168 n_3169 n_3170 n_3171 := by
                            refine hF_L74c.trans ?_
                            refine (F_r_readFeels_L74c_s ..).trans ?_
                            refine (if_neg c_3029).trans ?_
                            refine (if_pos c_3054).trans ?_
                            refine (if_pos c_3058).trans ?_
                            try (extract_lets -merge -useContext +onlyGivenNames y9; have e9 : x_3062 = y9 := (by first | exact he_x_3062 | exact he_x_3062.symm); clear_value y9; subst e9)
                            refine (if_neg c_3063).trans ?_
                            try (extract_lets -merge -useContext +onlyGivenNames y9; have e9 : x_3065 = y9 := (by first | exact he_x_3065 | exact he_x_3065.symm); clear_value y9; subst e9)
                            refine (if_pos c_3066).trans ?_
                            try (extract_lets -merge -useContext +onlyGivenNames y9; have e9 : x_3149 = y9 := (by first | exact he_x_3149 | exact he_x_3149.symm); clear_value y9; subst e9)
                            try (extract_lets -merge -useContext +onlyGivenNames y9; have e9 : x_3150 = y9 := (by first | exact he_x_3150 | exact he_x_3150.symm); clear_value y9; subst e9)
                            refine (if_neg c_3151).trans ?_
                            try (extract_lets -merge -useContext +onlyGivenNames y9; have e9 : x_3156 = y9 := (by first | exact he_x_3156 | exact he_x_3156.symm); clear_value y9; subst e9)
                            try (extract_lets -merge -useContext +onlyGivenNames y9; have e9 : x_3157 = y9 := (by first | exact he_x_3157 | exact he_x_3157.symm); clear_value y9; subst e9)
                            try (extract_lets -merge -useContext +onlyGivenNames y9; have e9 : x_3158 = y9 := (by first | exact he_x_3158 | exact he_x_3158.symm); clear_value y9; subst e9)
                            try (extract_lets -merge -useContext +onlyGivenNames y9; have e9 : x_3159 = y9 := (by first | exact he_x_3159 | exact he_x_3159.symm); clear_value y9; subst e9)
                            try (extract_lets -merge -useContext +onlyGivenNames y9; have e9 : x_3160 = y9 := (by first | exact he_x_3160 | exact he_x_3160.symm); clear_value y9; subst e9)
                            try (extract_lets -merge -useContext +onlyGivenNames y9; have e9 : x_3161 = y9 := (by first | exact he_x_3161 | exact he_x_3161.symm); clear_value y9; subst e9)
                            try (extract_lets -merge -useContext +onlyGivenNames y9; have e9 : x_3162 = y9 := (by first | exact he_x_3162 | exact he_x_3162.symm); clear_value y9; subst e9)
                            try (extract_lets -merge -useContext +onlyGivenNames y9; have e9 : g_3163 = y9 := (by first | exact hg_g_3163 | exact hg_g_3163.symm); clear_value y9; subst e9)
                            try (extract_lets -merge -useContext +onlyGivenNames y9; have e9 : x_3165 = y9 := (by first | exact he_x_3165 | exact he_x_3165.symm); clear_value y9; subst e9)
                            extract_lets -merge -useContext +onlyGivenNames w9 y19_0 y19_1 y19_2 y19_3 y19_4 y19_5; have e9 : (n_3166, n_3167, n_3168, n_3169, n_3170, n_3171) = w9 := ((z_tS he_n_3166 (z_tS he_n_3167 (z_tS he_n_3168 (z_tS he_n_3169 (z_tS he_n_3170 he_n_3171.symm)))))).symm; clear_value w9; subst e9
                            refine (if_neg c_3177).trans ?_
                            exact rfl
                          exact ih_3028 x_3165 v_2540 0 g_3163 n_3166 n_3167 n_3168 n_3169 n_3170 n_3171 H locs ls (by omega) (by omega) (by omega) (by decide +kernel) hC_g_3163 hr_n_3166 hr_n_3167 hr_n_3168 hr_n_3169 hr_n_3170 hs_3164 (by rw [hq_x_3165]; exact zFl_step hi_2774 hg_g_3163 (by omega) (by omega) (by omega) (r := x_3158.toInt) (c := x_3161.toInt) (by rw [h_46]; omega) (by omega) (by omega) (by omega) (by omega) (by omega) (by omega) (by omega)) (by omega) (by omega) (by omega) (by omega) (by omega) hX_3179 hP hD hS (lv_sub hl [3, 4, 5, 1, 2, 0] rfl)
                        · have b_3180 := z_feqF c_3177
                          refine lv_iconst (v := 1) hx hb dX12_readFeels_252 (by decide) ?_
                          refine lv_goto (tgt := 257) hx hb dX12_readFeels_253 (by decide) ?_
                          refine lv_istore (lv' := [(5, .int 1), (3, .int x_3165), (4, .int v_2540), (0, .ref h0), (1, .int r_14), (2, .int x_45)]) hx hb dX12_readFeels_257 hl (by decide) rfl (fun ls hl => ?_)
                          refine lv_goto (tgt := 74) hx hb dX12_readFeels_259 (by decide) ?_
                          have hX_3181 : F_r_readFeels m_textEnd m_bad m_badAt m_behind m_number m_letters m_word g_tape g_c g_words g_hasFeels = F_r_readFeels_L74c m_textEnd g_tape r_14 n_12 n_13 g_32 x_45 n_L74c x_3165 v_2540 (1 : Int32) g_3163 n_3166 n_3167 n_3168 n_3169 n_3170 n_3171 := by
                            refine hF_L74c.trans ?_
                            refine (F_r_readFeels_L74c_s ..).trans ?_
                            refine (if_neg c_3029).trans ?_
                            refine (if_pos c_3054).trans ?_
                            refine (if_pos c_3058).trans ?_
                            try (extract_lets -merge -useContext +onlyGivenNames y9; have e9 : x_3062 = y9 := (by first | exact he_x_3062 | exact he_x_3062.symm); clear_value y9; subst e9)
                            refine (if_neg c_3063).trans ?_
                            try (extract_lets -merge -useContext +onlyGivenNames y9; have e9 : x_3065 = y9 := (by first | exact he_x_3065 | exact he_x_3065.symm); clear_value y9; subst e9)
                            refine (if_pos c_3066).trans ?_
                            try (extract_lets -merge -useContext +onlyGivenNames y9; have e9 : x_3149 = y9 := (by first | exact he_x_3149 | exact he_x_3149.symm); clear_value y9; subst e9)
                            try (extract_lets -merge -useContext +onlyGivenNames y9; have e9 : x_3150 = y9 := (by first | exact he_x_3150 | exact he_x_3150.symm); clear_value y9; subst e9)
                            refine (if_neg c_3151).trans ?_
                            try (extract_lets -merge -useContext +onlyGivenNames y9; have e9 : x_3156 = y9 := (by first | exact he_x_3156 | exact he_x_3156.symm); clear_value y9; subst e9)
                            try (extract_lets -merge -useContext +onlyGivenNames y9; have e9 : x_3157 = y9 := (by first | exact he_x_3157 | exact he_x_3157.symm); clear_value y9; subst e9)
                            try (extract_lets -merge -useContext +onlyGivenNames y9; have e9 : x_3158 = y9 := (by first | exact he_x_3158 | exact he_x_3158.symm); clear_value y9; subst e9)
                            try (extract_lets -merge -useContext +onlyGivenNames y9; have e9 : x_3159 = y9 := (by first | exact he_x_3159 | exact he_x_3159.symm); clear_value y9; subst e9)
                            try (extract_lets -merge -useContext +onlyGivenNames y9; have e9 : x_3160 = y9 := (by first | exact he_x_3160 | exact he_x_3160.symm); clear_value y9; subst e9)
                            try (extract_lets -merge -useContext +onlyGivenNames y9; have e9 : x_3161 = y9 := (by first | exact he_x_3161 | exact he_x_3161.symm); clear_value y9; subst e9)
                            try (extract_lets -merge -useContext +onlyGivenNames y9; have e9 : x_3162 = y9 := (by first | exact he_x_3162 | exact he_x_3162.symm); clear_value y9; subst e9)
                            try (extract_lets -merge -useContext +onlyGivenNames y9; have e9 : g_3163 = y9 := (by first | exact hg_g_3163 | exact hg_g_3163.symm); clear_value y9; subst e9)
                            try (extract_lets -merge -useContext +onlyGivenNames y9; have e9 : x_3165 = y9 := (by first | exact he_x_3165 | exact he_x_3165.symm); clear_value y9; subst e9)
                            extract_lets -merge -useContext +onlyGivenNames w9 y19_0 y19_1 y19_2 y19_3 y19_4 y19_5; have e9 : (n_3166, n_3167, n_3168, n_3169, n_3170, n_3171) = w9 := ((z_tS he_n_3166 (z_tS he_n_3167 (z_tS he_n_3168 (z_tS he_n_3169 (z_tS he_n_3170 he_n_3171.symm)))))).symm; clear_value w9; subst e9
                            refine (if_pos c_3177).trans ?_
                            exact rfl
                          exact ih_3028 x_3165 v_2540 1 g_3163 n_3166 n_3167 n_3168 n_3169 n_3170 n_3171 H locs ls (by omega) (by omega) (by omega) (by decide +kernel) hC_g_3163 hr_n_3166 hr_n_3167 hr_n_3168 hr_n_3169 hr_n_3170 hs_3164 (by rw [hq_x_3165]; exact zFl_step hi_2774 hg_g_3163 (by omega) (by omega) (by omega) (r := x_3158.toInt) (c := x_3161.toInt) (by rw [h_46]; omega) (by omega) (by omega) (by omega) (by omega) (by omega) (by omega) (by omega)) (by omega) (by omega) (by omega) (by omega) (by omega) hX_3181 hP hD hS (lv_sub hl [3, 4, 5, 1, 2, 0] rfl)
                      · have b_3182 := z_feqF c_3151
                        refine lv_iload hx hb dX12_readFeels_185 (lv_at hl 0 rfl) ?_
                        refine lv_bipush (v := 16) hx hb dX12_readFeels_187 (by decide) ?_
                        refine lv_icmp_eq (tgt := 202) hx hb dX12_readFeels_189 (by decide) (fun c_3183 => ?_) (fun c_3183 => ?_)
                        · have b_3184 := z_feqT c_3183
                          refine lv_aload_n hx hb dX12_readFeels_202 rfl (lv_at hl 1 rfl) ?_
                          refine va_get (D := G) (ci := 12) (v := .int n_12) (C := RX12) (T := TX12) (N := 65) hx hb hts inT12 hown hK hP 4 rfl rfl 12 (by decide) (hts _ tw_1897) (fun _ h9 => h9) rfl dX12_readFeels_203 ?_
                          refine lv_if_le (tgt := 210) hx hb dX12_readFeels_206 (by decide) (fun c_3185 => ?_) (fun h9 => (z_no (by have h8 := z_fgtF h9; omega)))
                          have b_3186 := z_fleT c_3185
                          have hn_k_3187 : 0 ≤ v_2533.toInt ∧ v_2533.toInt ≤ 15 := by omega
                          refine lv_aload_n hx hb dX12_readFeels_210 rfl (lv_at hl 1 rfl) ?_
                          refine va_get (D := G) (ci := 12) (v := .ref a_c) (C := RX12) (T := TX12) (N := 65) hx hb hts inT12 hown hK hP 4 rfl rfl 20 (by decide) (hts _ tw_1905) (fun _ h9 => h9) rfl dX12_readFeels_211 ?_
                          refine lv_sipush (v := 1477) hx hb dX12_readFeels_214 (by decide) ?_
                          refine lv_bipush (v := 16) hx hb dX12_readFeels_217 (by decide) ?_
                          refine lv_iload_n hx hb dX12_readFeels_219 rfl (lv_at hl 2 rfl) ?_
                          refine lv_imul hx hb dX12_readFeels_220 ?_
                          refine lv_topi (fun x_3188 he_x_3188 => ?_)
                          have hq_x_3188 := z_mulq he_x_3188 hk_16 (rfl : r_14.toInt = _) (by omega) (by omega)
                          refine lv_iadd hx hb dX12_readFeels_221 ?_
                          refine lv_topi (fun x_3189 he_x_3189 => ?_)
                          have hq_x_3189 := z_addq he_x_3189 hk_1477 (rfl : x_3188.toInt = _) (by omega) (by omega)
                          refine lv_iconst (v := 4) hx hb dX12_readFeels_222 (by decide) ?_
                          refine lv_iload_n hx hb dX12_readFeels_223 rfl (lv_at hl 4 rfl) ?_
                          refine lv_iload_n hx hb dX12_readFeels_224 rfl (lv_at hl 3 rfl) ?_
                          refine lv_idiv hx hb dX12_readFeels_225 (z_nz (by omega)) ?_
                          refine lv_topi (fun x_3190 he_x_3190 => ?_)
                          have hq_x_3190 := z_divq he_x_3190 (rfl : v_2533.toInt = _) (by omega : x_45.toInt = 4) (by omega) (by decide)
                          refine lv_imul hx hb dX12_readFeels_226 ?_
                          refine lv_topi (fun x_3191 he_x_3191 => ?_)
                          have hq_x_3191 := z_mulq he_x_3191 hk_4 (rfl : x_3190.toInt = _) (by omega) (by omega)
                          refine lv_iadd hx hb dX12_readFeels_227 ?_
                          refine lv_topi (fun x_3192 he_x_3192 => ?_)
                          have hq_x_3192 := z_addq he_x_3192 (rfl : x_3189.toInt = _) (rfl : x_3191.toInt = _) (by omega) (by omega)
                          refine lv_iload_n hx hb dX12_readFeels_228 rfl (lv_at hl 4 rfl) ?_
                          refine lv_iload_n hx hb dX12_readFeels_229 rfl (lv_at hl 3 rfl) ?_
                          refine lv_irem hx hb dX12_readFeels_230 (z_nz (by omega)) ?_
                          refine lv_topi (fun x_3193 he_x_3193 => ?_)
                          have hq_x_3193 := z_remq he_x_3193 (rfl : v_2533.toInt = _) (by omega : x_45.toInt = 4) (by omega) (by decide)
                          refine lv_iadd hx hb dX12_readFeels_231 ?_
                          refine lv_topi (fun x_3194 he_x_3194 => ?_)
                          have hq_x_3194 := z_addq he_x_3194 (rfl : x_3192.toInt = _) (rfl : x_3193.toInt = _) (by omega) (by omega)
                          refine lv_aload_n hx hb dX12_readFeels_232 rfl (lv_at hl 1 rfl) ?_
                          refine va_get (D := G) (ci := 12) (v := .int v_2540) (C := RX12) (T := TX12) (N := 65) hx hb hts inT12 hown hK hP 4 rfl rfl 17 (by decide) (hts _ tw_1902) (fun _ h9 => h9) rfl dX12_readFeels_233 ?_
                          refine z_iast hx hb hK hP hD hS 2 0 rfl rfl (z_inN (by omega) (by omega)) dX12_readFeels_236 (fun g_3195 hg_g_3195 H locs hP hD hS => ?_)
                          have hC_g_3195 := z_ctU hC_g_2536 hg_g_3195 (a := 1477) (b := 1524) (lo := 0) (hi := 16) (by decide +kernel) (by decide +kernel) (by omega) (by omega) (by omega)
                          have hw_g_3195_1460 := z_cwo hg_g_3195 (k := 1460) (by omega) (by omega)
                          have hs_3196 : zNw g_3195 g_isOn := (zNw_fr hs_2773 hg_g_3195 (a := 1477) (b := 1524) (by decide +kernel) (by omega) (by omega))
                          obtain ⟨x_3197, he_x_3197⟩ : ∃ z : Int32, z = v_2533 + 1 := ⟨_, rfl⟩
                          have hq_x_3197 := z_addq he_x_3197 (rfl : v_2533.toInt = _) hk_1 (by omega) (by omega)
                          refine lv_iinc (v := x_3197) (lv' := [(3, .int x_3197), (4, .int v_2540), (0, .ref h0), (1, .int r_14), (2, .int x_45), (5, .int v_2535)]) hx hb dX12_readFeels_237 hl (k := 4) rfl ((z_ofi (by decide +kernel)).trans he_x_3197.symm) (by decide) rfl (fun ls hl => ?_)
                          refine lv_aload_n hx hb dX12_readFeels_240 rfl (lv_at hl 2 rfl) ?_
                          refine z_callVv (As := []) (rest := []) (wr := [(a_hasFeels, .inl (cA.1 3, 3, .inl g_32)), (a_isOn, .inl (cA.1 3, 10, .inl g_isOn)), (a_c, .inl (cA.1 0, 1825, .inl g_3195)), (a_words, .inl (cA.1 1, 105, .inr (.inl g_words)))]) ⟨hx, hb, hml, hown, hts⟩ hK hE hT hP hD hS hA (r_next2 l G cA h0 m_status m_thrown m_above m_under a_traySort a_trayMany a_numbers a_tape m_taped m_textEnd m_faultKind m_faultAt n_12 n_13 v_2537 v_2538 v_2539 v_2540 v_2541 v_2542 a_c a_words m_markMany a_there a_tried a_best a_found m_thereMany m_foundMany m_orderHow m_orderRing m_orderMany m_hasBest m_bestTop m_bestBy a_weights a_shared m_random m_truePlace m_trueWay m_seconds m_done m_feelings m_tries m_leftOver m_playDoor m_playRing m_isOpen m_isOver m_wasTried m_hasPlayed a_feltNow a_last a_kept m_hasSeconds m_hasTurned m_hasRound a_hasFeels a_isOn m_firstAct m_meanTop m_meanBy a_order m_rowMany m_newSteps g_tape hr_m_textEnd hr_v_2538 hr_v_2539 hr_v_2537 hr_v_2540 hr_v_2541) lk_RX12_184 ⟨rfl, rfl⟩ ⟨Nat.le_of_ble_eq_true rfl, Nat.le_of_ble_eq_true rfl⟩ 12 rfl rfl rfl [4, 5] [0, 1, 2, 3] rfl rfl (by decide) rfl hl.1 rfl (lv_room (Nat.le_of_ble_eq_true rfl)) dX12_readFeels_241 ⟨Nat.le_of_ble_eq_true rfl, Nat.le_of_ble_eq_true rfl⟩ (fun u_3205 H locs hw hP hD hS => ?_)
                          obtain ⟨n_3198, n_3199, n_3200, n_3201, n_3202, n_3203⟩ := u_3205
                          try dsimp only at hw
                          obtain ⟨he_n_3198, he_n_3199, he_n_3200, he_n_3201, he_n_3202, he_n_3203, hw⟩ := hw
                          obtain ⟨hr_n_3198, hr_n_3199, hr_n_3200, hr_n_3201, hr_n_3202, hf_3207, hf_3208⟩ := hw
                          refine lv_aload_n hx hb dX12_readFeels_244 rfl (lv_at hl 2 rfl) ?_
                          refine va_get (D := G) (ci := 12) (v := .int n_3198) (C := RX12) (T := TX12) (N := 65) hx hb hts inT12 hown hK hP 4 rfl rfl 14 (by decide) (hts _ tw_1899) (fun _ h9 => h9) rfl dX12_readFeels_245 ?_
                          refine lv_iconst (v := 2) hx hb dX12_readFeels_248 (by decide) ?_
                          refine lv_icmp_ne (tgt := 256) hx hb dX12_readFeels_249 (by decide) (fun c_3209 => ?_) (fun c_3209 => ?_)
                          · have b_3210 := z_fneT c_3209
                            refine lv_iconst (v := 0) hx hb dX12_readFeels_256 (by decide) ?_
                            refine lv_istore (lv' := [(5, .int 0), (3, .int x_3197), (4, .int v_2540), (0, .ref h0), (1, .int r_14), (2, .int x_45)]) hx hb dX12_readFeels_257 hl (by decide) rfl (fun ls hl => ?_)
                            refine lv_goto (tgt := 74) hx hb dX12_readFeels_259 (by decide) ?_
                            have hX_3211 : F_r_readFeels m_textEnd m_bad m_badAt m_behind m_number m_letters m_word g_tape g_c g_words g_hasFeels = F_r_readFeels_L74c m_textEnd g_tape r_14 n_12 n_13 g_32 x_45 n_L74c x_3197 v_2540 (0 : Int32) g_3195 n_3198 n_3199 n_3200 n_3201 n_3202 n_3203 := by
                              refine hF_L74c.trans ?_
                              refine (F_r_readFeels_L74c_s ..).trans ?_
                              refine (if_neg c_3029).trans ?_
                              refine (if_pos c_3054).trans ?_
                              refine (if_pos c_3058).trans ?_
                              try (extract_lets -merge -useContext +onlyGivenNames y9; have e9 : x_3062 = y9 := (by first | exact he_x_3062 | exact he_x_3062.symm); clear_value y9; subst e9)
                              refine (if_neg c_3063).trans ?_
                              try (extract_lets -merge -useContext +onlyGivenNames y9; have e9 : x_3065 = y9 := (by first | exact he_x_3065 | exact he_x_3065.symm); clear_value y9; subst e9)
                              refine (if_pos c_3066).trans ?_
                              try (extract_lets -merge -useContext +onlyGivenNames y9; have e9 : x_3149 = y9 := (by first | exact he_x_3149 | exact he_x_3149.symm); clear_value y9; subst e9)
                              try (extract_lets -merge -useContext +onlyGivenNames y9; have e9 : x_3150 = y9 := (by first | exact he_x_3150 | exact he_x_3150.symm); clear_value y9; subst e9)
                              refine (if_pos c_3151).trans ?_
                              refine (if_pos c_3183).trans ?_
                              try (extract_lets -merge -useContext +onlyGivenNames y9; have e9 : x_3188 = y9 := (by first | exact he_x_3188 | exact he_x_3188.symm); clear_value y9; subst e9)
                              try (extract_lets -merge -useContext +onlyGivenNames y9; have e9 : x_3189 = y9 := (by first | exact he_x_3189 | exact he_x_3189.symm); clear_value y9; subst e9)
                              try (extract_lets -merge -useContext +onlyGivenNames y9; have e9 : x_3190 = y9 := (by first | exact he_x_3190 | exact he_x_3190.symm); clear_value y9; subst e9)
                              try (extract_lets -merge -useContext +onlyGivenNames y9; have e9 : x_3191 = y9 := (by first | exact he_x_3191 | exact he_x_3191.symm); clear_value y9; subst e9)
                              try (extract_lets -merge -useContext +onlyGivenNames y9; have e9 : x_3192 = y9 := (by first | exact he_x_3192 | exact he_x_3192.symm); clear_value y9; subst e9)
                              try (extract_lets -merge -useContext +onlyGivenNames y9; have e9 : x_3193 = y9 := (by first | exact he_x_3193 | exact he_x_3193.symm); clear_value y9; subst e9)
                              try (extract_lets -merge -useContext +onlyGivenNames y9; have e9 : x_3194 = y9 := (by first | exact he_x_3194 | exact he_x_3194.symm); clear_value y9; subst e9)
                              try (extract_lets -merge -useContext +onlyGivenNames y9; have e9 : g_3195 = y9 := (by first | exact hg_g_3195 | exact hg_g_3195.symm); clear_value y9; subst e9)
                              try (extract_lets -merge -useContext +onlyGivenNames y9; have e9 : x_3197 = y9 := (by first | exact he_x_3197 | exact he_x_3197.symm); clear_value y9; subst e9)
                              extract_lets -merge -useContext +onlyGivenNames w9 y20_0 y20_1 y20_2 y20_3 y20_4 y20_5; have e9 : (n_3198, n_3199, n_3200, n_3201, n_3202, n_3203) = w9 := ((z_tS he_n_3198 (z_tS he_n_3199 (z_tS he_n_3200 (z_tS he_n_3201 (z_tS he_n_3202 he_n_3203.symm)))))).symm; clear_value w9; subst e9
                              refine (if_neg c_3209).trans ?_
                              exact rfl
                            exact ih_3028 x_3197 v_2540 0 g_3195 n_3198 n_3199 n_3200 n_3201 n_3202 n_3203 H locs ls (by omega) (by omega) (by omega) (by decide +kernel) hC_g_3195 hr_n_3198 hr_n_3199 hr_n_3200 hr_n_3201 hr_n_3202 hs_3196 (by rw [hq_x_3197]; exact zFl_step hi_2774 hg_g_3195 (by omega) (by omega) (by omega) (r := x_3190.toInt) (c := x_3193.toInt) (by rw [h_46]; omega) (by omega) (by omega) (by omega) (by omega) (by omega) (by omega) (by omega)) (by omega) (by omega) (by omega) (by omega) (by omega) hX_3211 hP hD hS (lv_sub hl [3, 4, 5, 1, 2, 0] rfl)
                          · have b_3212 := z_feqF c_3209
                            refine lv_iconst (v := 1) hx hb dX12_readFeels_252 (by decide) ?_
                            refine lv_goto (tgt := 257) hx hb dX12_readFeels_253 (by decide) ?_
                            refine lv_istore (lv' := [(5, .int 1), (3, .int x_3197), (4, .int v_2540), (0, .ref h0), (1, .int r_14), (2, .int x_45)]) hx hb dX12_readFeels_257 hl (by decide) rfl (fun ls hl => ?_)
                            refine lv_goto (tgt := 74) hx hb dX12_readFeels_259 (by decide) ?_
                            have hX_3213 : F_r_readFeels m_textEnd m_bad m_badAt m_behind m_number m_letters m_word g_tape g_c g_words g_hasFeels = F_r_readFeels_L74c m_textEnd g_tape r_14 n_12 n_13 g_32 x_45 n_L74c x_3197 v_2540 (1 : Int32) g_3195 n_3198 n_3199 n_3200 n_3201 n_3202 n_3203 := by
                              refine hF_L74c.trans ?_
                              refine (F_r_readFeels_L74c_s ..).trans ?_
                              refine (if_neg c_3029).trans ?_
                              refine (if_pos c_3054).trans ?_
                              refine (if_pos c_3058).trans ?_
                              try (extract_lets -merge -useContext +onlyGivenNames y9; have e9 : x_3062 = y9 := (by first | exact he_x_3062 | exact he_x_3062.symm); clear_value y9; subst e9)
                              refine (if_neg c_3063).trans ?_
                              try (extract_lets -merge -useContext +onlyGivenNames y9; have e9 : x_3065 = y9 := (by first | exact he_x_3065 | exact he_x_3065.symm); clear_value y9; subst e9)
                              refine (if_pos c_3066).trans ?_
                              try (extract_lets -merge -useContext +onlyGivenNames y9; have e9 : x_3149 = y9 := (by first | exact he_x_3149 | exact he_x_3149.symm); clear_value y9; subst e9)
                              try (extract_lets -merge -useContext +onlyGivenNames y9; have e9 : x_3150 = y9 := (by first | exact he_x_3150 | exact he_x_3150.symm); clear_value y9; subst e9)
                              refine (if_pos c_3151).trans ?_
                              refine (if_pos c_3183).trans ?_
                              try (extract_lets -merge -useContext +onlyGivenNames y9; have e9 : x_3188 = y9 := (by first | exact he_x_3188 | exact he_x_3188.symm); clear_value y9; subst e9)
                              try (extract_lets -merge -useContext +onlyGivenNames y9; have e9 : x_3189 = y9 := (by first | exact he_x_3189 | exact he_x_3189.symm); clear_value y9; subst e9)
                              try (extract_lets -merge -useContext +onlyGivenNames y9; have e9 : x_3190 = y9 := (by first | exact he_x_3190 | exact he_x_3190.symm); clear_value y9; subst e9)
                              try (extract_lets -merge -useContext +onlyGivenNames y9; have e9 : x_3191 = y9 := (by first | exact he_x_3191 | exact he_x_3191.symm); clear_value y9; subst e9)
                              try (extract_lets -merge -useContext +onlyGivenNames y9; have e9 : x_3192 = y9 := (by first | exact he_x_3192 | exact he_x_3192.symm); clear_value y9; subst e9)
                              try (extract_lets -merge -useContext +onlyGivenNames y9; have e9 : x_3193 = y9 := (by first | exact he_x_3193 | exact he_x_3193.symm); clear_value y9; subst e9)
                              try (extract_lets -merge -useContext +onlyGivenNames y9; have e9 : x_3194 = y9 := (by first | exact he_x_3194 | exact he_x_3194.symm); clear_value y9; subst e9)
                              try (extract_lets -merge -useContext +onlyGivenNames y9; have e9 : g_3195 = y9 := (by first | exact hg_g_3195 | exact hg_g_3195.symm); clear_value y9; subst e9)
                              try (extract_lets -merge -useContext +onlyGivenNames y9; have e9 : x_3197 = y9 := (by first | exact he_x_3197 | exact he_x_3197.symm); clear_value y9; subst e9)
                              extract_lets -merge -useContext +onlyGivenNames w9 y20_0 y20_1 y20_2 y20_3 y20_4 y20_5; have e9 : (n_3198, n_3199, n_3200, n_3201, n_3202, n_3203) = w9 := ((z_tS he_n_3198 (z_tS he_n_3199 (z_tS he_n_3200 (z_tS he_n_3201 (z_tS he_n_3202 he_n_3203.symm)))))).symm; clear_value w9; subst e9
                              refine (if_pos c_3209).trans ?_
                              exact rfl
                            exact ih_3028 x_3197 v_2540 1 g_3195 n_3198 n_3199 n_3200 n_3201 n_3202 n_3203 H locs ls (by omega) (by omega) (by omega) (by decide +kernel) hC_g_3195 hr_n_3198 hr_n_3199 hr_n_3200 hr_n_3201 hr_n_3202 hs_3196 (by rw [hq_x_3197]; exact zFl_step hi_2774 hg_g_3195 (by omega) (by omega) (by omega) (r := x_3190.toInt) (c := x_3193.toInt) (by rw [h_46]; omega) (by omega) (by omega) (by omega) (by omega) (by omega) (by omega) (by omega)) (by omega) (by omega) (by omega) (by omega) (by omega) hX_3213 hP hD hS (lv_sub hl [3, 4, 5, 1, 2, 0] rfl)
                        · have b_3214 := z_fneF c_3183
                          refine lv_aload_n hx hb dX12_readFeels_192 rfl (lv_at hl 1 rfl) ?_
                          refine lv_bipush (v := 9) hx hb dX12_readFeels_193 (by decide) ?_
                          refine lv_aload_n hx hb dX12_readFeels_195 rfl (lv_at hl 1 rfl) ?_
                          refine va_get (D := G) (ci := 12) (v := .int v_2538) (C := RX12) (T := TX12) (N := 65) hx hb hts inT12 hown hK hP 4 rfl rfl 15 (by decide) (hts _ tw_1900) (fun _ h9 => h9) rfl dX12_readFeels_196 ?_
                          refine z_callVv (As := [.int 9, .int v_2538]) (rest := []) (wr := [(a_hasFeels, .inl (cA.1 3, 3, .inl g_32)), (a_isOn, .inl (cA.1 3, 10, .inl g_isOn)), (a_c, .inl (cA.1 0, 1825, .inl g_2536)), (a_words, .inl (cA.1 1, 105, .inr (.inl g_words))), (a_tape, .inl (cA.1 2, 900, .inl g_tape))]) ⟨hx, hb, hml, hown, hts⟩ hK hE hT hP hD hS hA (r_fail l G cA h0 m_status m_thrown m_above m_under a_traySort a_trayMany a_numbers a_tape m_taped m_textEnd m_faultKind m_faultAt n_12 n_13 v_2537 v_2538 v_2539 v_2540 v_2541 v_2542 a_c a_words m_markMany a_there a_tried a_best a_found m_thereMany m_foundMany m_orderHow m_orderRing m_orderMany m_hasBest m_bestTop m_bestBy a_weights a_shared m_random m_truePlace m_trueWay m_seconds m_done m_feelings m_tries m_leftOver m_playDoor m_playRing m_isOpen m_isOver m_wasTried m_hasPlayed a_feltNow a_last a_kept m_hasSeconds m_hasTurned m_hasRound a_hasFeels a_isOn m_firstAct m_meanTop m_meanBy a_order m_rowMany m_newSteps 9 v_2538 (by decide +kernel) hr_n_12) lk_RX12_180 ⟨rfl, rfl⟩ ⟨Nat.le_of_ble_eq_true rfl, Nat.le_of_ble_eq_true rfl⟩ 12 rfl rfl rfl [4] [0, 1, 2, 3, 5] rfl rfl (by decide) rfl hl.1 rfl (lv_room (Nat.le_of_ble_eq_true rfl)) dX12_readFeels_199 ⟨Nat.le_of_ble_eq_true rfl, Nat.le_of_ble_eq_true rfl⟩ (fun u_3218 H locs hw hP hD hS => ?_)
                          obtain ⟨n_3215, n_3216⟩ := u_3218
                          try dsimp only at hw
                          obtain ⟨he_n_3215, he_n_3216, hw⟩ := hw
                          obtain ⟨hr_n_3215, hf_3220⟩ := hw
                          refine lv_aload_n hx hb dX12_readFeels_202 rfl (lv_at hl 1 rfl) ?_
                          refine va_get (D := G) (ci := 12) (v := .int n_3215) (C := RX12) (T := TX12) (N := 65) hx hb hts inT12 hown hK hP 5 rfl rfl 12 (by decide) (hts _ tw_1897) (fun _ h9 => h9) rfl dX12_readFeels_203 ?_
                          refine lv_if_le (tgt := 210) hx hb dX12_readFeels_206 (by decide) (fun h9 => (z_no (by have h8 := z_fleT h9; omega))) (fun c_3221 => ?_)
                          have b_3222 := z_fgtF c_3221
                          have hpost : (0 ≤ n_3215.toInt ∧ n_3215.toInt ≤ 9) ∧ (0 ≤ v_2537.toInt ∧ v_2537.toInt ≤ 4) ∧ (0 ≤ v_2538.toInt ∧ v_2538.toInt ≤ 900) ∧ (0 ≤ v_2539.toInt ∧ v_2539.toInt ≤ 900) ∧ (0 ≤ v_2540.toInt ∧ v_2540.toInt ≤ 9999) ∧ (0 ≤ v_2541.toInt ∧ v_2541.toInt ≤ 900) ∧ (zRg 3 0 1 g_32) ∧ (zC g_2536) ∧ (zNw g_2536 g_isOn) ∧ (m_behind.toInt ≤ v_2539.toInt) ∧ (0 < m_bad.toInt → 0 < n_3215.toInt) ∧ (n_3215.toInt ≤ 0 → v_2537.toInt = 0 ∨ m_behind.toInt < v_2539.toInt) ∧ (n_3215.toInt ≤ 0 → v_2537.toInt = 3 → v_2540.toInt = 59 → zNf g_2536) := ⟨(z_rgw hr_n_3215 (by decide) (by decide)), hr_v_2537, hr_v_2538, hr_v_2539, hr_v_2540, hr_v_2541, hC_g_32, hC_g_2536, hs_2773, (by omega), (by omega), (by omega), (fun h1 h2 h3 => z_no (by omega))⟩
                          have hX_3223 : F_r_readFeels m_textEnd m_bad m_badAt m_behind m_number m_letters m_word g_tape g_c g_words g_hasFeels = ((n_3215, n_3216, v_2537, v_2538, v_2539, v_2540, v_2541, v_2542, g_32, g_2536) : Int32 × Int32 × Int32 × Int32 × Int32 × Int32 × Int32 × Int64 × (Nat → Int32) × (Nat → Int32)) := by
                            refine hF_L74c.trans ?_
                            refine (F_r_readFeels_L74c_s ..).trans ?_
                            refine (if_neg c_3029).trans ?_
                            refine (if_pos c_3054).trans ?_
                            refine (if_pos c_3058).trans ?_
                            try (extract_lets -merge -useContext +onlyGivenNames y9; have e9 : x_3062 = y9 := (by first | exact he_x_3062 | exact he_x_3062.symm); clear_value y9; subst e9)
                            refine (if_neg c_3063).trans ?_
                            try (extract_lets -merge -useContext +onlyGivenNames y9; have e9 : x_3065 = y9 := (by first | exact he_x_3065 | exact he_x_3065.symm); clear_value y9; subst e9)
                            refine (if_pos c_3066).trans ?_
                            try (extract_lets -merge -useContext +onlyGivenNames y9; have e9 : x_3149 = y9 := (by first | exact he_x_3149 | exact he_x_3149.symm); clear_value y9; subst e9)
                            try (extract_lets -merge -useContext +onlyGivenNames y9; have e9 : x_3150 = y9 := (by first | exact he_x_3150 | exact he_x_3150.symm); clear_value y9; subst e9)
                            refine (if_pos c_3151).trans ?_
                            refine (if_neg c_3183).trans ?_
                            extract_lets -merge -useContext +onlyGivenNames w9 y11_0 y11_1; have e9 : (n_3215, n_3216) = w9 := ((z_tS he_n_3215 he_n_3216.symm)).symm; clear_value w9; subst e9
                            exact rfl
                          exact hret _ _ _ _ _ (n_3215, n_3216, v_2537, v_2538, v_2539, v_2540, v_2541, v_2542, g_32, g_2536) [5, 4, 2, 3, 0, 1] hP hD hS rfl (by decide) dX12_readFeels_209 ⟨(congrArg (fun z9 => z9.1) hX_3223).symm, (congrArg (fun z9 => z9.2.1) hX_3223).symm, (congrArg (fun z9 => z9.2.2.1) hX_3223).symm, (congrArg (fun z9 => z9.2.2.2.1) hX_3223).symm, (congrArg (fun z9 => z9.2.2.2.2.1) hX_3223).symm, (congrArg (fun z9 => z9.2.2.2.2.2.1) hX_3223).symm, (congrArg (fun z9 => z9.2.2.2.2.2.2.1) hX_3223).symm, (congrArg (fun z9 => z9.2.2.2.2.2.2.2.1) hX_3223).symm, (congrArg (fun z9 => z9.2.2.2.2.2.2.2.2.1) hX_3223).symm, (congrArg (fun z9 => z9.2.2.2.2.2.2.2.2.2) hX_3223).symm, hpost⟩
                  · have b_3224 := z_feqF c_3063
                    refine lv_aload_n hx hb dX12_readFeels_137 rfl (lv_at hl 0 rfl) ?_
                    refine lv_bipush (v := 8) hx hb dX12_readFeels_138 (by decide) ?_
                    refine lv_aload_n hx hb dX12_readFeels_140 rfl (lv_at hl 0 rfl) ?_
                    refine va_get (D := G) (ci := 12) (v := .int v_2538) (C := RX12) (T := TX12) (N := 65) hx hb hts inT12 hown hK hP 4 rfl rfl 15 (by decide) (hts _ tw_1900) (fun _ h9 => h9) rfl dX12_readFeels_141 ?_
                    refine z_callVv (As := [.int 8, .int v_2538]) (rest := []) (wr := [(a_hasFeels, .inl (cA.1 3, 3, .inl g_32)), (a_isOn, .inl (cA.1 3, 10, .inl g_isOn)), (a_c, .inl (cA.1 0, 1825, .inl g_2536)), (a_words, .inl (cA.1 1, 105, .inr (.inl g_words))), (a_tape, .inl (cA.1 2, 900, .inl g_tape))]) ⟨hx, hb, hml, hown, hts⟩ hK hE hT hP hD hS hA (r_fail l G cA h0 m_status m_thrown m_above m_under a_traySort a_trayMany a_numbers a_tape m_taped m_textEnd m_faultKind m_faultAt n_12 n_13 v_2537 v_2538 v_2539 v_2540 v_2541 v_2542 a_c a_words m_markMany a_there a_tried a_best a_found m_thereMany m_foundMany m_orderHow m_orderRing m_orderMany m_hasBest m_bestTop m_bestBy a_weights a_shared m_random m_truePlace m_trueWay m_seconds m_done m_feelings m_tries m_leftOver m_playDoor m_playRing m_isOpen m_isOver m_wasTried m_hasPlayed a_feltNow a_last a_kept m_hasSeconds m_hasTurned m_hasRound a_hasFeels a_isOn m_firstAct m_meanTop m_meanBy a_order m_rowMany m_newSteps 8 v_2538 (by decide +kernel) hr_n_12) lk_RX12_180 ⟨rfl, rfl⟩ ⟨Nat.le_of_ble_eq_true rfl, Nat.le_of_ble_eq_true rfl⟩ 12 rfl rfl rfl [4] [0, 1, 2, 3, 5] rfl rfl (by decide) rfl hl.1 rfl (lv_room (Nat.le_of_ble_eq_true rfl)) dX12_readFeels_144 ⟨Nat.le_of_ble_eq_true rfl, Nat.le_of_ble_eq_true rfl⟩ (fun u_3228 H locs hw hP hD hS => ?_)
                    obtain ⟨n_3225, n_3226⟩ := u_3228
                    try dsimp only at hw
                    obtain ⟨he_n_3225, he_n_3226, hw⟩ := hw
                    obtain ⟨hr_n_3225, hf_3230⟩ := hw
                    refine lv_iload_n hx hb dX12_readFeels_147 rfl (lv_at hl 3 rfl) ?_
                    refine lv_iload_n hx hb dX12_readFeels_148 rfl (lv_at hl 2 rfl) ?_
                    refine lv_irem hx hb dX12_readFeels_149 (z_nz (by omega)) ?_
                    refine lv_topi (fun x_3231 he_x_3231 => ?_)
                    have hq_x_3231 := z_remq he_x_3231 (rfl : v_2533.toInt = _) (by omega : x_45.toInt = 4) (by omega) (by decide)
                    refine lv_if_ne (tgt := 160) hx hb dX12_readFeels_150 (by decide) (fun c_3232 => ?_) (fun c_3232 => ?_)
                    · have b_3233 := z_fneT c_3232
                      refine lv_iload hx hb dX12_readFeels_160 (lv_at hl 4 rfl) ?_
                      refine lv_aload_n hx hb dX12_readFeels_162 rfl (lv_at hl 0 rfl) ?_
                      refine va_get (D := G) (ci := 12) (v := .int v_2540) (C := RX12) (T := TX12) (N := 65) hx hb hts inT12 hown hK hP 5 rfl rfl 17 (by decide) (hts _ tw_1902) (fun _ h9 => h9) rfl dX12_readFeels_163 ?_
                      refine lv_iadd hx hb dX12_readFeels_166 ?_
                      refine lv_topi (fun x_3234 he_x_3234 => ?_)
                      have hq_x_3234 := z_addq he_x_3234 (rfl : v_2534.toInt = _) (rfl : v_2540.toInt = _) (by omega) (by omega)
                      refine lv_istore (lv' := [(4, .int x_3234), (0, .ref h0), (1, .int r_14), (2, .int x_45), (3, .int v_2533), (5, .int v_2535)]) hx hb dX12_readFeels_167 hl (by decide) rfl (fun ls hl => ?_)
                      refine lv_aload_n hx hb dX12_readFeels_169 rfl (lv_at hl 1 rfl) ?_
                      refine va_get (D := G) (ci := 12) (v := .int n_3225) (C := RX12) (T := TX12) (N := 65) hx hb hts inT12 hown hK hP 5 rfl rfl 12 (by decide) (hts _ tw_1897) (fun _ h9 => h9) rfl dX12_readFeels_170 ?_
                      refine lv_if_ne (tgt := 202) hx hb dX12_readFeels_173 (by decide) (fun c_3235 => ?_) (fun h9 => (z_no (by have h8 := z_feqF h9; omega)))
                      have b_3236 := z_fneT c_3235
                      refine lv_aload_n hx hb dX12_readFeels_202 rfl (lv_at hl 1 rfl) ?_
                      refine va_get (D := G) (ci := 12) (v := .int n_3225) (C := RX12) (T := TX12) (N := 65) hx hb hts inT12 hown hK hP 5 rfl rfl 12 (by decide) (hts _ tw_1897) (fun _ h9 => h9) rfl dX12_readFeels_203 ?_
                      refine lv_if_le (tgt := 210) hx hb dX12_readFeels_206 (by decide) (fun h9 => (z_no (by have h8 := z_fleT h9; omega))) (fun c_3237 => ?_)
                      have b_3238 := z_fgtF c_3237
                      have hpost : (0 ≤ n_3225.toInt ∧ n_3225.toInt ≤ 9) ∧ (0 ≤ v_2537.toInt ∧ v_2537.toInt ≤ 4) ∧ (0 ≤ v_2538.toInt ∧ v_2538.toInt ≤ 900) ∧ (0 ≤ v_2539.toInt ∧ v_2539.toInt ≤ 900) ∧ (0 ≤ v_2540.toInt ∧ v_2540.toInt ≤ 9999) ∧ (0 ≤ v_2541.toInt ∧ v_2541.toInt ≤ 900) ∧ (zRg 3 0 1 g_32) ∧ (zC g_2536) ∧ (zNw g_2536 g_isOn) ∧ (m_behind.toInt ≤ v_2539.toInt) ∧ (0 < m_bad.toInt → 0 < n_3225.toInt) ∧ (n_3225.toInt ≤ 0 → v_2537.toInt = 0 ∨ m_behind.toInt < v_2539.toInt) ∧ (n_3225.toInt ≤ 0 → v_2537.toInt = 3 → v_2540.toInt = 59 → zNf g_2536) := ⟨(z_rgw hr_n_3225 (by decide) (by decide)), hr_v_2537, hr_v_2538, hr_v_2539, hr_v_2540, hr_v_2541, hC_g_32, hC_g_2536, hs_2773, (by omega), (by omega), (by omega), (fun h1 h2 h3 => z_no (by omega))⟩
                      have hX_3239 : F_r_readFeels m_textEnd m_bad m_badAt m_behind m_number m_letters m_word g_tape g_c g_words g_hasFeels = ((n_3225, n_3226, v_2537, v_2538, v_2539, v_2540, v_2541, v_2542, g_32, g_2536) : Int32 × Int32 × Int32 × Int32 × Int32 × Int32 × Int32 × Int64 × (Nat → Int32) × (Nat → Int32)) := by
                        refine hF_L74c.trans ?_
                        refine (F_r_readFeels_L74c_s ..).trans ?_
                        refine (if_neg c_3029).trans ?_
                        refine (if_pos c_3054).trans ?_
                        refine (if_pos c_3058).trans ?_
                        try (extract_lets -merge -useContext +onlyGivenNames y9; have e9 : x_3062 = y9 := (by first | exact he_x_3062 | exact he_x_3062.symm); clear_value y9; subst e9)
                        refine (if_pos c_3063).trans ?_
                        extract_lets -merge -useContext +onlyGivenNames w9 y5_0 y5_1; have e9 : (n_3225, n_3226) = w9 := ((z_tS he_n_3225 he_n_3226.symm)).symm; clear_value w9; subst e9
                        try (extract_lets -merge -useContext +onlyGivenNames y9; have e9 : x_3231 = y9 := (by first | exact he_x_3231 | exact he_x_3231.symm); clear_value y9; subst e9)
                        refine (if_neg c_3232).trans ?_
                        try (extract_lets -merge -useContext +onlyGivenNames y9; have e9 : x_3234 = y9 := (by first | exact he_x_3234 | exact he_x_3234.symm); clear_value y9; subst e9)
                        exact rfl
                      exact hret _ _ _ _ _ (n_3225, n_3226, v_2537, v_2538, v_2539, v_2540, v_2541, v_2542, g_32, g_2536) [5, 4, 2, 3, 0, 1] hP hD hS rfl (by decide) dX12_readFeels_209 ⟨(congrArg (fun z9 => z9.1) hX_3239).symm, (congrArg (fun z9 => z9.2.1) hX_3239).symm, (congrArg (fun z9 => z9.2.2.1) hX_3239).symm, (congrArg (fun z9 => z9.2.2.2.1) hX_3239).symm, (congrArg (fun z9 => z9.2.2.2.2.1) hX_3239).symm, (congrArg (fun z9 => z9.2.2.2.2.2.1) hX_3239).symm, (congrArg (fun z9 => z9.2.2.2.2.2.2.1) hX_3239).symm, (congrArg (fun z9 => z9.2.2.2.2.2.2.2.1) hX_3239).symm, (congrArg (fun z9 => z9.2.2.2.2.2.2.2.2.1) hX_3239).symm, (congrArg (fun z9 => z9.2.2.2.2.2.2.2.2.2) hX_3239).symm, hpost⟩
                    · have b_3240 := z_feqF c_3232
                      refine lv_aload_n hx hb dX12_readFeels_153 rfl (lv_at hl 0 rfl) ?_
                      refine va_get (D := G) (ci := 12) (v := .int v_2540) (C := RX12) (T := TX12) (N := 65) hx hb hts inT12 hown hK hP 5 rfl rfl 17 (by decide) (hts _ tw_1902) (fun _ h9 => h9) rfl dX12_readFeels_154 ?_
                      refine lv_goto (tgt := 167) hx hb dX12_readFeels_157 (by decide) ?_
                      refine lv_istore (lv' := [(4, .int v_2540), (0, .ref h0), (1, .int r_14), (2, .int x_45), (3, .int v_2533), (5, .int v_2535)]) hx hb dX12_readFeels_167 hl (by decide) rfl (fun ls hl => ?_)
                      refine lv_aload_n hx hb dX12_readFeels_169 rfl (lv_at hl 1 rfl) ?_
                      refine va_get (D := G) (ci := 12) (v := .int n_3225) (C := RX12) (T := TX12) (N := 65) hx hb hts inT12 hown hK hP 5 rfl rfl 12 (by decide) (hts _ tw_1897) (fun _ h9 => h9) rfl dX12_readFeels_170 ?_
                      refine lv_if_ne (tgt := 202) hx hb dX12_readFeels_173 (by decide) (fun c_3241 => ?_) (fun h9 => (z_no (by have h8 := z_feqF h9; omega)))
                      have b_3242 := z_fneT c_3241
                      refine lv_aload_n hx hb dX12_readFeels_202 rfl (lv_at hl 1 rfl) ?_
                      refine va_get (D := G) (ci := 12) (v := .int n_3225) (C := RX12) (T := TX12) (N := 65) hx hb hts inT12 hown hK hP 5 rfl rfl 12 (by decide) (hts _ tw_1897) (fun _ h9 => h9) rfl dX12_readFeels_203 ?_
                      refine lv_if_le (tgt := 210) hx hb dX12_readFeels_206 (by decide) (fun h9 => (z_no (by have h8 := z_fleT h9; omega))) (fun c_3243 => ?_)
                      have b_3244 := z_fgtF c_3243
                      have hpost : (0 ≤ n_3225.toInt ∧ n_3225.toInt ≤ 9) ∧ (0 ≤ v_2537.toInt ∧ v_2537.toInt ≤ 4) ∧ (0 ≤ v_2538.toInt ∧ v_2538.toInt ≤ 900) ∧ (0 ≤ v_2539.toInt ∧ v_2539.toInt ≤ 900) ∧ (0 ≤ v_2540.toInt ∧ v_2540.toInt ≤ 9999) ∧ (0 ≤ v_2541.toInt ∧ v_2541.toInt ≤ 900) ∧ (zRg 3 0 1 g_32) ∧ (zC g_2536) ∧ (zNw g_2536 g_isOn) ∧ (m_behind.toInt ≤ v_2539.toInt) ∧ (0 < m_bad.toInt → 0 < n_3225.toInt) ∧ (n_3225.toInt ≤ 0 → v_2537.toInt = 0 ∨ m_behind.toInt < v_2539.toInt) ∧ (n_3225.toInt ≤ 0 → v_2537.toInt = 3 → v_2540.toInt = 59 → zNf g_2536) := ⟨(z_rgw hr_n_3225 (by decide) (by decide)), hr_v_2537, hr_v_2538, hr_v_2539, hr_v_2540, hr_v_2541, hC_g_32, hC_g_2536, hs_2773, (by omega), (by omega), (by omega), (fun h1 h2 h3 => z_no (by omega))⟩
                      have hX_3245 : F_r_readFeels m_textEnd m_bad m_badAt m_behind m_number m_letters m_word g_tape g_c g_words g_hasFeels = ((n_3225, n_3226, v_2537, v_2538, v_2539, v_2540, v_2541, v_2542, g_32, g_2536) : Int32 × Int32 × Int32 × Int32 × Int32 × Int32 × Int32 × Int64 × (Nat → Int32) × (Nat → Int32)) := by
                        refine hF_L74c.trans ?_
                        refine (F_r_readFeels_L74c_s ..).trans ?_
                        refine (if_neg c_3029).trans ?_
                        refine (if_pos c_3054).trans ?_
                        refine (if_pos c_3058).trans ?_
                        try (extract_lets -merge -useContext +onlyGivenNames y9; have e9 : x_3062 = y9 := (by first | exact he_x_3062 | exact he_x_3062.symm); clear_value y9; subst e9)
                        refine (if_pos c_3063).trans ?_
                        extract_lets -merge -useContext +onlyGivenNames w9 y5_0 y5_1; have e9 : (n_3225, n_3226) = w9 := ((z_tS he_n_3225 he_n_3226.symm)).symm; clear_value w9; subst e9
                        try (extract_lets -merge -useContext +onlyGivenNames y9; have e9 : x_3231 = y9 := (by first | exact he_x_3231 | exact he_x_3231.symm); clear_value y9; subst e9)
                        refine (if_pos c_3232).trans ?_
                        exact rfl
                      exact hret _ _ _ _ _ (n_3225, n_3226, v_2537, v_2538, v_2539, v_2540, v_2541, v_2542, g_32, g_2536) [5, 4, 2, 3, 0, 1] hP hD hS rfl (by decide) dX12_readFeels_209 ⟨(congrArg (fun z9 => z9.1) hX_3245).symm, (congrArg (fun z9 => z9.2.1) hX_3245).symm, (congrArg (fun z9 => z9.2.2.1) hX_3245).symm, (congrArg (fun z9 => z9.2.2.2.1) hX_3245).symm, (congrArg (fun z9 => z9.2.2.2.2.1) hX_3245).symm, (congrArg (fun z9 => z9.2.2.2.2.2.1) hX_3245).symm, (congrArg (fun z9 => z9.2.2.2.2.2.2.1) hX_3245).symm, (congrArg (fun z9 => z9.2.2.2.2.2.2.2.1) hX_3245).symm, (congrArg (fun z9 => z9.2.2.2.2.2.2.2.2.1) hX_3245).symm, (congrArg (fun z9 => z9.2.2.2.2.2.2.2.2.2) hX_3245).symm, hpost⟩
                · have b_3246 := z_fgtF c_3058
                  refine lv_aload_n hx hb dX12_readFeels_114 rfl (lv_at hl 0 rfl) ?_
                  refine lv_iconst (v := 4) hx hb dX12_readFeels_115 (by decide) ?_
                  refine lv_aload_n hx hb dX12_readFeels_116 rfl (lv_at hl 0 rfl) ?_
                  refine va_get (D := G) (ci := 12) (v := .int v_2538) (C := RX12) (T := TX12) (N := 65) hx hb hts inT12 hown hK hP 4 rfl rfl 15 (by decide) (hts _ tw_1900) (fun _ h9 => h9) rfl dX12_readFeels_117 ?_
                  refine z_callVv (As := [.int 4, .int v_2538]) (rest := []) (wr := [(a_hasFeels, .inl (cA.1 3, 3, .inl g_32)), (a_isOn, .inl (cA.1 3, 10, .inl g_isOn)), (a_c, .inl (cA.1 0, 1825, .inl g_2536)), (a_words, .inl (cA.1 1, 105, .inr (.inl g_words))), (a_tape, .inl (cA.1 2, 900, .inl g_tape))]) ⟨hx, hb, hml, hown, hts⟩ hK hE hT hP hD hS hA (r_fail l G cA h0 m_status m_thrown m_above m_under a_traySort a_trayMany a_numbers a_tape m_taped m_textEnd m_faultKind m_faultAt n_12 n_13 v_2537 v_2538 v_2539 v_2540 v_2541 v_2542 a_c a_words m_markMany a_there a_tried a_best a_found m_thereMany m_foundMany m_orderHow m_orderRing m_orderMany m_hasBest m_bestTop m_bestBy a_weights a_shared m_random m_truePlace m_trueWay m_seconds m_done m_feelings m_tries m_leftOver m_playDoor m_playRing m_isOpen m_isOver m_wasTried m_hasPlayed a_feltNow a_last a_kept m_hasSeconds m_hasTurned m_hasRound a_hasFeels a_isOn m_firstAct m_meanTop m_meanBy a_order m_rowMany m_newSteps 4 v_2538 (by decide +kernel) hr_n_12) lk_RX12_180 ⟨rfl, rfl⟩ ⟨Nat.le_of_ble_eq_true rfl, Nat.le_of_ble_eq_true rfl⟩ 12 rfl rfl rfl [4] [0, 1, 2, 3, 5] rfl rfl (by decide) rfl hl.1 rfl (lv_room (Nat.le_of_ble_eq_true rfl)) dX12_readFeels_120 ⟨Nat.le_of_ble_eq_true rfl, Nat.le_of_ble_eq_true rfl⟩ (fun u_3250 H locs hw hP hD hS => ?_)
                  obtain ⟨n_3247, n_3248⟩ := u_3250
                  try dsimp only at hw
                  obtain ⟨he_n_3247, he_n_3248, hw⟩ := hw
                  obtain ⟨hr_n_3247, hf_3252⟩ := hw
                  refine lv_aload_n hx hb dX12_readFeels_123 rfl (lv_at hl 0 rfl) ?_
                  refine va_get (D := G) (ci := 12) (v := .int n_3247) (C := RX12) (T := TX12) (N := 65) hx hb hts inT12 hown hK hP 5 rfl rfl 12 (by decide) (hts _ tw_1897) (fun _ h9 => h9) rfl dX12_readFeels_124 ?_
                  refine lv_if_ne (tgt := 147) hx hb dX12_readFeels_127 (by decide) (fun c_3253 => ?_) (fun h9 => (z_no (by have h8 := z_feqF h9; omega)))
                  have b_3254 := z_fneT c_3253
                  refine lv_iload_n hx hb dX12_readFeels_147 rfl (lv_at hl 3 rfl) ?_
                  refine lv_iload_n hx hb dX12_readFeels_148 rfl (lv_at hl 2 rfl) ?_
                  refine lv_irem hx hb dX12_readFeels_149 (z_nz (by omega)) ?_
                  refine lv_topi (fun x_3255 he_x_3255 => ?_)
                  have hq_x_3255 := z_remq he_x_3255 (rfl : v_2533.toInt = _) (by omega : x_45.toInt = 4) (by omega) (by decide)
                  refine lv_if_ne (tgt := 160) hx hb dX12_readFeels_150 (by decide) (fun c_3256 => ?_) (fun c_3256 => ?_)
                  · have b_3257 := z_fneT c_3256
                    refine lv_iload hx hb dX12_readFeels_160 (lv_at hl 4 rfl) ?_
                    refine lv_aload_n hx hb dX12_readFeels_162 rfl (lv_at hl 0 rfl) ?_
                    refine va_get (D := G) (ci := 12) (v := .int v_2540) (C := RX12) (T := TX12) (N := 65) hx hb hts inT12 hown hK hP 5 rfl rfl 17 (by decide) (hts _ tw_1902) (fun _ h9 => h9) rfl dX12_readFeels_163 ?_
                    refine lv_iadd hx hb dX12_readFeels_166 ?_
                    refine lv_topi (fun x_3258 he_x_3258 => ?_)
                    have hq_x_3258 := z_addq he_x_3258 (rfl : v_2534.toInt = _) (rfl : v_2540.toInt = _) (by omega) (by omega)
                    refine lv_istore (lv' := [(4, .int x_3258), (0, .ref h0), (1, .int r_14), (2, .int x_45), (3, .int v_2533), (5, .int v_2535)]) hx hb dX12_readFeels_167 hl (by decide) rfl (fun ls hl => ?_)
                    refine lv_aload_n hx hb dX12_readFeels_169 rfl (lv_at hl 1 rfl) ?_
                    refine va_get (D := G) (ci := 12) (v := .int n_3247) (C := RX12) (T := TX12) (N := 65) hx hb hts inT12 hown hK hP 5 rfl rfl 12 (by decide) (hts _ tw_1897) (fun _ h9 => h9) rfl dX12_readFeels_170 ?_
                    refine lv_if_ne (tgt := 202) hx hb dX12_readFeels_173 (by decide) (fun c_3259 => ?_) (fun h9 => (z_no (by have h8 := z_feqF h9; omega)))
                    have b_3260 := z_fneT c_3259
                    refine lv_aload_n hx hb dX12_readFeels_202 rfl (lv_at hl 1 rfl) ?_
                    refine va_get (D := G) (ci := 12) (v := .int n_3247) (C := RX12) (T := TX12) (N := 65) hx hb hts inT12 hown hK hP 5 rfl rfl 12 (by decide) (hts _ tw_1897) (fun _ h9 => h9) rfl dX12_readFeels_203 ?_
                    refine lv_if_le (tgt := 210) hx hb dX12_readFeels_206 (by decide) (fun h9 => (z_no (by have h8 := z_fleT h9; omega))) (fun c_3261 => ?_)
                    have b_3262 := z_fgtF c_3261
                    have hpost : (0 ≤ n_3247.toInt ∧ n_3247.toInt ≤ 9) ∧ (0 ≤ v_2537.toInt ∧ v_2537.toInt ≤ 4) ∧ (0 ≤ v_2538.toInt ∧ v_2538.toInt ≤ 900) ∧ (0 ≤ v_2539.toInt ∧ v_2539.toInt ≤ 900) ∧ (0 ≤ v_2540.toInt ∧ v_2540.toInt ≤ 9999) ∧ (0 ≤ v_2541.toInt ∧ v_2541.toInt ≤ 900) ∧ (zRg 3 0 1 g_32) ∧ (zC g_2536) ∧ (zNw g_2536 g_isOn) ∧ (m_behind.toInt ≤ v_2539.toInt) ∧ (0 < m_bad.toInt → 0 < n_3247.toInt) ∧ (n_3247.toInt ≤ 0 → v_2537.toInt = 0 ∨ m_behind.toInt < v_2539.toInt) ∧ (n_3247.toInt ≤ 0 → v_2537.toInt = 3 → v_2540.toInt = 59 → zNf g_2536) := ⟨(z_rgw hr_n_3247 (by decide) (by decide)), hr_v_2537, hr_v_2538, hr_v_2539, hr_v_2540, hr_v_2541, hC_g_32, hC_g_2536, hs_2773, (by omega), (by omega), (by omega), (fun h1 h2 h3 => z_no (by omega))⟩
                    have hX_3263 : F_r_readFeels m_textEnd m_bad m_badAt m_behind m_number m_letters m_word g_tape g_c g_words g_hasFeels = ((n_3247, n_3248, v_2537, v_2538, v_2539, v_2540, v_2541, v_2542, g_32, g_2536) : Int32 × Int32 × Int32 × Int32 × Int32 × Int32 × Int32 × Int64 × (Nat → Int32) × (Nat → Int32)) := by
                      refine hF_L74c.trans ?_
                      refine (F_r_readFeels_L74c_s ..).trans ?_
                      refine (if_neg c_3029).trans ?_
                      refine (if_pos c_3054).trans ?_
                      refine (if_neg c_3058).trans ?_
                      extract_lets -merge -useContext +onlyGivenNames w9 y3_0 y3_1; have e9 : (n_3247, n_3248) = w9 := ((z_tS he_n_3247 he_n_3248.symm)).symm; clear_value w9; subst e9
                      try (extract_lets -merge -useContext +onlyGivenNames y9; have e9 : x_3255 = y9 := (by first | exact he_x_3255 | exact he_x_3255.symm); clear_value y9; subst e9)
                      refine (if_neg c_3256).trans ?_
                      try (extract_lets -merge -useContext +onlyGivenNames y9; have e9 : x_3258 = y9 := (by first | exact he_x_3258 | exact he_x_3258.symm); clear_value y9; subst e9)
                      exact rfl
                    exact hret _ _ _ _ _ (n_3247, n_3248, v_2537, v_2538, v_2539, v_2540, v_2541, v_2542, g_32, g_2536) [5, 4, 2, 3, 0, 1] hP hD hS rfl (by decide) dX12_readFeels_209 ⟨(congrArg (fun z9 => z9.1) hX_3263).symm, (congrArg (fun z9 => z9.2.1) hX_3263).symm, (congrArg (fun z9 => z9.2.2.1) hX_3263).symm, (congrArg (fun z9 => z9.2.2.2.1) hX_3263).symm, (congrArg (fun z9 => z9.2.2.2.2.1) hX_3263).symm, (congrArg (fun z9 => z9.2.2.2.2.2.1) hX_3263).symm, (congrArg (fun z9 => z9.2.2.2.2.2.2.1) hX_3263).symm, (congrArg (fun z9 => z9.2.2.2.2.2.2.2.1) hX_3263).symm, (congrArg (fun z9 => z9.2.2.2.2.2.2.2.2.1) hX_3263).symm, (congrArg (fun z9 => z9.2.2.2.2.2.2.2.2.2) hX_3263).symm, hpost⟩
                  · have b_3264 := z_feqF c_3256
                    refine lv_aload_n hx hb dX12_readFeels_153 rfl (lv_at hl 0 rfl) ?_
                    refine va_get (D := G) (ci := 12) (v := .int v_2540) (C := RX12) (T := TX12) (N := 65) hx hb hts inT12 hown hK hP 5 rfl rfl 17 (by decide) (hts _ tw_1902) (fun _ h9 => h9) rfl dX12_readFeels_154 ?_
                    refine lv_goto (tgt := 167) hx hb dX12_readFeels_157 (by decide) ?_
                    refine lv_istore (lv' := [(4, .int v_2540), (0, .ref h0), (1, .int r_14), (2, .int x_45), (3, .int v_2533), (5, .int v_2535)]) hx hb dX12_readFeels_167 hl (by decide) rfl (fun ls hl => ?_)
                    refine lv_aload_n hx hb dX12_readFeels_169 rfl (lv_at hl 1 rfl) ?_
                    refine va_get (D := G) (ci := 12) (v := .int n_3247) (C := RX12) (T := TX12) (N := 65) hx hb hts inT12 hown hK hP 5 rfl rfl 12 (by decide) (hts _ tw_1897) (fun _ h9 => h9) rfl dX12_readFeels_170 ?_
                    refine lv_if_ne (tgt := 202) hx hb dX12_readFeels_173 (by decide) (fun c_3265 => ?_) (fun h9 => (z_no (by have h8 := z_feqF h9; omega)))
                    have b_3266 := z_fneT c_3265
                    refine lv_aload_n hx hb dX12_readFeels_202 rfl (lv_at hl 1 rfl) ?_
                    refine va_get (D := G) (ci := 12) (v := .int n_3247) (C := RX12) (T := TX12) (N := 65) hx hb hts inT12 hown hK hP 5 rfl rfl 12 (by decide) (hts _ tw_1897) (fun _ h9 => h9) rfl dX12_readFeels_203 ?_
                    refine lv_if_le (tgt := 210) hx hb dX12_readFeels_206 (by decide) (fun h9 => (z_no (by have h8 := z_fleT h9; omega))) (fun c_3267 => ?_)
                    have b_3268 := z_fgtF c_3267
                    have hpost : (0 ≤ n_3247.toInt ∧ n_3247.toInt ≤ 9) ∧ (0 ≤ v_2537.toInt ∧ v_2537.toInt ≤ 4) ∧ (0 ≤ v_2538.toInt ∧ v_2538.toInt ≤ 900) ∧ (0 ≤ v_2539.toInt ∧ v_2539.toInt ≤ 900) ∧ (0 ≤ v_2540.toInt ∧ v_2540.toInt ≤ 9999) ∧ (0 ≤ v_2541.toInt ∧ v_2541.toInt ≤ 900) ∧ (zRg 3 0 1 g_32) ∧ (zC g_2536) ∧ (zNw g_2536 g_isOn) ∧ (m_behind.toInt ≤ v_2539.toInt) ∧ (0 < m_bad.toInt → 0 < n_3247.toInt) ∧ (n_3247.toInt ≤ 0 → v_2537.toInt = 0 ∨ m_behind.toInt < v_2539.toInt) ∧ (n_3247.toInt ≤ 0 → v_2537.toInt = 3 → v_2540.toInt = 59 → zNf g_2536) := ⟨(z_rgw hr_n_3247 (by decide) (by decide)), hr_v_2537, hr_v_2538, hr_v_2539, hr_v_2540, hr_v_2541, hC_g_32, hC_g_2536, hs_2773, (by omega), (by omega), (by omega), (fun h1 h2 h3 => z_no (by omega))⟩
                    have hX_3269 : F_r_readFeels m_textEnd m_bad m_badAt m_behind m_number m_letters m_word g_tape g_c g_words g_hasFeels = ((n_3247, n_3248, v_2537, v_2538, v_2539, v_2540, v_2541, v_2542, g_32, g_2536) : Int32 × Int32 × Int32 × Int32 × Int32 × Int32 × Int32 × Int64 × (Nat → Int32) × (Nat → Int32)) := by
                      refine hF_L74c.trans ?_
                      refine (F_r_readFeels_L74c_s ..).trans ?_
                      refine (if_neg c_3029).trans ?_
                      refine (if_pos c_3054).trans ?_
                      refine (if_neg c_3058).trans ?_
                      extract_lets -merge -useContext +onlyGivenNames w9 y3_0 y3_1; have e9 : (n_3247, n_3248) = w9 := ((z_tS he_n_3247 he_n_3248.symm)).symm; clear_value w9; subst e9
                      try (extract_lets -merge -useContext +onlyGivenNames y9; have e9 : x_3255 = y9 := (by first | exact he_x_3255 | exact he_x_3255.symm); clear_value y9; subst e9)
                      refine (if_pos c_3256).trans ?_
                      exact rfl
                    exact hret _ _ _ _ _ (n_3247, n_3248, v_2537, v_2538, v_2539, v_2540, v_2541, v_2542, g_32, g_2536) [5, 4, 2, 3, 0, 1] hP hD hS rfl (by decide) dX12_readFeels_209 ⟨(congrArg (fun z9 => z9.1) hX_3269).symm, (congrArg (fun z9 => z9.2.1) hX_3269).symm, (congrArg (fun z9 => z9.2.2.1) hX_3269).symm, (congrArg (fun z9 => z9.2.2.2.1) hX_3269).symm, (congrArg (fun z9 => z9.2.2.2.2.1) hX_3269).symm, (congrArg (fun z9 => z9.2.2.2.2.2.1) hX_3269).symm, (congrArg (fun z9 => z9.2.2.2.2.2.2.1) hX_3269).symm, (congrArg (fun z9 => z9.2.2.2.2.2.2.2.1) hX_3269).symm, (congrArg (fun z9 => z9.2.2.2.2.2.2.2.2.1) hX_3269).symm, (congrArg (fun z9 => z9.2.2.2.2.2.2.2.2.2) hX_3269).symm, hpost⟩
              · have b_3270 := z_fneF c_3054
                refine lv_aload_n hx hb dX12_readFeels_94 rfl (lv_at hl 0 rfl) ?_
                refine z_callVv (As := []) (rest := []) (wr := [(a_hasFeels, .inl (cA.1 3, 3, .inl g_32)), (a_isOn, .inl (cA.1 3, 10, .inl g_isOn)), (a_c, .inl (cA.1 0, 1825, .inl g_2536)), (a_words, .inl (cA.1 1, 105, .inr (.inl g_words))), (a_tape, .inl (cA.1 2, 900, .inl g_tape))]) ⟨hx, hb, hml, hown, hts⟩ hK hE hT hP hD hS hA (r_wrong l G cA h0 m_status m_thrown m_above m_under a_traySort a_trayMany a_numbers a_tape m_taped m_textEnd m_faultKind m_faultAt n_12 n_13 v_2537 v_2538 v_2539 v_2540 v_2541 v_2542 a_c a_words m_markMany a_there a_tried a_best a_found m_thereMany m_foundMany m_orderHow m_orderRing m_orderMany m_hasBest m_bestTop m_bestBy a_weights a_shared m_random m_truePlace m_trueWay m_seconds m_done m_feelings m_tries m_leftOver m_playDoor m_playRing m_isOpen m_isOver m_wasTried m_hasPlayed a_feltNow a_last a_kept m_hasSeconds m_hasTurned m_hasRound a_hasFeels a_isOn m_firstAct m_meanTop m_meanBy a_order m_rowMany m_newSteps hr_v_2538 hr_n_12 hr_v_2537) lk_RX12_187 ⟨rfl, rfl⟩ ⟨Nat.le_of_ble_eq_true rfl, Nat.le_of_ble_eq_true rfl⟩ 12 rfl rfl rfl [4] [0, 1, 2, 3, 5] rfl rfl (by decide) rfl hl.1 rfl (lv_room (Nat.le_of_ble_eq_true rfl)) dX12_readFeels_95 ⟨Nat.le_of_ble_eq_true rfl, Nat.le_of_ble_eq_true rfl⟩ (fun u_3274 H locs hw hP hD hS => ?_)
                obtain ⟨n_3271, n_3272⟩ := u_3274
                try dsimp only at hw
                obtain ⟨he_n_3271, he_n_3272, hw⟩ := hw
                have hr_n_3271 := hw
                refine lv_aload_n hx hb dX12_readFeels_98 rfl (lv_at hl 0 rfl) ?_
                refine va_get (D := G) (ci := 12) (v := .int n_3271) (C := RX12) (T := TX12) (N := 65) hx hb hts inT12 hown hK hP 5 rfl rfl 12 (by decide) (hts _ tw_1897) (fun _ h9 => h9) rfl dX12_readFeels_99 ?_
                refine lv_if_ne (tgt := 123) hx hb dX12_readFeels_102 (by decide) (fun c_3276 => ?_) (fun h9 => (z_no (by have h8 := z_feqF h9; omega)))
                have b_3277 := z_fneT c_3276
                refine lv_aload_n hx hb dX12_readFeels_123 rfl (lv_at hl 0 rfl) ?_
                refine va_get (D := G) (ci := 12) (v := .int n_3271) (C := RX12) (T := TX12) (N := 65) hx hb hts inT12 hown hK hP 5 rfl rfl 12 (by decide) (hts _ tw_1897) (fun _ h9 => h9) rfl dX12_readFeels_124 ?_
                refine lv_if_ne (tgt := 147) hx hb dX12_readFeels_127 (by decide) (fun c_3278 => ?_) (fun h9 => (z_no (by have h8 := z_feqF h9; omega)))
                have b_3279 := z_fneT c_3278
                refine lv_iload_n hx hb dX12_readFeels_147 rfl (lv_at hl 3 rfl) ?_
                refine lv_iload_n hx hb dX12_readFeels_148 rfl (lv_at hl 2 rfl) ?_
                refine lv_irem hx hb dX12_readFeels_149 (z_nz (by omega)) ?_
                refine lv_topi (fun x_3280 he_x_3280 => ?_)
                have hq_x_3280 := z_remq he_x_3280 (rfl : v_2533.toInt = _) (by omega : x_45.toInt = 4) (by omega) (by decide)
                refine lv_if_ne (tgt := 160) hx hb dX12_readFeels_150 (by decide) (fun c_3281 => ?_) (fun c_3281 => ?_)
                · have b_3282 := z_fneT c_3281
                  refine lv_iload hx hb dX12_readFeels_160 (lv_at hl 4 rfl) ?_
                  refine lv_aload_n hx hb dX12_readFeels_162 rfl (lv_at hl 0 rfl) ?_
                  refine va_get (D := G) (ci := 12) (v := .int v_2540) (C := RX12) (T := TX12) (N := 65) hx hb hts inT12 hown hK hP 5 rfl rfl 17 (by decide) (hts _ tw_1902) (fun _ h9 => h9) rfl dX12_readFeels_163 ?_
                  refine lv_iadd hx hb dX12_readFeels_166 ?_
                  refine lv_topi (fun x_3283 he_x_3283 => ?_)
                  have hq_x_3283 := z_addq he_x_3283 (rfl : v_2534.toInt = _) (rfl : v_2540.toInt = _) (by omega) (by omega)
                  refine lv_istore (lv' := [(4, .int x_3283), (0, .ref h0), (1, .int r_14), (2, .int x_45), (3, .int v_2533), (5, .int v_2535)]) hx hb dX12_readFeels_167 hl (by decide) rfl (fun ls hl => ?_)
                  refine lv_aload_n hx hb dX12_readFeels_169 rfl (lv_at hl 1 rfl) ?_
                  refine va_get (D := G) (ci := 12) (v := .int n_3271) (C := RX12) (T := TX12) (N := 65) hx hb hts inT12 hown hK hP 5 rfl rfl 12 (by decide) (hts _ tw_1897) (fun _ h9 => h9) rfl dX12_readFeels_170 ?_
                  refine lv_if_ne (tgt := 202) hx hb dX12_readFeels_173 (by decide) (fun c_3284 => ?_) (fun h9 => (z_no (by have h8 := z_feqF h9; omega)))
                  have b_3285 := z_fneT c_3284
                  refine lv_aload_n hx hb dX12_readFeels_202 rfl (lv_at hl 1 rfl) ?_
                  refine va_get (D := G) (ci := 12) (v := .int n_3271) (C := RX12) (T := TX12) (N := 65) hx hb hts inT12 hown hK hP 5 rfl rfl 12 (by decide) (hts _ tw_1897) (fun _ h9 => h9) rfl dX12_readFeels_203 ?_
                  refine lv_if_le (tgt := 210) hx hb dX12_readFeels_206 (by decide) (fun h9 => (z_no (by have h8 := z_fleT h9; omega))) (fun c_3286 => ?_)
                  have b_3287 := z_fgtF c_3286
                  have hpost : (0 ≤ n_3271.toInt ∧ n_3271.toInt ≤ 9) ∧ (0 ≤ v_2537.toInt ∧ v_2537.toInt ≤ 4) ∧ (0 ≤ v_2538.toInt ∧ v_2538.toInt ≤ 900) ∧ (0 ≤ v_2539.toInt ∧ v_2539.toInt ≤ 900) ∧ (0 ≤ v_2540.toInt ∧ v_2540.toInt ≤ 9999) ∧ (0 ≤ v_2541.toInt ∧ v_2541.toInt ≤ 900) ∧ (zRg 3 0 1 g_32) ∧ (zC g_2536) ∧ (zNw g_2536 g_isOn) ∧ (m_behind.toInt ≤ v_2539.toInt) ∧ (0 < m_bad.toInt → 0 < n_3271.toInt) ∧ (n_3271.toInt ≤ 0 → v_2537.toInt = 0 ∨ m_behind.toInt < v_2539.toInt) ∧ (n_3271.toInt ≤ 0 → v_2537.toInt = 3 → v_2540.toInt = 59 → zNf g_2536) := ⟨(z_rgw hr_n_3271 (by decide) (by decide)), hr_v_2537, hr_v_2538, hr_v_2539, hr_v_2540, hr_v_2541, hC_g_32, hC_g_2536, hs_2773, (by omega), (by omega), (by omega), (fun h1 h2 h3 => z_no (by omega))⟩
                  have hX_3288 : F_r_readFeels m_textEnd m_bad m_badAt m_behind m_number m_letters m_word g_tape g_c g_words g_hasFeels = ((n_3271, n_3272, v_2537, v_2538, v_2539, v_2540, v_2541, v_2542, g_32, g_2536) : Int32 × Int32 × Int32 × Int32 × Int32 × Int32 × Int32 × Int64 × (Nat → Int32) × (Nat → Int32)) := by
                    refine hF_L74c.trans ?_
                    refine (F_r_readFeels_L74c_s ..).trans ?_
                    refine (if_neg c_3029).trans ?_
                    refine (if_neg c_3054).trans ?_
                    extract_lets -merge -useContext +onlyGivenNames w9 y2_0 y2_1; have e9 : (n_3271, n_3272) = w9 := ((z_tS he_n_3271 he_n_3272.symm)).symm; clear_value w9; subst e9
                    try (extract_lets -merge -useContext +onlyGivenNames y9; have e9 : x_3280 = y9 := (by first | exact he_x_3280 | exact he_x_3280.symm); clear_value y9; subst e9)
                    refine (if_neg c_3281).trans ?_
                    try (extract_lets -merge -useContext +onlyGivenNames y9; have e9 : x_3283 = y9 := (by first | exact he_x_3283 | exact he_x_3283.symm); clear_value y9; subst e9)
                    exact rfl
                  exact hret _ _ _ _ _ (n_3271, n_3272, v_2537, v_2538, v_2539, v_2540, v_2541, v_2542, g_32, g_2536) [5, 4, 2, 3, 0, 1] hP hD hS rfl (by decide) dX12_readFeels_209 ⟨(congrArg (fun z9 => z9.1) hX_3288).symm, (congrArg (fun z9 => z9.2.1) hX_3288).symm, (congrArg (fun z9 => z9.2.2.1) hX_3288).symm, (congrArg (fun z9 => z9.2.2.2.1) hX_3288).symm, (congrArg (fun z9 => z9.2.2.2.2.1) hX_3288).symm, (congrArg (fun z9 => z9.2.2.2.2.2.1) hX_3288).symm, (congrArg (fun z9 => z9.2.2.2.2.2.2.1) hX_3288).symm, (congrArg (fun z9 => z9.2.2.2.2.2.2.2.1) hX_3288).symm, (congrArg (fun z9 => z9.2.2.2.2.2.2.2.2.1) hX_3288).symm, (congrArg (fun z9 => z9.2.2.2.2.2.2.2.2.2) hX_3288).symm, hpost⟩
                · have b_3289 := z_feqF c_3281
                  refine lv_aload_n hx hb dX12_readFeels_153 rfl (lv_at hl 0 rfl) ?_
                  refine va_get (D := G) (ci := 12) (v := .int v_2540) (C := RX12) (T := TX12) (N := 65) hx hb hts inT12 hown hK hP 5 rfl rfl 17 (by decide) (hts _ tw_1902) (fun _ h9 => h9) rfl dX12_readFeels_154 ?_
                  refine lv_goto (tgt := 167) hx hb dX12_readFeels_157 (by decide) ?_
                  refine lv_istore (lv' := [(4, .int v_2540), (0, .ref h0), (1, .int r_14), (2, .int x_45), (3, .int v_2533), (5, .int v_2535)]) hx hb dX12_readFeels_167 hl (by decide) rfl (fun ls hl => ?_)
                  refine lv_aload_n hx hb dX12_readFeels_169 rfl (lv_at hl 1 rfl) ?_
                  refine va_get (D := G) (ci := 12) (v := .int n_3271) (C := RX12) (T := TX12) (N := 65) hx hb hts inT12 hown hK hP 5 rfl rfl 12 (by decide) (hts _ tw_1897) (fun _ h9 => h9) rfl dX12_readFeels_170 ?_
                  refine lv_if_ne (tgt := 202) hx hb dX12_readFeels_173 (by decide) (fun c_3290 => ?_) (fun h9 => (z_no (by have h8 := z_feqF h9; omega)))
                  have b_3291 := z_fneT c_3290
                  refine lv_aload_n hx hb dX12_readFeels_202 rfl (lv_at hl 1 rfl) ?_
                  refine va_get (D := G) (ci := 12) (v := .int n_3271) (C := RX12) (T := TX12) (N := 65) hx hb hts inT12 hown hK hP 5 rfl rfl 12 (by decide) (hts _ tw_1897) (fun _ h9 => h9) rfl dX12_readFeels_203 ?_
                  refine lv_if_le (tgt := 210) hx hb dX12_readFeels_206 (by decide) (fun h9 => (z_no (by have h8 := z_fleT h9; omega))) (fun c_3292 => ?_)
                  have b_3293 := z_fgtF c_3292
                  have hpost : (0 ≤ n_3271.toInt ∧ n_3271.toInt ≤ 9) ∧ (0 ≤ v_2537.toInt ∧ v_2537.toInt ≤ 4) ∧ (0 ≤ v_2538.toInt ∧ v_2538.toInt ≤ 900) ∧ (0 ≤ v_2539.toInt ∧ v_2539.toInt ≤ 900) ∧ (0 ≤ v_2540.toInt ∧ v_2540.toInt ≤ 9999) ∧ (0 ≤ v_2541.toInt ∧ v_2541.toInt ≤ 900) ∧ (zRg 3 0 1 g_32) ∧ (zC g_2536) ∧ (zNw g_2536 g_isOn) ∧ (m_behind.toInt ≤ v_2539.toInt) ∧ (0 < m_bad.toInt → 0 < n_3271.toInt) ∧ (n_3271.toInt ≤ 0 → v_2537.toInt = 0 ∨ m_behind.toInt < v_2539.toInt) ∧ (n_3271.toInt ≤ 0 → v_2537.toInt = 3 → v_2540.toInt = 59 → zNf g_2536) := ⟨(z_rgw hr_n_3271 (by decide) (by decide)), hr_v_2537, hr_v_2538, hr_v_2539, hr_v_2540, hr_v_2541, hC_g_32, hC_g_2536, hs_2773, (by omega), (by omega), (by omega), (fun h1 h2 h3 => z_no (by omega))⟩
                  have hX_3294 : F_r_readFeels m_textEnd m_bad m_badAt m_behind m_number m_letters m_word g_tape g_c g_words g_hasFeels = ((n_3271, n_3272, v_2537, v_2538, v_2539, v_2540, v_2541, v_2542, g_32, g_2536) : Int32 × Int32 × Int32 × Int32 × Int32 × Int32 × Int32 × Int64 × (Nat → Int32) × (Nat → Int32)) := by
                    refine hF_L74c.trans ?_
                    refine (F_r_readFeels_L74c_s ..).trans ?_
                    refine (if_neg c_3029).trans ?_
                    refine (if_neg c_3054).trans ?_
                    extract_lets -merge -useContext +onlyGivenNames w9 y2_0 y2_1; have e9 : (n_3271, n_3272) = w9 := ((z_tS he_n_3271 he_n_3272.symm)).symm; clear_value w9; subst e9
                    try (extract_lets -merge -useContext +onlyGivenNames y9; have e9 : x_3280 = y9 := (by first | exact he_x_3280 | exact he_x_3280.symm); clear_value y9; subst e9)
                    refine (if_pos c_3281).trans ?_
                    exact rfl
                  exact hret _ _ _ _ _ (n_3271, n_3272, v_2537, v_2538, v_2539, v_2540, v_2541, v_2542, g_32, g_2536) [5, 4, 2, 3, 0, 1] hP hD hS rfl (by decide) dX12_readFeels_209 ⟨(congrArg (fun z9 => z9.1) hX_3294).symm, (congrArg (fun z9 => z9.2.1) hX_3294).symm, (congrArg (fun z9 => z9.2.2.1) hX_3294).symm, (congrArg (fun z9 => z9.2.2.2.1) hX_3294).symm, (congrArg (fun z9 => z9.2.2.2.2.1) hX_3294).symm, (congrArg (fun z9 => z9.2.2.2.2.2.1) hX_3294).symm, (congrArg (fun z9 => z9.2.2.2.2.2.2.1) hX_3294).symm, (congrArg (fun z9 => z9.2.2.2.2.2.2.2.1) hX_3294).symm, (congrArg (fun z9 => z9.2.2.2.2.2.2.2.2.1) hX_3294).symm, (congrArg (fun z9 => z9.2.2.2.2.2.2.2.2.2) hX_3294).symm, hpost⟩
        have hX_3295 : F_r_readFeels m_textEnd m_bad m_badAt m_behind m_number m_letters m_word g_tape g_c g_words g_hasFeels = F_r_readFeels_L74c m_textEnd g_tape r_14 n_12 n_13 g_32 x_45 ((900 - n_35.toInt + (1 : Int32).toInt).toNat + 1) (0 : Int32) (0 : Int32) (1 : Int32) g_c n_33 n_34 n_35 n_36 n_37 n_38 := by
          refine (F_r_readFeels_s ..).trans ?_
          extract_lets -merge -useContext +onlyGivenNames w9 y0_0 y0_1 y0_2 y0_3 y0_4 y0_5; have e9 : (n_1, n_2, n_3, n_4, n_5, n_6) = w9 := ((z_tS he_n_1 (z_tS he_n_2 (z_tS he_n_3 (z_tS he_n_4 (z_tS he_n_5 he_n_6.symm)))))).symm; clear_value w9; subst e9
          extract_lets -merge -useContext +onlyGivenNames w9 y1_0 y1_1 y1_2; have e9 : (r_14, n_12, n_13) = w9 := ((z_tS he_r_14 (z_tS he_n_12 he_n_13.symm))).symm; clear_value w9; subst e9
          refine (if_pos c_20).trans ?_
          try (extract_lets -merge -useContext +onlyGivenNames y9; have e9 : x_26 = y9 := (by first | exact he_x_26 | exact he_x_26.symm); clear_value y9; subst e9)
          refine (if_pos c_27).trans ?_
          try (extract_lets -merge -useContext +onlyGivenNames y9; have e9 : g_32 = y9 := (by first | exact hg_g_32 | exact hg_g_32.symm); clear_value y9; subst e9)
          extract_lets -merge -useContext +onlyGivenNames w9 y6_0 y6_1 y6_2 y6_3 y6_4 y6_5; have e9 : (n_33, n_34, n_35, n_36, n_37, n_38) = w9 := ((z_tS he_n_33 (z_tS he_n_34 (z_tS he_n_35 (z_tS he_n_36 (z_tS he_n_37 he_n_38.symm)))))).symm; clear_value w9; subst e9
          try (extract_lets -merge -useContext +onlyGivenNames y9; have e9 : x_44 = y9 := (by first | exact he_x_44 | exact he_x_44.symm); clear_value y9; subst e9)
          try (extract_lets -merge -useContext +onlyGivenNames y9; have e9 : x_45 = y9 := (by first | exact he_x_45 | exact he_x_45.symm); clear_value y9; subst e9)
          exact rfl
        exact hlp_3027 ((900 - n_35.toInt + (1 : Int32).toInt).toNat + 1) 0 0 1 g_c n_33 n_34 n_35 n_36 n_37 n_38 _ _ _ (Nat.lt_succ_self _) (by decide +kernel) (by decide +kernel) (by decide +kernel) hC_g_c hr_n_33 hr_n_34 hr_n_35 hr_n_36 hr_n_37 hNW0 (zFl_0 (by omega)) (by omega) (by omega) (by omega) (by omega) (by omega) hX_3295 hP hD hS (lv_sub hl [5, 4, 3, 2, 1, 0] rfl)
    · have b_3296 := z_fneF c_27
      refine lv_aload_n hx hb dX12_readFeels_27 rfl (lv_at hl 1 rfl) ?_
      refine lv_iconst (v := 5) hx hb dX12_readFeels_28 (by decide) ?_
      refine lv_aload_n hx hb dX12_readFeels_29 rfl (lv_at hl 1 rfl) ?_
      refine va_get (D := G) (ci := 12) (v := .int n_2) (C := RX12) (T := TX12) (N := 65) hx hb hts inT12 hown hK hP 3 rfl rfl 15 (by decide) (hts _ tw_1900) (fun _ h9 => h9) rfl dX12_readFeels_30 ?_
      refine z_callVv (As := [.int 5, .int n_2]) (rest := []) (wr := [(a_hasFeels, .inl (cA.1 3, 3, .inl g_hasFeels)), (a_isOn, .inl (cA.1 3, 10, .inl g_isOn)), (a_tape, .inl (cA.1 2, 900, .inl g_tape)), (a_c, .inl (cA.1 0, 1825, .inl g_c)), (a_words, .inl (cA.1 1, 105, .inr (.inl g_words)))]) ⟨hx, hb, hml, hown, hts⟩ hK hE hT hP hD hS hA (r_fail l G cA h0 m_status m_thrown m_above m_under a_traySort a_trayMany a_numbers a_tape m_taped m_textEnd m_faultKind m_faultAt n_12 n_13 n_1 n_2 n_3 n_4 n_5 n_6 a_c a_words m_markMany a_there a_tried a_best a_found m_thereMany m_foundMany m_orderHow m_orderRing m_orderMany m_hasBest m_bestTop m_bestBy a_weights a_shared m_random m_truePlace m_trueWay m_seconds m_done m_feelings m_tries m_leftOver m_playDoor m_playRing m_isOpen m_isOver m_wasTried m_hasPlayed a_feltNow a_last a_kept m_hasSeconds m_hasTurned m_hasRound a_hasFeels a_isOn m_firstAct m_meanTop m_meanBy a_order m_rowMany m_newSteps 5 n_2 (by decide +kernel) hr_n_12) lk_RX12_180 ⟨rfl, rfl⟩ ⟨Nat.le_of_ble_eq_true rfl, Nat.le_of_ble_eq_true rfl⟩ 12 rfl rfl rfl [3] [0, 1, 2, 4, 5] rfl rfl (by decide) rfl hl.1 rfl (lv_room (Nat.le_of_ble_eq_true rfl)) dX12_readFeels_33 ⟨Nat.le_of_ble_eq_true rfl, Nat.le_of_ble_eq_true rfl⟩ (fun u_3300 H locs hw hP hD hS => ?_)
      obtain ⟨n_3297, n_3298⟩ := u_3300
      try dsimp only at hw
      obtain ⟨he_n_3297, he_n_3298, hw⟩ := hw
      obtain ⟨hr_n_3297, hf_3302⟩ := hw
      refine lv_aload_n hx hb dX12_readFeels_36 rfl (lv_at hl 1 rfl) ?_
      refine va_get (D := G) (ci := 12) (v := .int n_3297) (C := RX12) (T := TX12) (N := 65) hx hb hts inT12 hown hK hP 5 rfl rfl 12 (by decide) (hts _ tw_1897) (fun _ h9 => h9) rfl dX12_readFeels_37 ?_
      refine lv_if_le (tgt := 44) hx hb dX12_readFeels_40 (by decide) (fun h9 => (z_no (by have h8 := z_fleT h9; omega))) (fun c_3303 => ?_)
      have b_3304 := z_fgtF c_3303
      have hpost : (0 ≤ n_3297.toInt ∧ n_3297.toInt ≤ 9) ∧ (0 ≤ n_1.toInt ∧ n_1.toInt ≤ 4) ∧ (0 ≤ n_2.toInt ∧ n_2.toInt ≤ 900) ∧ (0 ≤ n_3.toInt ∧ n_3.toInt ≤ 900) ∧ (0 ≤ n_4.toInt ∧ n_4.toInt ≤ 9999) ∧ (0 ≤ n_5.toInt ∧ n_5.toInt ≤ 900) ∧ (zRg 3 0 1 g_hasFeels) ∧ (zC g_c) ∧ (zNw g_c g_isOn) ∧ (m_behind.toInt ≤ n_3.toInt) ∧ (0 < m_bad.toInt → 0 < n_3297.toInt) ∧ (n_3297.toInt ≤ 0 → n_1.toInt = 0 ∨ m_behind.toInt < n_3.toInt) ∧ (n_3297.toInt ≤ 0 → n_1.toInt = 3 → n_4.toInt = 59 → zNf g_c) := ⟨(z_rgw hr_n_3297 (by decide) (by decide)), hr_n_1, hr_n_2, hr_n_3, hr_n_4, hr_n_5, hC_g_hasFeels, hC_g_c, hNW0, (by omega), (by omega), (by omega), (fun _ _ _ => hNF0)⟩
      have hX_3305 : F_r_readFeels m_textEnd m_bad m_badAt m_behind m_number m_letters m_word g_tape g_c g_words g_hasFeels = ((n_3297, n_3298, n_1, n_2, n_3, n_4, n_5, n_6, g_hasFeels, g_c) : Int32 × Int32 × Int32 × Int32 × Int32 × Int32 × Int32 × Int64 × (Nat → Int32) × (Nat → Int32)) := by
        refine (F_r_readFeels_s ..).trans ?_
        extract_lets -merge -useContext +onlyGivenNames w9 y0_0 y0_1 y0_2 y0_3 y0_4 y0_5; have e9 : (n_1, n_2, n_3, n_4, n_5, n_6) = w9 := ((z_tS he_n_1 (z_tS he_n_2 (z_tS he_n_3 (z_tS he_n_4 (z_tS he_n_5 he_n_6.symm)))))).symm; clear_value w9; subst e9
        extract_lets -merge -useContext +onlyGivenNames w9 y1_0 y1_1 y1_2; have e9 : (r_14, n_12, n_13) = w9 := ((z_tS he_r_14 (z_tS he_n_12 he_n_13.symm))).symm; clear_value w9; subst e9
        refine (if_pos c_20).trans ?_
        try (extract_lets -merge -useContext +onlyGivenNames y9; have e9 : x_26 = y9 := (by first | exact he_x_26 | exact he_x_26.symm); clear_value y9; subst e9)
        refine (if_neg c_27).trans ?_
        extract_lets -merge -useContext +onlyGivenNames w9 y5_0 y5_1; have e9 : (n_3297, n_3298) = w9 := ((z_tS he_n_3297 he_n_3298.symm)).symm; clear_value w9; subst e9
        exact rfl
      exact hret _ _ _ _ _ (n_3297, n_3298, n_1, n_2, n_3, n_4, n_5, n_6, g_hasFeels, g_c) [5, 2, 3, 4, 0, 1] hP hD hS rfl (by decide) dX12_readFeels_43 ⟨(congrArg (fun z9 => z9.1) hX_3305).symm, (congrArg (fun z9 => z9.2.1) hX_3305).symm, (congrArg (fun z9 => z9.2.2.1) hX_3305).symm, (congrArg (fun z9 => z9.2.2.2.1) hX_3305).symm, (congrArg (fun z9 => z9.2.2.2.2.1) hX_3305).symm, (congrArg (fun z9 => z9.2.2.2.2.2.1) hX_3305).symm, (congrArg (fun z9 => z9.2.2.2.2.2.2.1) hX_3305).symm, (congrArg (fun z9 => z9.2.2.2.2.2.2.2.1) hX_3305).symm, (congrArg (fun z9 => z9.2.2.2.2.2.2.2.2.1) hX_3305).symm, (congrArg (fun z9 => z9.2.2.2.2.2.2.2.2.2) hX_3305).symm, hpost⟩
