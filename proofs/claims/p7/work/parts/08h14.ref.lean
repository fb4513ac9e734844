set_option maxHeartbeats 4000000 in
set_option maxRecDepth 100000 in
theorem r_readFeels (l : Launch) (G : va_G) (cA : zCA) (h0 : Nat) (m_status : Int32) (m_thrown : Int32) (m_above : Int64) (m_under : Int64) (a_traySort : Nat) (a_trayMany : Nat) (a_numbers : Nat) (a_tape : Nat) (m_taped : Int32) (m_textEnd : Int32) (m_faultKind : Int32) (m_faultAt : Int32) (m_bad : Int32) (m_badAt : Int32) (m_token : Int32) (m_at : Int32) (m_behind : Int32) (m_number : Int32) (m_letters : Int32) (m_word : Int64) (a_c : Nat) (a_words : Nat) (m_markMany : Int32) (a_there : Nat) (a_tried : Nat) (a_best : Nat) (a_found : Nat) (m_thereMany : Int32) (m_foundMany : Int32) (m_orderHow : Int32) (m_orderRing : Int32) (m_orderMany : Int32) (m_hasBest : Int32) (m_bestTop : Int64) (m_bestBy : Int64) (a_weights : Nat) (a_shared : Nat) (m_random : Int32) (m_truePlace : Int32) (m_trueWay : Int32) (m_seconds : Int32) (m_done : Int32) (m_feelings : Int32) (m_tries : Int32) (m_leftOver : Int32) (m_playDoor : Int32) (m_playRing : Int32) (m_isOpen : Int32) (m_isOver : Int32) (m_wasTried : Int32) (m_hasPlayed : Int32) (a_feltNow : Nat) (a_last : Nat) (a_kept : Nat) (m_hasSeconds : Int32) (m_hasTurned : Int32) (m_hasRound : Int32) (a_hasFeels : Nat) (a_isOn : Nat) (m_firstAct : Int32) (m_meanTop : Int64) (m_meanBy : Int64) (a_order : Nat) (m_rowMany : Int32) (m_newSteps : Int32) (g_tape : Nat → Int32) (g_c : Nat → Int32) (g_words : Nat → Int64) (g_hasFeels : Nat → Int32) (g_isOn : Nat → Int32) (hr_m_textEnd : 0 ≤ m_textEnd.toInt ∧ m_textEnd.toInt ≤ 900) (hr_m_at : 0 ≤ m_at.toInt ∧ m_at.toInt ≤ 900) (hr_m_behind : 0 ≤ m_behind.toInt ∧ m_behind.toInt ≤ 900) (hr_m_bad : 0 ≤ m_bad.toInt ∧ m_bad.toInt ≤ 0) (hr_m_token : 0 ≤ m_token.toInt ∧ m_token.toInt ≤ 4) (hr_m_number : 0 ≤ m_number.toInt ∧ m_number.toInt ≤ 9999) (hr_m_letters : 0 ≤ m_letters.toInt ∧ m_letters.toInt ≤ 900) (hC_g_c : zC g_c) (hC_g_hasFeels : zRg 3 0 1 g_hasFeels) (hC_g_isOn : zRg 10 0 1 g_isOn) (hNW0 : zNw g_c g_isOn) (hNF0 : zNf g_c) : zCv l yX12_readFeels cX12_readFeels 6 none ({ frames := 4, cells := 0, slots := 0, locals := 90 }) G cA [.ref h0] [(h0, .inr (12, [.int m_status, .int m_thrown, .long m_above, .long m_under, .ref a_traySort, .ref a_trayMany, .ref a_numbers, .ref a_tape, .int m_taped, .int m_textEnd, .int m_faultKind, .int m_faultAt, .int m_bad, .int m_badAt, .int m_token, .int m_at, .int m_behind, .int m_number, .int m_letters, .long m_word, .ref a_c, .ref a_words, .int m_markMany, .ref a_there, .ref a_tried, .ref a_best, .ref a_found, .int m_thereMany, .int m_foundMany, .int m_orderHow, .int m_orderRing, .int m_orderMany, .int m_hasBest, .long m_bestTop, .long m_bestBy, .ref a_weights, .ref a_shared, .int m_random, .int m_truePlace, .int m_trueWay, .int m_seconds, .int m_done, .int m_feelings, .int m_tries, .int m_leftOver, .int m_playDoor, .int m_playRing, .int m_isOpen, .int m_isOver, .int m_wasTried, .int m_hasPlayed, .ref a_feltNow, .ref a_last, .ref a_kept, .int m_hasSeconds, .int m_hasTurned, .int m_hasRound, .ref a_hasFeels, .ref a_isOn, .int m_firstAct, .long m_meanTop, .long m_meanBy, .ref a_order, .int m_rowMany, .int m_newSteps])), (a_tape, .inl (cA.1 2, 900, .inl g_tape)), (a_c, .inl (cA.1 0, 1825, .inl g_c)), (a_words, .inl (cA.1 1, 105, .inr (.inl g_words))), (a_hasFeels, .inl (cA.1 3, 3, .inl g_hasFeels)), (a_isOn, .inl (cA.1 3, 10, .inl g_isOn))] (S := Int32 × Int32 × Int32 × Int32 × Int32 × Int32 × Int32 × Int64 × (Nat → Int32) × (Nat → Int32)) (fun (u : Int32 × Int32 × Int32 × Int32 × Int32 × Int32 × Int32 × Int64 × (Nat → Int32) × (Nat → Int32)) => (0 ≤ u.1.toInt ∧ u.1.toInt ≤ 9) ∧ (0 ≤ u.2.2.1.toInt ∧ u.2.2.1.toInt ≤ 4) ∧ (0 ≤ u.2.2.2.1.toInt ∧ u.2.2.2.1.toInt ≤ 900) ∧ (0 ≤ u.2.2.2.2.1.toInt ∧ u.2.2.2.2.1.toInt ≤ 900) ∧ (0 ≤ u.2.2.2.2.2.1.toInt ∧ u.2.2.2.2.2.1.toInt ≤ 9999) ∧ (0 ≤ u.2.2.2.2.2.2.1.toInt ∧ u.2.2.2.2.2.2.1.toInt ≤ 900) ∧ (zRg 3 0 1 u.2.2.2.2.2.2.2.2.1) ∧ (zC u.2.2.2.2.2.2.2.2.2) ∧ (zNw u.2.2.2.2.2.2.2.2.2 g_isOn) ∧ (m_behind.toInt ≤ u.2.2.2.2.1.toInt) ∧ (0 < m_bad.toInt → 0 < u.1.toInt) ∧ (u.1.toInt ≤ 0 → u.2.2.1.toInt = 0 ∨ m_behind.toInt < u.2.2.2.2.1.toInt) ∧ (u.1.toInt ≤ 0 → u.2.2.1.toInt = 3 → u.2.2.2.2.2.1.toInt = 59 → zNf u.2.2.2.2.2.2.2.2.2)) (fun (u : Int32 × Int32 × Int32 × Int32 × Int32 × Int32 × Int32 × Int64 × (Nat → Int32) × (Nat → Int32)) => [(h0, .inr (12, [.int m_status, .int m_thrown, .long m_above, .long m_under, .ref a_traySort, .ref a_trayMany, .ref a_numbers, .ref a_tape, .int m_taped, .int m_textEnd, .int m_faultKind, .int m_faultAt, .int u.1, .int u.2.1, .int u.2.2.1, .int u.2.2.2.1, .int u.2.2.2.2.1, .int u.2.2.2.2.2.1, .int u.2.2.2.2.2.2.1, .long u.2.2.2.2.2.2.2.1, .ref a_c, .ref a_words, .int m_markMany, .ref a_there, .ref a_tried, .ref a_best, .ref a_found, .int m_thereMany, .int m_foundMany, .int m_orderHow, .int m_orderRing, .int m_orderMany, .int m_hasBest, .long m_bestTop, .long m_bestBy, .ref a_weights, .ref a_shared, .int m_random, .int m_truePlace, .int m_trueWay, .int m_seconds, .int m_done, .int m_feelings, .int m_tries, .int m_leftOver, .int m_playDoor, .int m_playRing, .int m_isOpen, .int m_isOver, .int m_wasTried, .int m_hasPlayed, .ref a_feltNow, .ref a_last, .ref a_kept, .int m_hasSeconds, .int m_hasTurned, .int m_hasRound, .ref a_hasFeels, .ref a_isOn, .int m_firstAct, .long m_meanTop, .long m_meanBy, .ref a_order, .int m_rowMany, .int m_newSteps])), (a_tape, .inl (cA.1 2, 900, .inl g_tape)), (a_c, .inl (cA.1 0, 1825, .inl u.2.2.2.2.2.2.2.2.2)), (a_words, .inl (cA.1 1, 105, .inr (.inl g_words))), (a_hasFeels, .inl (cA.1 3, 3, .inl u.2.2.2.2.2.2.2.2.1)), (a_isOn, .inl (cA.1 3, 10, .inl g_isOn))]) 0 0 := by
  have hk_0 : (0 : Int32).toInt = 0 := by decide +kernel
  have hk_1 : (1 : Int32).toInt = 1 := by decide +kernel
  have hk_2 : (2 : Int32).toInt = 2 := by decide +kernel
  have hk_4 : (4 : Int32).toInt = 4 := by decide +kernel
  have hk_5 : (5 : Int32).toInt = 5 := by decide +kernel
  have hk_8 : (8 : Int32).toInt = 8 := by decide +kernel
  have hk_9 : (9 : Int32).toInt = 9 := by decide +kernel
  have hk_16 : (16 : Int32).toInt = 16 := by decide +kernel
  have hk_59 : (59 : Int32).toInt = 59 := by decide +kernel
  have hk_1471 : (1471 : Int32).toInt = 1471 := by decide +kernel
  have hk_1477 : (1477 : Int32).toInt = 1477 := by decide +kernel
  refine z_start2v (own := RX12) (by decide) (Nat.le_of_ble_eq_true rfl) rfl ?_
  intro p e s m args below meth c A ls Q hx hb hml hts hown hK hE hT hP hD hS hA hl hret
  have hl : lv_has ls 6 [(0, .ref h0)] := hl
  refine lv_aload_n hx hb dX12_readFeels_0 rfl (lv_at hl 0 rfl) ?_
  refine z_callVv (As := []) (rest := []) (wr := [(a_c, .inl (cA.1 0, 1825, .inl g_c)), (a_words, .inl (cA.1 1, 105, .inr (.inl g_words))), (a_hasFeels, .inl (cA.1 3, 3, .inl g_hasFeels)), (a_isOn, .inl (cA.1 3, 10, .inl g_isOn))]) ⟨hx, hb, hml, hown, hts⟩ hK hE hT hP hD hS hA (r_next2 l G cA h0 m_status m_thrown m_above m_under a_traySort a_trayMany a_numbers a_tape m_taped m_textEnd m_faultKind m_faultAt m_bad m_badAt m_token m_at m_behind m_number m_letters m_word a_c a_words m_markMany a_there a_tried a_best a_found m_thereMany m_foundMany m_orderHow m_orderRing m_orderMany m_hasBest m_bestTop m_bestBy a_weights a_shared m_random m_truePlace m_trueWay m_seconds m_done m_feelings m_tries m_leftOver m_playDoor m_playRing m_isOpen m_isOver m_wasTried m_hasPlayed a_feltNow a_last a_kept m_hasSeconds m_hasTurned m_hasRound a_hasFeels a_isOn m_firstAct m_meanTop m_meanBy a_order m_rowMany m_newSteps g_tape hr_m_textEnd hr_m_at hr_m_behind hr_m_token hr_m_number hr_m_letters) lk_RX12_184 ⟨rfl, rfl⟩ ⟨Nat.le_of_ble_eq_true rfl, Nat.le_of_ble_eq_true rfl⟩ 12 rfl rfl rfl [0, 1] [2, 3, 4, 5] rfl rfl (by decide) rfl hl.1 rfl (lv_room (Nat.le_of_ble_eq_true rfl)) dX12_readFeels_1 ⟨Nat.le_of_ble_eq_true rfl, Nat.le_of_ble_eq_true rfl⟩ (fun u_8 H locs hw hP hD hS => ?_)
  obtain ⟨n_1, n_2, n_3, n_4, n_5, n_6⟩ := u_8
  try dsimp only at hw
  obtain ⟨hr_n_1, hr_n_2, hr_n_3, hr_n_4, hr_n_5, hf_9, hf_10⟩ := hw
  refine lv_aload_n hx hb dX12_readFeels_4 rfl (lv_at hl 0 rfl) ?_
  refine lv_iconst (v := 0) hx hb dX12_readFeels_5 (by decide) ?_
  refine lv_iconst (v := 0) hx hb dX12_readFeels_6 (by decide) ?_
  refine z_callVi (As := [.int 0, .int 0]) (rest := []) (wr := [(a_hasFeels, .inl (cA.1 3, 3, .inl g_hasFeels)), (a_isOn, .inl (cA.1 3, 10, .inl g_isOn)), (a_tape, .inl (cA.1 2, 900, .inl g_tape))]) ⟨hx, hb, hml, hown, hts⟩ hK hE hT hP hD hS hA (r_readOld_0 l G cA h0 m_status m_thrown m_above m_under a_traySort a_trayMany a_numbers a_tape m_taped m_textEnd m_faultKind m_faultAt m_bad m_badAt n_1 n_2 n_3 n_4 n_5 n_6 a_c a_words m_markMany a_there a_tried a_best a_found m_thereMany m_foundMany m_orderHow m_orderRing m_orderMany m_hasBest m_bestTop m_bestBy a_weights a_shared m_random m_truePlace m_trueWay m_seconds m_done m_feelings m_tries m_leftOver m_playDoor m_playRing m_isOpen m_isOver m_wasTried m_hasPlayed a_feltNow a_last a_kept m_hasSeconds m_hasTurned m_hasRound a_hasFeels a_isOn m_firstAct m_meanTop m_meanBy a_order m_rowMany m_newSteps g_c g_words hr_n_2 (z_rgw hr_m_bad (by decide) (by decide)) hr_n_1 hr_n_5 hC_g_c) lk_RX12_217 ⟨rfl, rfl⟩ ⟨Nat.le_of_ble_eq_true rfl, Nat.le_of_ble_eq_true rfl⟩ 12 rfl rfl rfl [4, 0, 1] [2, 3, 5] rfl rfl (by decide) rfl hl.1 rfl (lv_room (Nat.le_of_ble_eq_true rfl)) dX12_readFeels_7 ⟨Nat.le_of_ble_eq_true rfl, Nat.le_of_ble_eq_true rfl⟩ (fun r_13 u_14 H locs hw hP hD hS => ?_)
  obtain ⟨n_11, n_12⟩ := u_14
  try dsimp only at hw
  obtain ⟨hr_r_13, hr_n_11, hf_15, hf_16, hf_17⟩ := hw
  refine lv_istore_n (lv' := [(1, .int r_13), (0, .ref h0)]) hx hb dX12_readFeels_10 rfl hl (by decide) rfl (fun ls hl => ?_)
  refine lv_aload_n hx hb dX12_readFeels_11 rfl (lv_at hl 1 rfl) ?_
  refine va_get (D := G) (ci := 12) (v := .int n_11) (C := RX12) (T := TX12) (N := 65) hx hb hts inT12 hown hK hP 3 rfl rfl 12 (by decide) (hts _ tw_1897) (fun _ h9 => h9) rfl dX12_readFeels_12 ?_
  refine lv_if_ne (tgt := 36) hx hb dX12_readFeels_15 (by decide) (fun c_18 => ?_) (fun c_18 => ?_)
  · have b_19 := z_fneT c_18
    refine lv_aload_n hx hb dX12_readFeels_36 rfl (lv_at hl 1 rfl) ?_
    refine va_get (D := G) (ci := 12) (v := .int n_11) (C := RX12) (T := TX12) (N := 65) hx hb hts inT12 hown hK hP 3 rfl rfl 12 (by decide) (hts _ tw_1897) (fun _ h9 => h9) rfl dX12_readFeels_37 ?_
    refine lv_if_le (tgt := 44) hx hb dX12_readFeels_40 (by decide) (fun h9 => (z_no (by have h8 := z_fleT h9; omega))) (fun c_20 => ?_)
    have b_21 := z_fgtF c_20
    have hpost : (0 ≤ n_11.toInt ∧ n_11.toInt ≤ 9) ∧ (0 ≤ n_1.toInt ∧ n_1.toInt ≤ 4) ∧ (0 ≤ n_2.toInt ∧ n_2.toInt ≤ 900) ∧ (0 ≤ n_3.toInt ∧ n_3.toInt ≤ 900) ∧ (0 ≤ n_4.toInt ∧ n_4.toInt ≤ 9999) ∧ (0 ≤ n_5.toInt ∧ n_5.toInt ≤ 900) ∧ (zRg 3 0 1 g_hasFeels) ∧ (zC g_c) ∧ (zNw g_c g_isOn) ∧ (m_behind.toInt ≤ n_3.toInt) ∧ (0 < m_bad.toInt → 0 < n_11.toInt) ∧ (n_11.toInt ≤ 0 → n_1.toInt = 0 ∨ m_behind.toInt < n_3.toInt) ∧ (n_11.toInt ≤ 0 → n_1.toInt = 3 → n_4.toInt = 59 → zNf g_c) := ⟨hr_n_11, hr_n_1, hr_n_2, hr_n_3, hr_n_4, hr_n_5, hC_g_hasFeels, hC_g_c, hNW0, (by omega), (by omega), (by omega), (fun _ _ _ => hNF0)⟩
    exact hret _ _ _ _ _ (n_11, n_12, n_1, n_2, n_3, n_4, n_5, n_6, g_hasFeels, g_c) [3, 2, 4, 5, 0, 1] hP hD hS rfl (by decide) dX12_readFeels_43 hpost
  · have b_22 := z_feqF c_18
    refine lv_aload_n hx hb dX12_readFeels_18 rfl (lv_at hl 1 rfl) ?_
    refine va_get (D := G) (ci := 12) (v := .ref a_hasFeels) (C := RX12) (T := TX12) (N := 65) hx hb hts inT12 hown hK hP 3 rfl rfl 57 (by decide) (hts _ tw_1940) (fun _ h9 => h9) rfl dX12_readFeels_19 ?_
    refine lv_iload_n hx hb dX12_readFeels_22 rfl (lv_at hl 0 rfl) ?_
    refine va_zald hx hb hK hP 0 3 rfl rfl (z_inN (by omega) (by omega)) dX12_readFeels_23 ?_
    refine lv_topi (fun x_23 he_x_23 => ?_)
    have hr_x_23 := z_rg hC_g_hasFeels he_x_23 (by omega) (by omega)
    refine lv_if_eq (tgt := 36) hx hb dX12_readFeels_24 (by decide) (fun c_24 => ?_) (fun c_24 => ?_)
    · have b_25 := z_feqT c_24
      refine lv_aload_n hx hb dX12_readFeels_36 rfl (lv_at hl 1 rfl) ?_
      refine va_get (D := G) (ci := 12) (v := .int n_11) (C := RX12) (T := TX12) (N := 65) hx hb hts inT12 hown hK hP 3 rfl rfl 12 (by decide) (hts _ tw_1897) (fun _ h9 => h9) rfl dX12_readFeels_37 ?_
      refine lv_if_le (tgt := 44) hx hb dX12_readFeels_40 (by decide) (fun c_26 => ?_) (fun h9 => (z_no (by have h8 := z_fgtF h9; omega)))
      have b_27 := z_fleT c_26
      have hn_k_28 : 0 ≤ r_13.toInt ∧ r_13.toInt ≤ 2 := by omega
      refine lv_aload_n hx hb dX12_readFeels_44 rfl (lv_at hl 1 rfl) ?_
      refine va_get (D := G) (ci := 12) (v := .ref a_hasFeels) (C := RX12) (T := TX12) (N := 65) hx hb hts inT12 hown hK hP 3 rfl rfl 57 (by decide) (hts _ tw_1940) (fun _ h9 => h9) rfl dX12_readFeels_45 ?_
      refine lv_iload_n hx hb dX12_readFeels_48 rfl (lv_at hl 0 rfl) ?_
      refine lv_iconst (v := 1) hx hb dX12_readFeels_49 (by decide) ?_
      refine z_zast hx hb hK hP hD hS 0 3 rfl rfl (z_inN (by omega) (by omega)) dX12_readFeels_50 (fun g_29 hg_g_29 H locs hP hD hS => ?_)
      have hC_g_29 := z_rgZ hC_g_hasFeels hg_g_29 (Or.inr rfl)
      refine lv_aload_n hx hb dX12_readFeels_51 rfl (lv_at hl 1 rfl) ?_
      refine z_callVv (As := []) (rest := []) (wr := [(a_hasFeels, .inl (cA.1 3, 3, .inl g_29)), (a_isOn, .inl (cA.1 3, 10, .inl g_isOn)), (a_c, .inl (cA.1 0, 1825, .inl g_c)), (a_words, .inl (cA.1 1, 105, .inr (.inl g_words)))]) ⟨hx, hb, hml, hown, hts⟩ hK hE hT hP hD hS hA (r_next2 l G cA h0 m_status m_thrown m_above m_under a_traySort a_trayMany a_numbers a_tape m_taped m_textEnd m_faultKind m_faultAt n_11 n_12 n_1 n_2 n_3 n_4 n_5 n_6 a_c a_words m_markMany a_there a_tried a_best a_found m_thereMany m_foundMany m_orderHow m_orderRing m_orderMany m_hasBest m_bestTop m_bestBy a_weights a_shared m_random m_truePlace m_trueWay m_seconds m_done m_feelings m_tries m_leftOver m_playDoor m_playRing m_isOpen m_isOver m_wasTried m_hasPlayed a_feltNow a_last a_kept m_hasSeconds m_hasTurned m_hasRound a_hasFeels a_isOn m_firstAct m_meanTop m_meanBy a_order m_rowMany m_newSteps g_tape hr_m_textEnd hr_n_2 hr_n_3 hr_n_1 hr_n_4 hr_n_5) lk_RX12_184 ⟨rfl, rfl⟩ ⟨Nat.le_of_ble_eq_true rfl, Nat.le_of_ble_eq_true rfl⟩ 12 rfl rfl rfl [3, 2] [0, 1, 4, 5] rfl rfl (by decide) rfl hl.1 rfl (lv_room (Nat.le_of_ble_eq_true rfl)) dX12_readFeels_52 ⟨Nat.le_of_ble_eq_true rfl, Nat.le_of_ble_eq_true rfl⟩ (fun u_37 H locs hw hP hD hS => ?_)
      obtain ⟨n_30, n_31, n_32, n_33, n_34, n_35⟩ := u_37
      try dsimp only at hw
      obtain ⟨hr_n_30, hr_n_31, hr_n_32, hr_n_33, hr_n_34, hf_38, hf_39⟩ := hw
      refine lv_aload_n hx hb dX12_readFeels_55 rfl (lv_at hl 1 rfl) ?_
      refine va_get (D := G) (ci := 12) (v := .ref a_c) (C := RX12) (T := TX12) (N := 65) hx hb hts inT12 hown hK hP 4 rfl rfl 20 (by decide) (hts _ tw_1905) (fun _ h9 => h9) rfl dX12_readFeels_56 ?_
      refine lv_sipush (v := 1471) hx hb dX12_readFeels_59 (by decide) ?_
      refine lv_iload_n hx hb dX12_readFeels_62 rfl (lv_at hl 0 rfl) ?_
      refine lv_iadd hx hb dX12_readFeels_63 ?_
      refine lv_topi (fun x_40 he_x_40 => ?_)
      have hq_x_40 := z_addq he_x_40 hk_1471 (rfl : r_13.toInt = _) (by omega) (by omega)
      refine va_iald hx hb hK hP 2 0 rfl rfl (z_inN (by omega) (by omega)) dX12_readFeels_64 ?_
      refine lv_topi (fun x_41 he_x_41 => ?_)
      have hr_x_41 := z_ct hC_g_c he_x_41 (a := 1471) (b := 1473) (lo := 0) (hi := 4) (by decide +kernel) (by decide) (by omega) (by omega)
      have hw2_x_41 := (hNW0).1 r_13.toInt.toNat (by omega) (by omega)
      rw [← z_at he_x_41 (a := 1471 + r_13.toInt.toNat) (by omega)] at hw2_x_41
      refine lv_istore_n (lv' := [(2, .int x_41), (1, .int r_13), (0, .ref h0)]) hx hb dX12_readFeels_65 rfl hl (by decide) rfl (fun ls hl => ?_)
      rcases (show x_41.toInt = 2 ∨ x_41.toInt = 3 ∨ x_41.toInt = 4 by omega) with h_42 | h_42 | h_42
      · skip
        refine lv_iconst (v := 0) hx hb dX12_readFeels_66 (by decide) ?_
        refine lv_istore_n (lv' := [(3, .int 0), (2, .int x_41), (1, .int r_13), (0, .ref h0)]) hx hb dX12_readFeels_67 rfl hl (by decide) rfl (fun ls hl => ?_)
        refine lv_iconst (v := 0) hx hb dX12_readFeels_68 (by decide) ?_
        refine lv_istore (lv' := [(4, .int 0), (3, .int 0), (2, .int x_41), (1, .int r_13), (0, .ref h0)]) hx hb dX12_readFeels_69 hl (by decide) rfl (fun ls hl => ?_)
        refine lv_iconst (v := 1) hx hb dX12_readFeels_71 (by decide) ?_
        refine lv_istore (lv' := [(5, .int 1), (4, .int 0), (3, .int 0), (2, .int x_41), (1, .int r_13), (0, .ref h0)]) hx hb dX12_readFeels_72 hl (by decide) rfl (fun ls hl => ?_)
        have hlp_589 : ∀ (n : Nat) (v_351 : Int32) (v_352 : Int32) (v_353 : Int32) (g_354 : Nat → Int32) (v_355 : Int32) (v_356 : Int32) (v_357 : Int32) (v_358 : Int32) (v_359 : Int32) (v_360 : Int64) (H : Heap) (locs : List Loc) (ls : Array Slot), (900 - v_357.toInt + v_353.toInt).toNat < n → (0 ≤ v_351.toInt ∧ v_351.toInt ≤ 16) → (0 ≤ v_352.toInt ∧ v_352.toInt ≤ 256) → (0 ≤ v_353.toInt ∧ v_353.toInt ≤ 1) → (zC g_354) → (0 ≤ v_355.toInt ∧ v_355.toInt ≤ 4) → (0 ≤ v_356.toInt ∧ v_356.toInt ≤ 900) → (0 ≤ v_357.toInt ∧ v_357.toInt ≤ 900) → (0 ≤ v_358.toInt ∧ v_358.toInt ≤ 9999) → (0 ≤ v_359.toInt ∧ v_359.toInt ≤ 900) → (zNw g_354 g_isOn) → (zFl g_c g_354 r_13.toInt x_41.toInt v_351.toInt v_352.toInt) → (v_351.toInt ≤ 4) → (v_352.toInt ≤ 16 * v_351.toInt) → ((g_354 1460).toInt = (g_c 1460).toInt) → (m_behind.toInt ≤ v_357.toInt) → (n_11.toInt ≤ 0 → v_355.toInt = 0 ∨ m_behind.toInt < v_357.toInt) → va_P G vwCl [(a_hasFeels, .inl (cA.1 3, 3, .inl g_29)), (a_isOn, .inl (cA.1 3, 10, .inl g_isOn)), (a_c, .inl (cA.1 0, 1825, .inl g_354)), (a_words, .inl (cA.1 1, 105, .inr (.inl g_words))), (h0, .inr (12, [.int m_status, .int m_thrown, .long m_above, .long m_under, .ref a_traySort, .ref a_trayMany, .ref a_numbers, .ref a_tape, .int m_taped, .int m_textEnd, .int m_faultKind, .int m_faultAt, .int n_11, .int n_12, .int v_355, .int v_356, .int v_357, .int v_358, .int v_359, .long v_360, .ref a_c, .ref a_words, .int m_markMany, .ref a_there, .ref a_tried, .ref a_best, .ref a_found, .int m_thereMany, .int m_foundMany, .int m_orderHow, .int m_orderRing, .int m_orderMany, .int m_hasBest, .long m_bestTop, .long m_bestBy, .ref a_weights, .ref a_shared, .int m_random, .int m_truePlace, .int m_trueWay, .int m_seconds, .int m_done, .int m_feelings, .int m_tries, .int m_leftOver, .int m_playDoor, .int m_playRing, .int m_isOpen, .int m_isOver, .int m_wasTried, .int m_hasPlayed, .ref a_feltNow, .ref a_last, .ref a_kept, .int m_hasSeconds, .int m_hasTurned, .int m_hasRound, .ref a_hasFeels, .ref a_isOn, .int m_firstAct, .long m_meanTop, .long m_meanBy, .ref a_order, .int m_rowMany, .int m_newSteps])), (a_tape, .inl (cA.1 2, 900, .inl g_tape))] H → va_D A [(a_hasFeels, .inl (cA.1 3, 3, .inl g_29)), (a_isOn, .inl (cA.1 3, 10, .inl g_isOn)), (a_c, .inl (cA.1 0, 1825, .inl g_354)), (a_words, .inl (cA.1 1, 105, .inr (.inl g_words))), (h0, .inr (12, [.int m_status, .int m_thrown, .long m_above, .long m_under, .ref a_traySort, .ref a_trayMany, .ref a_numbers, .ref a_tape, .int m_taped, .int m_textEnd, .int m_faultKind, .int m_faultAt, .int n_11, .int n_12, .int v_355, .int v_356, .int v_357, .int v_358, .int v_359, .long v_360, .ref a_c, .ref a_words, .int m_markMany, .ref a_there, .ref a_tried, .ref a_best, .ref a_found, .int m_thereMany, .int m_foundMany, .int m_orderHow, .int m_orderRing, .int m_orderMany, .int m_hasBest, .long m_bestTop, .long m_bestBy, .ref a_weights, .ref a_shared, .int m_random, .int m_truePlace, .int m_trueWay, .int m_seconds, .int m_done, .int m_feelings, .int m_tries, .int m_leftOver, .int m_playDoor, .int m_playRing, .int m_isOpen, .int m_isOver, .int m_wasTried, .int m_hasPlayed, .ref a_feltNow, .ref a_last, .ref a_kept, .int m_hasSeconds, .int m_hasTurned, .int m_hasRound, .ref a_hasFeels, .ref a_isOn, .int m_firstAct, .long m_meanTop, .long m_meanBy, .ref a_order, .int m_rowMany, .int m_newSteps])), (a_tape, .inl (cA.1 2, 900, .inl g_tape))] → va_S A s.heap H locs → lv_has ls 6 [(0, .ref h0), (1, .int r_13), (2, .int x_41), (3, .int v_351), (4, .int v_352), (5, .int v_353)] → W p l e ({ frames := 4, cells := 0, slots := 0, locals := 90 }) s m args below meth c H locs 0 0 Q (F0 m 74 ls []) := by
          intro n
          induction n with
          | zero =>
            intro v_351 v_352 v_353 g_354 v_355 v_356 v_357 v_358 v_359 v_360 H locs ls hmu_hlp_589 hr_v_351 hr_v_352 hr_v_353 hC_g_354 hr_v_355 hr_v_356 hr_v_357 hr_v_358 hr_v_359 hs_582 hi_583 hi_584 hi_585 hi_586 hi_587 hi_588 hP hD hS hl
            exact absurd hmu_hlp_589 (Nat.not_lt_zero _)
          | succ n ih_590 =>
            intro v_351 v_352 v_353 g_354 v_355 v_356 v_357 v_358 v_359 v_360 H locs ls hmu_hlp_589 hr_v_351 hr_v_352 hr_v_353 hC_g_354 hr_v_355 hr_v_356 hr_v_357 hr_v_358 hr_v_359 hs_582 hi_583 hi_584 hi_585 hi_586 hi_587 hi_588 hP hD hS hl
            refine lv_iload hx hb dX12_readFeels_74 (lv_at hl 5 rfl) ?_
            refine lv_if_eq (tgt := 262) hx hb dX12_readFeels_76 (by decide) (fun c_591 => ?_) (fun c_591 => ?_)
            · have b_592 := z_feqT c_591
              refine lv_aload_n hx hb dX12_readFeels_262 rfl (lv_at hl 0 rfl) ?_
              refine va_get (D := G) (ci := 12) (v := .int n_11) (C := RX12) (T := TX12) (N := 65) hx hb hts inT12 hown hK hP 4 rfl rfl 12 (by decide) (hts _ tw_1897) (fun _ h9 => h9) rfl dX12_readFeels_263 ?_
              refine lv_if_ne (tgt := 295) hx hb dX12_readFeels_266 (by decide) (fun h9 => (z_no (by have h8 := z_fneT h9; omega))) (fun c_593 => ?_)
              have b_594 := z_feqF c_593
              refine lv_aload_n hx hb dX12_readFeels_269 rfl (lv_at hl 0 rfl) ?_
              refine lv_bipush (v := 59) hx hb dX12_readFeels_270 (by decide) ?_
              refine z_callVi (As := [.int 59]) (rest := []) (wr := [(a_hasFeels, .inl (cA.1 3, 3, .inl g_29)), (a_isOn, .inl (cA.1 3, 10, .inl g_isOn)), (a_c, .inl (cA.1 0, 1825, .inl g_354)), (a_words, .inl (cA.1 1, 105, .inr (.inl g_words))), (a_tape, .inl (cA.1 2, 900, .inl g_tape))]) ⟨hx, hb, hml, hown, hts⟩ hK hE hT hP hD hS hA (r_isSign l G cA h0 m_status m_thrown m_above m_under a_traySort a_trayMany a_numbers a_tape m_taped m_textEnd m_faultKind m_faultAt n_11 n_12 v_355 v_356 v_357 v_358 v_359 v_360 a_c a_words m_markMany a_there a_tried a_best a_found m_thereMany m_foundMany m_orderHow m_orderRing m_orderMany m_hasBest m_bestTop m_bestBy a_weights a_shared m_random m_truePlace m_trueWay m_seconds m_done m_feelings m_tries m_leftOver m_playDoor m_playRing m_isOpen m_isOver m_wasTried m_hasPlayed a_feltNow a_last a_kept m_hasSeconds m_hasTurned m_hasRound a_hasFeels a_isOn m_firstAct m_meanTop m_meanBy a_order m_rowMany m_newSteps 59 hr_v_355 hr_v_358) lk_RX12_220 ⟨rfl, rfl⟩ ⟨Nat.le_of_ble_eq_true rfl, Nat.le_of_ble_eq_true rfl⟩ 12 rfl rfl rfl [4] [0, 1, 2, 3, 5] rfl rfl (by decide) rfl hl.1 rfl (lv_room (Nat.le_of_ble_eq_true rfl)) dX12_readFeels_272 ⟨Nat.le_of_ble_eq_true rfl, Nat.le_of_ble_eq_true rfl⟩ (fun r_595 u_596 H locs hw hP hD hS => ?_)
              rcases hw with ⟨rfl, hf_597⟩ | ⟨rfl, hf_598⟩
              · skip
                refine lv_if_eq (tgt := 295) hx hb dX12_readFeels_275 (by decide) (fun _ => ?_) (fun h9 => absurd (by decide +kernel) h9)
                have hpost : (0 ≤ n_11.toInt ∧ n_11.toInt ≤ 9) ∧ (0 ≤ v_355.toInt ∧ v_355.toInt ≤ 4) ∧ (0 ≤ v_356.toInt ∧ v_356.toInt ≤ 900) ∧ (0 ≤ v_357.toInt ∧ v_357.toInt ≤ 900) ∧ (0 ≤ v_358.toInt ∧ v_358.toInt ≤ 9999) ∧ (0 ≤ v_359.toInt ∧ v_359.toInt ≤ 900) ∧ (zRg 3 0 1 g_29) ∧ (zC g_354) ∧ (zNw g_354 g_isOn) ∧ (m_behind.toInt ≤ v_357.toInt) ∧ (0 < m_bad.toInt → 0 < n_11.toInt) ∧ (n_11.toInt ≤ 0 → v_355.toInt = 0 ∨ m_behind.toInt < v_357.toInt) ∧ (n_11.toInt ≤ 0 → v_355.toInt = 3 → v_358.toInt = 59 → zNf g_354) := ⟨hr_n_11, hr_v_355, hr_v_356, hr_v_357, hr_v_358, hr_v_359, hC_g_29, hC_g_354, hs_582, (by omega), (by omega), (by omega), (fun h1 h2 h3 => (zFl_end hi_583 hC_g_354.1 hNF0 (by omega) (by omega) (by omega) (by rw [h_42]; omega)))⟩
                exact hret _ _ _ _ _ (n_11, n_12, v_355, v_356, v_357, v_358, v_359, v_360, g_29, g_354) [5, 4, 2, 3, 0, 1] hP hD hS rfl (by decide) dX12_readFeels_295 hpost
              · skip
                refine lv_if_eq (tgt := 295) hx hb dX12_readFeels_275 (by decide) (fun h9 => absurd h9 (by decide +kernel)) (fun _ => ?_)
                refine lv_iload_n hx hb dX12_readFeels_278 rfl (lv_at hl 3 rfl) ?_
                refine lv_iload_n hx hb dX12_readFeels_279 rfl (lv_at hl 2 rfl) ?_
                refine lv_iload_n hx hb dX12_readFeels_280 rfl (lv_at hl 2 rfl) ?_
                refine lv_imul hx hb dX12_readFeels_281 ?_
                refine lv_topi (fun x_599 he_x_599 => ?_)
                have hq_x_599 := z_mulq he_x_599 (by omega : x_41.toInt = 2) (rfl : x_41.toInt = _) (by omega) (by omega)
                refine lv_icmp_ge (tgt := 295) hx hb dX12_readFeels_282 (by decide) (fun c_600 => ?_) (fun c_600 => ?_)
                · have b_601 := z_fgeT c_600
                  have hpost : (0 ≤ n_11.toInt ∧ n_11.toInt ≤ 9) ∧ (0 ≤ v_355.toInt ∧ v_355.toInt ≤ 4) ∧ (0 ≤ v_356.toInt ∧ v_356.toInt ≤ 900) ∧ (0 ≤ v_357.toInt ∧ v_357.toInt ≤ 900) ∧ (0 ≤ v_358.toInt ∧ v_358.toInt ≤ 9999) ∧ (0 ≤ v_359.toInt ∧ v_359.toInt ≤ 900) ∧ (zRg 3 0 1 g_29) ∧ (zC g_354) ∧ (zNw g_354 g_isOn) ∧ (m_behind.toInt ≤ v_357.toInt) ∧ (0 < m_bad.toInt → 0 < n_11.toInt) ∧ (n_11.toInt ≤ 0 → v_355.toInt = 0 ∨ m_behind.toInt < v_357.toInt) ∧ (n_11.toInt ≤ 0 → v_355.toInt = 3 → v_358.toInt = 59 → zNf g_354) := ⟨hr_n_11, hr_v_355, hr_v_356, hr_v_357, hr_v_358, hr_v_359, hC_g_29, hC_g_354, hs_582, (by omega), (by omega), (by omega), (fun h1 h2 h3 => (zFl_end hi_583 hC_g_354.1 hNF0 (by omega) (by omega) (by omega) (by rw [h_42]; omega)))⟩
                  exact hret _ _ _ _ _ (n_11, n_12, v_355, v_356, v_357, v_358, v_359, v_360, g_29, g_354) [5, 4, 2, 3, 0, 1] hP hD hS rfl (by decide) dX12_readFeels_295 hpost
                · have b_602 := z_fltF c_600
                  refine lv_aload_n hx hb dX12_readFeels_285 rfl (lv_at hl 0 rfl) ?_
                  refine lv_bipush (v := 8) hx hb dX12_readFeels_286 (by decide) ?_
                  refine lv_aload_n hx hb dX12_readFeels_288 rfl (lv_at hl 0 rfl) ?_
                  refine va_get (D := G) (ci := 12) (v := .int v_356) (C := RX12) (T := TX12) (N := 65) hx hb hts inT12 hown hK hP 5 rfl rfl 15 (by decide) (hts _ tw_1900) (fun _ h9 => h9) rfl dX12_readFeels_289 ?_
                  refine z_callVv (As := [.int 8, .int v_356]) (rest := []) (wr := [(a_hasFeels, .inl (cA.1 3, 3, .inl g_29)), (a_isOn, .inl (cA.1 3, 10, .inl g_isOn)), (a_c, .inl (cA.1 0, 1825, .inl g_354)), (a_words, .inl (cA.1 1, 105, .inr (.inl g_words))), (a_tape, .inl (cA.1 2, 900, .inl g_tape))]) ⟨hx, hb, hml, hown, hts⟩ hK hE hT hP hD hS hA (r_fail l G cA h0 m_status m_thrown m_above m_under a_traySort a_trayMany a_numbers a_tape m_taped m_textEnd m_faultKind m_faultAt n_11 n_12 v_355 v_356 v_357 v_358 v_359 v_360 a_c a_words m_markMany a_there a_tried a_best a_found m_thereMany m_foundMany m_orderHow m_orderRing m_orderMany m_hasBest m_bestTop m_bestBy a_weights a_shared m_random m_truePlace m_trueWay m_seconds m_done m_feelings m_tries m_leftOver m_playDoor m_playRing m_isOpen m_isOver m_wasTried m_hasPlayed a_feltNow a_last a_kept m_hasSeconds m_hasTurned m_hasRound a_hasFeels a_isOn m_firstAct m_meanTop m_meanBy a_order m_rowMany m_newSteps 8 v_356 (by decide +kernel) hr_n_11) lk_RX12_180 ⟨rfl, rfl⟩ ⟨Nat.le_of_ble_eq_true rfl, Nat.le_of_ble_eq_true rfl⟩ 12 rfl rfl rfl [5] [0, 1, 2, 3, 4] rfl rfl (by decide) rfl hl.1 rfl (lv_room (Nat.le_of_ble_eq_true rfl)) dX12_readFeels_292 ⟨Nat.le_of_ble_eq_true rfl, Nat.le_of_ble_eq_true rfl⟩ (fun u_606 H locs hw hP hD hS => ?_)
                  obtain ⟨n_603, n_604⟩ := u_606
                  try dsimp only at hw
                  obtain ⟨hr_n_603, hf_607⟩ := hw
                  have hpost : (0 ≤ n_603.toInt ∧ n_603.toInt ≤ 9) ∧ (0 ≤ v_355.toInt ∧ v_355.toInt ≤ 4) ∧ (0 ≤ v_356.toInt ∧ v_356.toInt ≤ 900) ∧ (0 ≤ v_357.toInt ∧ v_357.toInt ≤ 900) ∧ (0 ≤ v_358.toInt ∧ v_358.toInt ≤ 9999) ∧ (0 ≤ v_359.toInt ∧ v_359.toInt ≤ 900) ∧ (zRg 3 0 1 g_29) ∧ (zC g_354) ∧ (zNw g_354 g_isOn) ∧ (m_behind.toInt ≤ v_357.toInt) ∧ (0 < m_bad.toInt → 0 < n_603.toInt) ∧ (n_603.toInt ≤ 0 → v_355.toInt = 0 ∨ m_behind.toInt < v_357.toInt) ∧ (n_603.toInt ≤ 0 → v_355.toInt = 3 → v_358.toInt = 59 → zNf g_354) := ⟨(z_rgw hr_n_603 (by decide) (by decide)), hr_v_355, hr_v_356, hr_v_357, hr_v_358, hr_v_359, hC_g_29, hC_g_354, hs_582, (by omega), (by omega), (by omega), (fun h1 h2 h3 => (zFl_end hi_583 hC_g_354.1 hNF0 (by omega) (by omega) (by omega) (by rw [h_42]; omega)))⟩
                  exact hret _ _ _ _ _ (n_603, n_604, v_355, v_356, v_357, v_358, v_359, v_360, g_29, g_354) [5, 4, 2, 3, 0, 1] hP hD hS rfl (by decide) dX12_readFeels_295 hpost
            · have b_608 := z_fneF c_591
              refine lv_aload_n hx hb dX12_readFeels_79 rfl (lv_at hl 0 rfl) ?_
              refine va_get (D := G) (ci := 12) (v := .int n_11) (C := RX12) (T := TX12) (N := 65) hx hb hts inT12 hown hK hP 4 rfl rfl 12 (by decide) (hts _ tw_1897) (fun _ h9 => h9) rfl dX12_readFeels_80 ?_
              refine lv_if_ne (tgt := 262) hx hb dX12_readFeels_83 (by decide) (fun h9 => (z_no (by have h8 := z_fneT h9; omega))) (fun c_609 => ?_)
              have b_610 := z_feqF c_609
              refine lv_aload_n hx hb dX12_readFeels_86 rfl (lv_at hl 0 rfl) ?_
              refine va_get (D := G) (ci := 12) (v := .int v_355) (C := RX12) (T := TX12) (N := 65) hx hb hts inT12 hown hK hP 4 rfl rfl 14 (by decide) (hts _ tw_1899) (fun _ h9 => h9) rfl dX12_readFeels_87 ?_
              refine lv_iconst (v := 2) hx hb dX12_readFeels_90 (by decide) ?_
              refine lv_icmp_eq (tgt := 98) hx hb dX12_readFeels_91 (by decide) (fun c_611 => ?_) (fun c_611 => ?_)
              · have b_612 := z_feqT c_611
                refine lv_aload_n hx hb dX12_readFeels_98 rfl (lv_at hl 0 rfl) ?_
                refine va_get (D := G) (ci := 12) (v := .int n_11) (C := RX12) (T := TX12) (N := 65) hx hb hts inT12 hown hK hP 4 rfl rfl 12 (by decide) (hts _ tw_1897) (fun _ h9 => h9) rfl dX12_readFeels_99 ?_
                refine lv_if_ne (tgt := 123) hx hb dX12_readFeels_102 (by decide) (fun h9 => (z_no (by have h8 := z_fneT h9; omega))) (fun c_613 => ?_)
                have b_614 := z_feqF c_613
                refine lv_aload_n hx hb dX12_readFeels_105 rfl (lv_at hl 0 rfl) ?_
                refine va_get (D := G) (ci := 12) (v := .int v_358) (C := RX12) (T := TX12) (N := 65) hx hb hts inT12 hown hK hP 4 rfl rfl 17 (by decide) (hts _ tw_1902) (fun _ h9 => h9) rfl dX12_readFeels_106 ?_
                refine lv_bipush (v := 16) hx hb dX12_readFeels_109 (by decide) ?_
                refine lv_icmp_le (tgt := 123) hx hb dX12_readFeels_111 (by decide) (fun c_615 => ?_) (fun c_615 => ?_)
                · have b_616 := z_fleT c_615
                  refine lv_aload_n hx hb dX12_readFeels_123 rfl (lv_at hl 0 rfl) ?_
                  refine va_get (D := G) (ci := 12) (v := .int n_11) (C := RX12) (T := TX12) (N := 65) hx hb hts inT12 hown hK hP 4 rfl rfl 12 (by decide) (hts _ tw_1897) (fun _ h9 => h9) rfl dX12_readFeels_124 ?_
                  refine lv_if_ne (tgt := 147) hx hb dX12_readFeels_127 (by decide) (fun h9 => (z_no (by have h8 := z_fneT h9; omega))) (fun c_617 => ?_)
                  have b_618 := z_feqF c_617
                  refine lv_iload_n hx hb dX12_readFeels_130 rfl (lv_at hl 3 rfl) ?_
                  refine lv_iload_n hx hb dX12_readFeels_131 rfl (lv_at hl 2 rfl) ?_
                  refine lv_iload_n hx hb dX12_readFeels_132 rfl (lv_at hl 2 rfl) ?_
                  refine lv_imul hx hb dX12_readFeels_133 ?_
                  refine lv_topi (fun x_619 he_x_619 => ?_)
                  have hq_x_619 := z_mulq he_x_619 (by omega : x_41.toInt = 2) (rfl : x_41.toInt = _) (by omega) (by omega)
                  refine lv_icmp_ne (tgt := 147) hx hb dX12_readFeels_134 (by decide) (fun c_620 => ?_) (fun c_620 => ?_)
                  · have b_621 := z_fneT c_620
                    refine lv_iload_n hx hb dX12_readFeels_147 rfl (lv_at hl 3 rfl) ?_
                    refine lv_iload_n hx hb dX12_readFeels_148 rfl (lv_at hl 2 rfl) ?_
                    refine lv_irem hx hb dX12_readFeels_149 (z_nz (by omega)) ?_
                    refine lv_topi (fun x_622 he_x_622 => ?_)
                    have hq_x_622 := z_remq he_x_622 (rfl : v_351.toInt = _) (by omega : x_41.toInt = 2) (by omega) (by decide)
                    refine lv_if_ne (tgt := 160) hx hb dX12_readFeels_150 (by decide) (fun c_623 => ?_) (fun c_623 => ?_)
                    · have b_624 := z_fneT c_623
                      refine lv_iload hx hb dX12_readFeels_160 (lv_at hl 4 rfl) ?_
                      refine lv_aload_n hx hb dX12_readFeels_162 rfl (lv_at hl 0 rfl) ?_
                      refine va_get (D := G) (ci := 12) (v := .int v_358) (C := RX12) (T := TX12) (N := 65) hx hb hts inT12 hown hK hP 4 rfl rfl 17 (by decide) (hts _ tw_1902) (fun _ h9 => h9) rfl dX12_readFeels_163 ?_
                      refine lv_iadd hx hb dX12_readFeels_166 ?_
                      refine lv_topi (fun x_625 he_x_625 => ?_)
                      have hq_x_625 := z_addq he_x_625 (rfl : v_352.toInt = _) (rfl : v_358.toInt = _) (by omega) (by omega)
                      refine lv_istore (lv' := [(4, .int x_625), (0, .ref h0), (1, .int r_13), (2, .int x_41), (3, .int v_351), (5, .int v_353)]) hx hb dX12_readFeels_167 hl (by decide) rfl (fun ls hl => ?_)
                      refine lv_aload_n hx hb dX12_readFeels_169 rfl (lv_at hl 1 rfl) ?_
                      refine va_get (D := G) (ci := 12) (v := .int n_11) (C := RX12) (T := TX12) (N := 65) hx hb hts inT12 hown hK hP 4 rfl rfl 12 (by decide) (hts _ tw_1897) (fun _ h9 => h9) rfl dX12_readFeels_170 ?_
                      refine lv_if_ne (tgt := 202) hx hb dX12_readFeels_173 (by decide) (fun h9 => (z_no (by have h8 := z_fneT h9; omega))) (fun c_626 => ?_)
                      have b_627 := z_feqF c_626
                      refine lv_iload_n hx hb dX12_readFeels_176 rfl (lv_at hl 4 rfl) ?_
                      refine lv_iload_n hx hb dX12_readFeels_177 rfl (lv_at hl 3 rfl) ?_
                      refine lv_irem hx hb dX12_readFeels_178 (z_nz (by omega)) ?_
                      refine lv_topi (fun x_628 he_x_628 => ?_)
                      have hq_x_628 := z_remq he_x_628 (rfl : v_351.toInt = _) (by omega : x_41.toInt = 2) (by omega) (by decide)
                      refine lv_iload_n hx hb dX12_readFeels_179 rfl (lv_at hl 3 rfl) ?_
                      refine lv_iconst (v := 1) hx hb dX12_readFeels_180 (by decide) ?_
                      refine lv_isub hx hb dX12_readFeels_181 ?_
                      refine lv_topi (fun x_629 he_x_629 => ?_)
                      have hq_x_629 := z_subq he_x_629 (rfl : x_41.toInt = _) hk_1 (by omega) (by omega)
                      refine lv_icmp_ne (tgt := 202) hx hb dX12_readFeels_182 (by decide) (fun c_630 => ?_) (fun c_630 => ?_)
                      · have b_631 := z_fneT c_630
                        refine lv_aload_n hx hb dX12_readFeels_202 rfl (lv_at hl 1 rfl) ?_
                        refine va_get (D := G) (ci := 12) (v := .int n_11) (C := RX12) (T := TX12) (N := 65) hx hb hts inT12 hown hK hP 4 rfl rfl 12 (by decide) (hts _ tw_1897) (fun _ h9 => h9) rfl dX12_readFeels_203 ?_
                        refine lv_if_le (tgt := 210) hx hb dX12_readFeels_206 (by decide) (fun c_632 => ?_) (fun h9 => (z_no (by have h8 := z_fgtF h9; omega)))
                        have b_633 := z_fleT c_632
                        have hn_k_634 : 0 ≤ v_351.toInt ∧ v_351.toInt ≤ 3 := by omega
                        refine lv_aload_n hx hb dX12_readFeels_210 rfl (lv_at hl 1 rfl) ?_
                        refine va_get (D := G) (ci := 12) (v := .ref a_c) (C := RX12) (T := TX12) (N := 65) hx hb hts inT12 hown hK hP 4 rfl rfl 20 (by decide) (hts _ tw_1905) (fun _ h9 => h9) rfl dX12_readFeels_211 ?_
                        refine lv_sipush (v := 1477) hx hb dX12_readFeels_214 (by decide) ?_
                        refine lv_bipush (v := 16) hx hb dX12_readFeels_217 (by decide) ?_
                        refine lv_iload_n hx hb dX12_readFeels_219 rfl (lv_at hl 2 rfl) ?_
                        refine lv_imul hx hb dX12_readFeels_220 ?_
                        refine lv_topi (fun x_635 he_x_635 => ?_)
                        have hq_x_635 := z_mulq he_x_635 hk_16 (rfl : r_13.toInt = _) (by omega) (by omega)
                        refine lv_iadd hx hb dX12_readFeels_221 ?_
                        refine lv_topi (fun x_636 he_x_636 => ?_)
                        have hq_x_636 := z_addq he_x_636 hk_1477 (rfl : x_635.toInt = _) (by omega) (by omega)
                        refine lv_iconst (v := 4) hx hb dX12_readFeels_222 (by decide) ?_
                        refine lv_iload_n hx hb dX12_readFeels_223 rfl (lv_at hl 4 rfl) ?_
                        refine lv_iload_n hx hb dX12_readFeels_224 rfl (lv_at hl 3 rfl) ?_
                        refine lv_idiv hx hb dX12_readFeels_225 (z_nz (by omega)) ?_
                        refine lv_topi (fun x_637 he_x_637 => ?_)
                        have hq_x_637 := z_divq he_x_637 (rfl : v_351.toInt = _) (by omega : x_41.toInt = 2) (by omega) (by decide)
                        refine lv_imul hx hb dX12_readFeels_226 ?_
                        refine lv_topi (fun x_638 he_x_638 => ?_)
                        have hq_x_638 := z_mulq he_x_638 hk_4 (rfl : x_637.toInt = _) (by omega) (by omega)
                        refine lv_iadd hx hb dX12_readFeels_227 ?_
                        refine lv_topi (fun x_639 he_x_639 => ?_)
                        have hq_x_639 := z_addq he_x_639 (rfl : x_636.toInt = _) (rfl : x_638.toInt = _) (by omega) (by omega)
                        refine lv_iload_n hx hb dX12_readFeels_228 rfl (lv_at hl 4 rfl) ?_
                        refine lv_iload_n hx hb dX12_readFeels_229 rfl (lv_at hl 3 rfl) ?_
                        refine lv_irem hx hb dX12_readFeels_230 (z_nz (by omega)) ?_
                        refine lv_topi (fun x_640 he_x_640 => ?_)
                        have hq_x_640 := z_remq he_x_640 (rfl : v_351.toInt = _) (by omega : x_41.toInt = 2) (by omega) (by decide)
                        refine lv_iadd hx hb dX12_readFeels_231 ?_
                        refine lv_topi (fun x_641 he_x_641 => ?_)
                        have hq_x_641 := z_addq he_x_641 (rfl : x_639.toInt = _) (rfl : x_640.toInt = _) (by omega) (by omega)
                        refine lv_aload_n hx hb dX12_readFeels_232 rfl (lv_at hl 1 rfl) ?_
                        refine va_get (D := G) (ci := 12) (v := .int v_358) (C := RX12) (T := TX12) (N := 65) hx hb hts inT12 hown hK hP 4 rfl rfl 17 (by decide) (hts _ tw_1902) (fun _ h9 => h9) rfl dX12_readFeels_233 ?_
                        refine z_iast hx hb hK hP hD hS 2 0 rfl rfl (z_inN (by omega) (by omega)) dX12_readFeels_236 (fun g_642 hg_g_642 H locs hP hD hS => ?_)
                        have hC_g_642 := z_ctU hC_g_354 hg_g_642 (a := 1477) (b := 1514) (lo := 0) (hi := 16) (by decide +kernel) (by decide +kernel) (by omega) (by omega) (by omega)
                        have hw_g_642_1460 := z_cwo hg_g_642 (k := 1460) (by omega) (by omega)
                        have hs_643 : zNw g_642 g_isOn := (zNw_fr hs_582 hg_g_642 (a := 1477) (b := 1514) (by decide +kernel) (by omega) (by omega))
                        obtain ⟨x_644, he_x_644⟩ : ∃ z : Int32, z = v_351 + 1 := ⟨_, rfl⟩
                        have hq_x_644 := z_addq he_x_644 (rfl : v_351.toInt = _) hk_1 (by omega) (by omega)
                        refine lv_iinc (v := x_644) (lv' := [(3, .int x_644), (4, .int x_625), (0, .ref h0), (1, .int r_13), (2, .int x_41), (5, .int v_353)]) hx hb dX12_readFeels_237 hl (k := 4) rfl ((z_ofi (by decide +kernel)).trans he_x_644.symm) (by decide) rfl (fun ls hl => ?_)
                        refine lv_aload_n hx hb dX12_readFeels_240 rfl (lv_at hl 2 rfl) ?_
                        refine z_callVv (As := []) (rest := []) (wr := [(a_hasFeels, .inl (cA.1 3, 3, .inl g_29)), (a_isOn, .inl (cA.1 3, 10, .inl g_isOn)), (a_c, .inl (cA.1 0, 1825, .inl g_642)), (a_words, .inl (cA.1 1, 105, .inr (.inl g_words)))]) ⟨hx, hb, hml, hown, hts⟩ hK hE hT hP hD hS hA (r_next2 l G cA h0 m_status m_thrown m_above m_under a_traySort a_trayMany a_numbers a_tape m_taped m_textEnd m_faultKind m_faultAt n_11 n_12 v_355 v_356 v_357 v_358 v_359 v_360 a_c a_words m_markMany a_there a_tried a_best a_found m_thereMany m_foundMany m_orderHow m_orderRing m_orderMany m_hasBest m_bestTop m_bestBy a_weights a_shared m_random m_truePlace m_trueWay m_seconds m_done m_feelings m_tries m_leftOver m_playDoor m_playRing m_isOpen m_isOver m_wasTried m_hasPlayed a_feltNow a_last a_kept m_hasSeconds m_hasTurned m_hasRound a_hasFeels a_isOn m_firstAct m_meanTop m_meanBy a_order m_rowMany m_newSteps g_tape hr_m_textEnd hr_v_356 hr_v_357 hr_v_355 hr_v_358 hr_v_359) lk_RX12_184 ⟨rfl, rfl⟩ ⟨Nat.le_of_ble_eq_true rfl, Nat.le_of_ble_eq_true rfl⟩ 12 rfl rfl rfl [4, 5] [0, 1, 2, 3] rfl rfl (by decide) rfl hl.1 rfl (lv_room (Nat.le_of_ble_eq_true rfl)) dX12_readFeels_241 ⟨Nat.le_of_ble_eq_true rfl, Nat.le_of_ble_eq_true rfl⟩ (fun u_652 H locs hw hP hD hS => ?_)
                        obtain ⟨n_645, n_646, n_647, n_648, n_649, n_650⟩ := u_652
                        try dsimp only at hw
                        obtain ⟨hr_n_645, hr_n_646, hr_n_647, hr_n_648, hr_n_649, hf_653, hf_654⟩ := hw
                        refine lv_aload_n hx hb dX12_readFeels_244 rfl (lv_at hl 2 rfl) ?_
                        refine va_get (D := G) (ci := 12) (v := .int n_645) (C := RX12) (T := TX12) (N := 65) hx hb hts inT12 hown hK hP 4 rfl rfl 14 (by decide) (hts _ tw_1899) (fun _ h9 => h9) rfl dX12_readFeels_245 ?_
                        refine lv_iconst (v := 2) hx hb dX12_readFeels_248 (by decide) ?_
                        refine lv_icmp_ne (tgt := 256) hx hb dX12_readFeels_249 (by decide) (fun c_655 => ?_) (fun c_655 => ?_)
                        · have b_656 := z_fneT c_655
                          refine lv_iconst (v := 0) hx hb dX12_readFeels_256 (by decide) ?_
                          refine lv_istore (lv' := [(5, .int 0), (3, .int x_644), (4, .int x_625), (0, .ref h0), (1, .int r_13), (2, .int x_41)]) hx hb dX12_readFeels_257 hl (by decide) rfl (fun ls hl => ?_)
                          refine lv_goto (tgt := 74) hx hb dX12_readFeels_259 (by decide) ?_
                          exact ih_590 x_644 x_625 0 g_642 n_645 n_646 n_647 n_648 n_649 n_650 H locs ls (by omega) (by omega) (by omega) (by decide +kernel) hC_g_642 hr_n_645 hr_n_646 hr_n_647 hr_n_648 hr_n_649 hs_643 (by rw [hq_x_644]; exact zFl_step hi_583 hg_g_642 (by omega) (by omega) (by omega) (r := x_637.toInt) (c := x_640.toInt) (by rw [h_42]; omega) (by omega) (by omega) (by omega) (by omega) (by omega) (by omega) (by omega)) (by omega) (by omega) (by omega) (by omega) (by omega) hP hD hS (lv_sub hl [3, 4, 5, 1, 2, 0] rfl)
                        · have b_657 := z_feqF c_655
                          refine lv_iconst (v := 1) hx hb dX12_readFeels_252 (by decide) ?_
                          refine lv_goto (tgt := 257) hx hb dX12_readFeels_253 (by decide) ?_
                          refine lv_istore (lv' := [(5, .int 1), (3, .int x_644), (4, .int x_625), (0, .ref h0), (1, .int r_13), (2, .int x_41)]) hx hb dX12_readFeels_257 hl (by decide) rfl (fun ls hl => ?_)
                          refine lv_goto (tgt := 74) hx hb dX12_readFeels_259 (by decide) ?_
                          exact ih_590 x_644 x_625 1 g_642 n_645 n_646 n_647 n_648 n_649 n_650 H locs ls (by omega) (by omega) (by omega) (by decide +kernel) hC_g_642 hr_n_645 hr_n_646 hr_n_647 hr_n_648 hr_n_649 hs_643 (by rw [hq_x_644]; exact zFl_step hi_583 hg_g_642 (by omega) (by omega) (by omega) (r := x_637.toInt) (c := x_640.toInt) (by rw [h_42]; omega) (by omega) (by omega) (by omega) (by omega) (by omega) (by omega) (by omega)) (by omega) (by omega) (by omega) (by omega) (by omega) hP hD hS (lv_sub hl [3, 4, 5, 1, 2, 0] rfl)
                      · have b_658 := z_feqF c_630
                        refine lv_iload hx hb dX12_readFeels_185 (lv_at hl 0 rfl) ?_
                        refine lv_bipush (v := 16) hx hb dX12_readFeels_187 (by decide) ?_
                        refine lv_icmp_eq (tgt := 202) hx hb dX12_readFeels_189 (by decide) (fun c_659 => ?_) (fun c_659 => ?_)
                        · have b_660 := z_feqT c_659
                          refine lv_aload_n hx hb dX12_readFeels_202 rfl (lv_at hl 1 rfl) ?_
                          refine va_get (D := G) (ci := 12) (v := .int n_11) (C := RX12) (T := TX12) (N := 65) hx hb hts inT12 hown hK hP 4 rfl rfl 12 (by decide) (hts _ tw_1897) (fun _ h9 => h9) rfl dX12_readFeels_203 ?_
                          refine lv_if_le (tgt := 210) hx hb dX12_readFeels_206 (by decide) (fun c_661 => ?_) (fun h9 => (z_no (by have h8 := z_fgtF h9; omega)))
                          have b_662 := z_fleT c_661
                          have hn_k_663 : 0 ≤ v_351.toInt ∧ v_351.toInt ≤ 3 := by omega
                          refine lv_aload_n hx hb dX12_readFeels_210 rfl (lv_at hl 1 rfl) ?_
                          refine va_get (D := G) (ci := 12) (v := .ref a_c) (C := RX12) (T := TX12) (N := 65) hx hb hts inT12 hown hK hP 4 rfl rfl 20 (by decide) (hts _ tw_1905) (fun _ h9 => h9) rfl dX12_readFeels_211 ?_
                          refine lv_sipush (v := 1477) hx hb dX12_readFeels_214 (by decide) ?_
                          refine lv_bipush (v := 16) hx hb dX12_readFeels_217 (by decide) ?_
                          refine lv_iload_n hx hb dX12_readFeels_219 rfl (lv_at hl 2 rfl) ?_
                          refine lv_imul hx hb dX12_readFeels_220 ?_
                          refine lv_topi (fun x_664 he_x_664 => ?_)
                          have hq_x_664 := z_mulq he_x_664 hk_16 (rfl : r_13.toInt = _) (by omega) (by omega)
                          refine lv_iadd hx hb dX12_readFeels_221 ?_
                          refine lv_topi (fun x_665 he_x_665 => ?_)
                          have hq_x_665 := z_addq he_x_665 hk_1477 (rfl : x_664.toInt = _) (by omega) (by omega)
                          refine lv_iconst (v := 4) hx hb dX12_readFeels_222 (by decide) ?_
                          refine lv_iload_n hx hb dX12_readFeels_223 rfl (lv_at hl 4 rfl) ?_
                          refine lv_iload_n hx hb dX12_readFeels_224 rfl (lv_at hl 3 rfl) ?_
                          refine lv_idiv hx hb dX12_readFeels_225 (z_nz (by omega)) ?_
                          refine lv_topi (fun x_666 he_x_666 => ?_)
                          have hq_x_666 := z_divq he_x_666 (rfl : v_351.toInt = _) (by omega : x_41.toInt = 2) (by omega) (by decide)
                          refine lv_imul hx hb dX12_readFeels_226 ?_
                          refine lv_topi (fun x_667 he_x_667 => ?_)
                          have hq_x_667 := z_mulq he_x_667 hk_4 (rfl : x_666.toInt = _) (by omega) (by omega)
                          refine lv_iadd hx hb dX12_readFeels_227 ?_
                          refine lv_topi (fun x_668 he_x_668 => ?_)
                          have hq_x_668 := z_addq he_x_668 (rfl : x_665.toInt = _) (rfl : x_667.toInt = _) (by omega) (by omega)
                          refine lv_iload_n hx hb dX12_readFeels_228 rfl (lv_at hl 4 rfl) ?_
                          refine lv_iload_n hx hb dX12_readFeels_229 rfl (lv_at hl 3 rfl) ?_
                          refine lv_irem hx hb dX12_readFeels_230 (z_nz (by omega)) ?_
                          refine lv_topi (fun x_669 he_x_669 => ?_)
                          have hq_x_669 := z_remq he_x_669 (rfl : v_351.toInt = _) (by omega : x_41.toInt = 2) (by omega) (by decide)
                          refine lv_iadd hx hb dX12_readFeels_231 ?_
                          refine lv_topi (fun x_670 he_x_670 => ?_)
                          have hq_x_670 := z_addq he_x_670 (rfl : x_668.toInt = _) (rfl : x_669.toInt = _) (by omega) (by omega)
                          refine lv_aload_n hx hb dX12_readFeels_232 rfl (lv_at hl 1 rfl) ?_
                          refine va_get (D := G) (ci := 12) (v := .int v_358) (C := RX12) (T := TX12) (N := 65) hx hb hts inT12 hown hK hP 4 rfl rfl 17 (by decide) (hts _ tw_1902) (fun _ h9 => h9) rfl dX12_readFeels_233 ?_
                          refine z_iast hx hb hK hP hD hS 2 0 rfl rfl (z_inN (by omega) (by omega)) dX12_readFeels_236 (fun g_671 hg_g_671 H locs hP hD hS => ?_)
                          have hC_g_671 := z_ctU hC_g_354 hg_g_671 (a := 1477) (b := 1514) (lo := 0) (hi := 16) (by decide +kernel) (by decide +kernel) (by omega) (by omega) (by omega)
                          have hw_g_671_1460 := z_cwo hg_g_671 (k := 1460) (by omega) (by omega)
                          have hs_672 : zNw g_671 g_isOn := (zNw_fr hs_582 hg_g_671 (a := 1477) (b := 1514) (by decide +kernel) (by omega) (by omega))
                          obtain ⟨x_673, he_x_673⟩ : ∃ z : Int32, z = v_351 + 1 := ⟨_, rfl⟩
                          have hq_x_673 := z_addq he_x_673 (rfl : v_351.toInt = _) hk_1 (by omega) (by omega)
                          refine lv_iinc (v := x_673) (lv' := [(3, .int x_673), (4, .int x_625), (0, .ref h0), (1, .int r_13), (2, .int x_41), (5, .int v_353)]) hx hb dX12_readFeels_237 hl (k := 4) rfl ((z_ofi (by decide +kernel)).trans he_x_673.symm) (by decide) rfl (fun ls hl => ?_)
                          refine lv_aload_n hx hb dX12_readFeels_240 rfl (lv_at hl 2 rfl) ?_
                          refine z_callVv (As := []) (rest := []) (wr := [(a_hasFeels, .inl (cA.1 3, 3, .inl g_29)), (a_isOn, .inl (cA.1 3, 10, .inl g_isOn)), (a_c, .inl (cA.1 0, 1825, .inl g_671)), (a_words, .inl (cA.1 1, 105, .inr (.inl g_words)))]) ⟨hx, hb, hml, hown, hts⟩ hK hE hT hP hD hS hA (r_next2 l G cA h0 m_status m_thrown m_above m_under a_traySort a_trayMany a_numbers a_tape m_taped m_textEnd m_faultKind m_faultAt n_11 n_12 v_355 v_356 v_357 v_358 v_359 v_360 a_c a_words m_markMany a_there a_tried a_best a_found m_thereMany m_foundMany m_orderHow m_orderRing m_orderMany m_hasBest m_bestTop m_bestBy a_weights a_shared m_random m_truePlace m_trueWay m_seconds m_done m_feelings m_tries m_leftOver m_playDoor m_playRing m_isOpen m_isOver m_wasTried m_hasPlayed a_feltNow a_last a_kept m_hasSeconds m_hasTurned m_hasRound a_hasFeels a_isOn m_firstAct m_meanTop m_meanBy a_order m_rowMany m_newSteps g_tape hr_m_textEnd hr_v_356 hr_v_357 hr_v_355 hr_v_358 hr_v_359) lk_RX12_184 ⟨rfl, rfl⟩ ⟨Nat.le_of_ble_eq_true rfl, Nat.le_of_ble_eq_true rfl⟩ 12 rfl rfl rfl [4, 5] [0, 1, 2, 3] rfl rfl (by decide) rfl hl.1 rfl (lv_room (Nat.le_of_ble_eq_true rfl)) dX12_readFeels_241 ⟨Nat.le_of_ble_eq_true rfl, Nat.le_of_ble_eq_true rfl⟩ (fun u_681 H locs hw hP hD hS => ?_)
                          obtain ⟨n_674, n_675, n_676, n_677, n_678, n_679⟩ := u_681
                          try dsimp only at hw
                          obtain ⟨hr_n_674, hr_n_675, hr_n_676, hr_n_677, hr_n_678, hf_682, hf_683⟩ := hw
                          refine lv_aload_n hx hb dX12_readFeels_244 rfl (lv_at hl 2 rfl) ?_
                          refine va_get (D := G) (ci := 12) (v := .int n_674) (C := RX12) (T := TX12) (N := 65) hx hb hts inT12 hown hK hP 4 rfl rfl 14 (by decide) (hts _ tw_1899) (fun _ h9 => h9) rfl dX12_readFeels_245 ?_
                          refine lv_iconst (v := 2) hx hb dX12_readFeels_248 (by decide) ?_
                          refine lv_icmp_ne (tgt := 256) hx hb dX12_readFeels_249 (by decide) (fun c_684 => ?_) (fun c_684 => ?_)
                          · have b_685 := z_fneT c_684
                            refine lv_iconst (v := 0) hx hb dX12_readFeels_256 (by decide) ?_
                            refine lv_istore (lv' := [(5, .int 0), (3, .int x_673), (4, .int x_625), (0, .ref h0), (1, .int r_13), (2, .int x_41)]) hx hb dX12_readFeels_257 hl (by decide) rfl (fun ls hl => ?_)
                            refine lv_goto (tgt := 74) hx hb dX12_readFeels_259 (by decide) ?_
                            exact ih_590 x_673 x_625 0 g_671 n_674 n_675 n_676 n_677 n_678 n_679 H locs ls (by omega) (by omega) (by omega) (by decide +kernel) hC_g_671 hr_n_674 hr_n_675 hr_n_676 hr_n_677 hr_n_678 hs_672 (by rw [hq_x_673]; exact zFl_step hi_583 hg_g_671 (by omega) (by omega) (by omega) (r := x_666.toInt) (c := x_669.toInt) (by rw [h_42]; omega) (by omega) (by omega) (by omega) (by omega) (by omega) (by omega) (by omega)) (by omega) (by omega) (by omega) (by omega) (by omega) hP hD hS (lv_sub hl [3, 4, 5, 1, 2, 0] rfl)
                          · have b_686 := z_feqF c_684
                            refine lv_iconst (v := 1) hx hb dX12_readFeels_252 (by decide) ?_
                            refine lv_goto (tgt := 257) hx hb dX12_readFeels_253 (by decide) ?_
                            refine lv_istore (lv' := [(5, .int 1), (3, .int x_673), (4, .int x_625), (0, .ref h0), (1, .int r_13), (2, .int x_41)]) hx hb dX12_readFeels_257 hl (by decide) rfl (fun ls hl => ?_)
                            refine lv_goto (tgt := 74) hx hb dX12_readFeels_259 (by decide) ?_
                            exact ih_590 x_673 x_625 1 g_671 n_674 n_675 n_676 n_677 n_678 n_679 H locs ls (by omega) (by omega) (by omega) (by decide +kernel) hC_g_671 hr_n_674 hr_n_675 hr_n_676 hr_n_677 hr_n_678 hs_672 (by rw [hq_x_673]; exact zFl_step hi_583 hg_g_671 (by omega) (by omega) (by omega) (r := x_666.toInt) (c := x_669.toInt) (by rw [h_42]; omega) (by omega) (by omega) (by omega) (by omega) (by omega) (by omega) (by omega)) (by omega) (by omega) (by omega) (by omega) (by omega) hP hD hS (lv_sub hl [3, 4, 5, 1, 2, 0] rfl)
                        · have b_687 := z_fneF c_659
                          refine lv_aload_n hx hb dX12_readFeels_192 rfl (lv_at hl 1 rfl) ?_
                          refine lv_bipush (v := 9) hx hb dX12_readFeels_193 (by decide) ?_
                          refine lv_aload_n hx hb dX12_readFeels_195 rfl (lv_at hl 1 rfl) ?_
                          refine va_get (D := G) (ci := 12) (v := .int v_356) (C := RX12) (T := TX12) (N := 65) hx hb hts inT12 hown hK hP 4 rfl rfl 15 (by decide) (hts _ tw_1900) (fun _ h9 => h9) rfl dX12_readFeels_196 ?_
                          refine z_callVv (As := [.int 9, .int v_356]) (rest := []) (wr := [(a_hasFeels, .inl (cA.1 3, 3, .inl g_29)), (a_isOn, .inl (cA.1 3, 10, .inl g_isOn)), (a_c, .inl (cA.1 0, 1825, .inl g_354)), (a_words, .inl (cA.1 1, 105, .inr (.inl g_words))), (a_tape, .inl (cA.1 2, 900, .inl g_tape))]) ⟨hx, hb, hml, hown, hts⟩ hK hE hT hP hD hS hA (r_fail l G cA h0 m_status m_thrown m_above m_under a_traySort a_trayMany a_numbers a_tape m_taped m_textEnd m_faultKind m_faultAt n_11 n_12 v_355 v_356 v_357 v_358 v_359 v_360 a_c a_words m_markMany a_there a_tried a_best a_found m_thereMany m_foundMany m_orderHow m_orderRing m_orderMany m_hasBest m_bestTop m_bestBy a_weights a_shared m_random m_truePlace m_trueWay m_seconds m_done m_feelings m_tries m_leftOver m_playDoor m_playRing m_isOpen m_isOver m_wasTried m_hasPlayed a_feltNow a_last a_kept m_hasSeconds m_hasTurned m_hasRound a_hasFeels a_isOn m_firstAct m_meanTop m_meanBy a_order m_rowMany m_newSteps 9 v_356 (by decide +kernel) hr_n_11) lk_RX12_180 ⟨rfl, rfl⟩ ⟨Nat.le_of_ble_eq_true rfl, Nat.le_of_ble_eq_true rfl⟩ 12 rfl rfl rfl [4] [0, 1, 2, 3, 5] rfl rfl (by decide) rfl hl.1 rfl (lv_room (Nat.le_of_ble_eq_true rfl)) dX12_readFeels_199 ⟨Nat.le_of_ble_eq_true rfl, Nat.le_of_ble_eq_true rfl⟩ (fun u_691 H locs hw hP hD hS => ?_)
                          obtain ⟨n_688, n_689⟩ := u_691
                          try dsimp only at hw
                          obtain ⟨hr_n_688, hf_692⟩ := hw
                          refine lv_aload_n hx hb dX12_readFeels_202 rfl (lv_at hl 1 rfl) ?_
                          refine va_get (D := G) (ci := 12) (v := .int n_688) (C := RX12) (T := TX12) (N := 65) hx hb hts inT12 hown hK hP 5 rfl rfl 12 (by decide) (hts _ tw_1897) (fun _ h9 => h9) rfl dX12_readFeels_203 ?_
                          refine lv_if_le (tgt := 210) hx hb dX12_readFeels_206 (by decide) (fun h9 => (z_no (by have h8 := z_fleT h9; omega))) (fun c_693 => ?_)
                          have b_694 := z_fgtF c_693
                          have hpost : (0 ≤ n_688.toInt ∧ n_688.toInt ≤ 9) ∧ (0 ≤ v_355.toInt ∧ v_355.toInt ≤ 4) ∧ (0 ≤ v_356.toInt ∧ v_356.toInt ≤ 900) ∧ (0 ≤ v_357.toInt ∧ v_357.toInt ≤ 900) ∧ (0 ≤ v_358.toInt ∧ v_358.toInt ≤ 9999) ∧ (0 ≤ v_359.toInt ∧ v_359.toInt ≤ 900) ∧ (zRg 3 0 1 g_29) ∧ (zC g_354) ∧ (zNw g_354 g_isOn) ∧ (m_behind.toInt ≤ v_357.toInt) ∧ (0 < m_bad.toInt → 0 < n_688.toInt) ∧ (n_688.toInt ≤ 0 → v_355.toInt = 0 ∨ m_behind.toInt < v_357.toInt) ∧ (n_688.toInt ≤ 0 → v_355.toInt = 3 → v_358.toInt = 59 → zNf g_354) := ⟨(z_rgw hr_n_688 (by decide) (by decide)), hr_v_355, hr_v_356, hr_v_357, hr_v_358, hr_v_359, hC_g_29, hC_g_354, hs_582, (by omega), (by omega), (by omega), (fun h1 h2 h3 => z_no (by omega))⟩
                          exact hret _ _ _ _ _ (n_688, n_689, v_355, v_356, v_357, v_358, v_359, v_360, g_29, g_354) [5, 4, 2, 3, 0, 1] hP hD hS rfl (by decide) dX12_readFeels_209 hpost
                    · have b_695 := z_feqF c_623
                      refine lv_aload_n hx hb dX12_readFeels_153 rfl (lv_at hl 0 rfl) ?_
                      refine va_get (D := G) (ci := 12) (v := .int v_358) (C := RX12) (T := TX12) (N := 65) hx hb hts inT12 hown hK hP 4 rfl rfl 17 (by decide) (hts _ tw_1902) (fun _ h9 => h9) rfl dX12_readFeels_154 ?_
                      refine lv_goto (tgt := 167) hx hb dX12_readFeels_157 (by decide) ?_
                      refine lv_istore (lv' := [(4, .int v_358), (0, .ref h0), (1, .int r_13), (2, .int x_41), (3, .int v_351), (5, .int v_353)]) hx hb dX12_readFeels_167 hl (by decide) rfl (fun ls hl => ?_)
                      refine lv_aload_n hx hb dX12_readFeels_169 rfl (lv_at hl 1 rfl) ?_
                      refine va_get (D := G) (ci := 12) (v := .int n_11) (C := RX12) (T := TX12) (N := 65) hx hb hts inT12 hown hK hP 4 rfl rfl 12 (by decide) (hts _ tw_1897) (fun _ h9 => h9) rfl dX12_readFeels_170 ?_
                      refine lv_if_ne (tgt := 202) hx hb dX12_readFeels_173 (by decide) (fun h9 => (z_no (by have h8 := z_fneT h9; omega))) (fun c_696 => ?_)
                      have b_697 := z_feqF c_696
                      refine lv_iload_n hx hb dX12_readFeels_176 rfl (lv_at hl 4 rfl) ?_
                      refine lv_iload_n hx hb dX12_readFeels_177 rfl (lv_at hl 3 rfl) ?_
                      refine lv_irem hx hb dX12_readFeels_178 (z_nz (by omega)) ?_
                      refine lv_topi (fun x_698 he_x_698 => ?_)
                      have hq_x_698 := z_remq he_x_698 (rfl : v_351.toInt = _) (by omega : x_41.toInt = 2) (by omega) (by decide)
                      refine lv_iload_n hx hb dX12_readFeels_179 rfl (lv_at hl 3 rfl) ?_
                      refine lv_iconst (v := 1) hx hb dX12_readFeels_180 (by decide) ?_
                      refine lv_isub hx hb dX12_readFeels_181 ?_
                      refine lv_topi (fun x_699 he_x_699 => ?_)
                      have hq_x_699 := z_subq he_x_699 (rfl : x_41.toInt = _) hk_1 (by omega) (by omega)
                      refine lv_icmp_ne (tgt := 202) hx hb dX12_readFeels_182 (by decide) (fun c_700 => ?_) (fun c_700 => ?_)
                      · have b_701 := z_fneT c_700
                        refine lv_aload_n hx hb dX12_readFeels_202 rfl (lv_at hl 1 rfl) ?_
                        refine va_get (D := G) (ci := 12) (v := .int n_11) (C := RX12) (T := TX12) (N := 65) hx hb hts inT12 hown hK hP 4 rfl rfl 12 (by decide) (hts _ tw_1897) (fun _ h9 => h9) rfl dX12_readFeels_203 ?_
                        refine lv_if_le (tgt := 210) hx hb dX12_readFeels_206 (by decide) (fun c_702 => ?_) (fun h9 => (z_no (by have h8 := z_fgtF h9; omega)))
                        have b_703 := z_fleT c_702
                        have hn_k_704 : 0 ≤ v_351.toInt ∧ v_351.toInt ≤ 3 := by omega
                        refine lv_aload_n hx hb dX12_readFeels_210 rfl (lv_at hl 1 rfl) ?_
                        refine va_get (D := G) (ci := 12) (v := .ref a_c) (C := RX12) (T := TX12) (N := 65) hx hb hts inT12 hown hK hP 4 rfl rfl 20 (by decide) (hts _ tw_1905) (fun _ h9 => h9) rfl dX12_readFeels_211 ?_
                        refine lv_sipush (v := 1477) hx hb dX12_readFeels_214 (by decide) ?_
                        refine lv_bipush (v := 16) hx hb dX12_readFeels_217 (by decide) ?_
                        refine lv_iload_n hx hb dX12_readFeels_219 rfl (lv_at hl 2 rfl) ?_
                        refine lv_imul hx hb dX12_readFeels_220 ?_
                        refine lv_topi (fun x_705 he_x_705 => ?_)
                        have hq_x_705 := z_mulq he_x_705 hk_16 (rfl : r_13.toInt = _) (by omega) (by omega)
                        refine lv_iadd hx hb dX12_readFeels_221 ?_
                        refine lv_topi (fun x_706 he_x_706 => ?_)
                        have hq_x_706 := z_addq he_x_706 hk_1477 (rfl : x_705.toInt = _) (by omega) (by omega)
                        refine lv_iconst (v := 4) hx hb dX12_readFeels_222 (by decide) ?_
                        refine lv_iload_n hx hb dX12_readFeels_223 rfl (lv_at hl 4 rfl) ?_
                        refine lv_iload_n hx hb dX12_readFeels_224 rfl (lv_at hl 3 rfl) ?_
                        refine lv_idiv hx hb dX12_readFeels_225 (z_nz (by omega)) ?_
                        refine lv_topi (fun x_707 he_x_707 => ?_)
                        have hq_x_707 := z_divq he_x_707 (rfl : v_351.toInt = _) (by omega : x_41.toInt = 2) (by omega) (by decide)
                        refine lv_imul hx hb dX12_readFeels_226 ?_
                        refine lv_topi (fun x_708 he_x_708 => ?_)
                        have hq_x_708 := z_mulq he_x_708 hk_4 (rfl : x_707.toInt = _) (by omega) (by omega)
                        refine lv_iadd hx hb dX12_readFeels_227 ?_
                        refine lv_topi (fun x_709 he_x_709 => ?_)
                        have hq_x_709 := z_addq he_x_709 (rfl : x_706.toInt = _) (rfl : x_708.toInt = _) (by omega) (by omega)
                        refine lv_iload_n hx hb dX12_readFeels_228 rfl (lv_at hl 4 rfl) ?_
                        refine lv_iload_n hx hb dX12_readFeels_229 rfl (lv_at hl 3 rfl) ?_
                        refine lv_irem hx hb dX12_readFeels_230 (z_nz (by omega)) ?_
                        refine lv_topi (fun x_710 he_x_710 => ?_)
                        have hq_x_710 := z_remq he_x_710 (rfl : v_351.toInt = _) (by omega : x_41.toInt = 2) (by omega) (by decide)
                        refine lv_iadd hx hb dX12_readFeels_231 ?_
                        refine lv_topi (fun x_711 he_x_711 => ?_)
                        have hq_x_711 := z_addq he_x_711 (rfl : x_709.toInt = _) (rfl : x_710.toInt = _) (by omega) (by omega)
                        refine lv_aload_n hx hb dX12_readFeels_232 rfl (lv_at hl 1 rfl) ?_
                        refine va_get (D := G) (ci := 12) (v := .int v_358) (C := RX12) (T := TX12) (N := 65) hx hb hts inT12 hown hK hP 4 rfl rfl 17 (by decide) (hts _ tw_1902) (fun _ h9 => h9) rfl dX12_readFeels_233 ?_
                        refine z_iast hx hb hK hP hD hS 2 0 rfl rfl (z_inN (by omega) (by omega)) dX12_readFeels_236 (fun g_712 hg_g_712 H locs hP hD hS => ?_)
                        have hC_g_712 := z_ctU hC_g_354 hg_g_712 (a := 1477) (b := 1514) (lo := 0) (hi := 16) (by decide +kernel) (by decide +kernel) (by omega) (by omega) (by omega)
                        have hw_g_712_1460 := z_cwo hg_g_712 (k := 1460) (by omega) (by omega)
                        have hs_713 : zNw g_712 g_isOn := (zNw_fr hs_582 hg_g_712 (a := 1477) (b := 1514) (by decide +kernel) (by omega) (by omega))
                        obtain ⟨x_714, he_x_714⟩ : ∃ z : Int32, z = v_351 + 1 := ⟨_, rfl⟩
                        have hq_x_714 := z_addq he_x_714 (rfl : v_351.toInt = _) hk_1 (by omega) (by omega)
                        refine lv_iinc (v := x_714) (lv' := [(3, .int x_714), (4, .int v_358), (0, .ref h0), (1, .int r_13), (2, .int x_41), (5, .int v_353)]) hx hb dX12_readFeels_237 hl (k := 4) rfl ((z_ofi (by decide +kernel)).trans he_x_714.symm) (by decide) rfl (fun ls hl => ?_)
                        refine lv_aload_n hx hb dX12_readFeels_240 rfl (lv_at hl 2 rfl) ?_
                        refine z_callVv (As := []) (rest := []) (wr := [(a_hasFeels, .inl (cA.1 3, 3, .inl g_29)), (a_isOn, .inl (cA.1 3, 10, .inl g_isOn)), (a_c, .inl (cA.1 0, 1825, .inl g_712)), (a_words, .inl (cA.1 1, 105, .inr (.inl g_words)))]) ⟨hx, hb, hml, hown, hts⟩ hK hE hT hP hD hS hA (r_next2 l G cA h0 m_status m_thrown m_above m_under a_traySort a_trayMany a_numbers a_tape m_taped m_textEnd m_faultKind m_faultAt n_11 n_12 v_355 v_356 v_357 v_358 v_359 v_360 a_c a_words m_markMany a_there a_tried a_best a_found m_thereMany m_foundMany m_orderHow m_orderRing m_orderMany m_hasBest m_bestTop m_bestBy a_weights a_shared m_random m_truePlace m_trueWay m_seconds m_done m_feelings m_tries m_leftOver m_playDoor m_playRing m_isOpen m_isOver m_wasTried m_hasPlayed a_feltNow a_last a_kept m_hasSeconds m_hasTurned m_hasRound a_hasFeels a_isOn m_firstAct m_meanTop m_meanBy a_order m_rowMany m_newSteps g_tape hr_m_textEnd hr_v_356 hr_v_357 hr_v_355 hr_v_358 hr_v_359) lk_RX12_184 ⟨rfl, rfl⟩ ⟨Nat.le_of_ble_eq_true rfl, Nat.le_of_ble_eq_true rfl⟩ 12 rfl rfl rfl [4, 5] [0, 1, 2, 3] rfl rfl (by decide) rfl hl.1 rfl (lv_room (Nat.le_of_ble_eq_true rfl)) dX12_readFeels_241 ⟨Nat.le_of_ble_eq_true rfl, Nat.le_of_ble_eq_true rfl⟩ (fun u_722 H locs hw hP hD hS => ?_)
                        obtain ⟨n_715, n_716, n_717, n_718, n_719, n_720⟩ := u_722
                        try dsimp only at hw
                        obtain ⟨hr_n_715, hr_n_716, hr_n_717, hr_n_718, hr_n_719, hf_723, hf_724⟩ := hw
                        refine lv_aload_n hx hb dX12_readFeels_244 rfl (lv_at hl 2 rfl) ?_
                        refine va_get (D := G) (ci := 12) (v := .int n_715) (C := RX12) (T := TX12) (N := 65) hx hb hts inT12 hown hK hP 4 rfl rfl 14 (by decide) (hts _ tw_1899) (fun _ h9 => h9) rfl dX12_readFeels_245 ?_
                        refine lv_iconst (v := 2) hx hb dX12_readFeels_248 (by decide) ?_
                        refine lv_icmp_ne (tgt := 256) hx hb dX12_readFeels_249 (by decide) (fun c_725 => ?_) (fun c_725 => ?_)
                        · have b_726 := z_fneT c_725
                          refine lv_iconst (v := 0) hx hb dX12_readFeels_256 (by decide) ?_
                          refine lv_istore (lv' := [(5, .int 0), (3, .int x_714), (4, .int v_358), (0, .ref h0), (1, .int r_13), (2, .int x_41)]) hx hb dX12_readFeels_257 hl (by decide) rfl (fun ls hl => ?_)
                          refine lv_goto (tgt := 74) hx hb dX12_readFeels_259 (by decide) ?_
                          exact ih_590 x_714 v_358 0 g_712 n_715 n_716 n_717 n_718 n_719 n_720 H locs ls (by omega) (by omega) (by omega) (by decide +kernel) hC_g_712 hr_n_715 hr_n_716 hr_n_717 hr_n_718 hr_n_719 hs_713 (by rw [hq_x_714]; exact zFl_step hi_583 hg_g_712 (by omega) (by omega) (by omega) (r := x_707.toInt) (c := x_710.toInt) (by rw [h_42]; omega) (by omega) (by omega) (by omega) (by omega) (by omega) (by omega) (by omega)) (by omega) (by omega) (by omega) (by omega) (by omega) hP hD hS (lv_sub hl [3, 4, 5, 1, 2, 0] rfl)
                        · have b_727 := z_feqF c_725
                          refine lv_iconst (v := 1) hx hb dX12_readFeels_252 (by decide) ?_
                          refine lv_goto (tgt := 257) hx hb dX12_readFeels_253 (by decide) ?_
                          refine lv_istore (lv' := [(5, .int 1), (3, .int x_714), (4, .int v_358), (0, .ref h0), (1, .int r_13), (2, .int x_41)]) hx hb dX12_readFeels_257 hl (by decide) rfl (fun ls hl => ?_)
                          refine lv_goto (tgt := 74) hx hb dX12_readFeels_259 (by decide) ?_
                          exact ih_590 x_714 v_358 1 g_712 n_715 n_716 n_717 n_718 n_719 n_720 H locs ls (by omega) (by omega) (by omega) (by decide +kernel) hC_g_712 hr_n_715 hr_n_716 hr_n_717 hr_n_718 hr_n_719 hs_713 (by rw [hq_x_714]; exact zFl_step hi_583 hg_g_712 (by omega) (by omega) (by omega) (r := x_707.toInt) (c := x_710.toInt) (by rw [h_42]; omega) (by omega) (by omega) (by omega) (by omega) (by omega) (by omega) (by omega)) (by omega) (by omega) (by omega) (by omega) (by omega) hP hD hS (lv_sub hl [3, 4, 5, 1, 2, 0] rfl)
                      · have b_728 := z_feqF c_700
                        refine lv_iload hx hb dX12_readFeels_185 (lv_at hl 0 rfl) ?_
                        refine lv_bipush (v := 16) hx hb dX12_readFeels_187 (by decide) ?_
                        refine lv_icmp_eq (tgt := 202) hx hb dX12_readFeels_189 (by decide) (fun c_729 => ?_) (fun c_729 => ?_)
                        · have b_730 := z_feqT c_729
                          refine lv_aload_n hx hb dX12_readFeels_202 rfl (lv_at hl 1 rfl) ?_
                          refine va_get (D := G) (ci := 12) (v := .int n_11) (C := RX12) (T := TX12) (N := 65) hx hb hts inT12 hown hK hP 4 rfl rfl 12 (by decide) (hts _ tw_1897) (fun _ h9 => h9) rfl dX12_readFeels_203 ?_
                          refine lv_if_le (tgt := 210) hx hb dX12_readFeels_206 (by decide) (fun c_731 => ?_) (fun h9 => (z_no (by have h8 := z_fgtF h9; omega)))
                          have b_732 := z_fleT c_731
                          have hn_k_733 : 0 ≤ v_351.toInt ∧ v_351.toInt ≤ 3 := by omega
                          refine lv_aload_n hx hb dX12_readFeels_210 rfl (lv_at hl 1 rfl) ?_
                          refine va_get (D := G) (ci := 12) (v := .ref a_c) (C := RX12) (T := TX12) (N := 65) hx hb hts inT12 hown hK hP 4 rfl rfl 20 (by decide) (hts _ tw_1905) (fun _ h9 => h9) rfl dX12_readFeels_211 ?_
                          refine lv_sipush (v := 1477) hx hb dX12_readFeels_214 (by decide) ?_
                          refine lv_bipush (v := 16) hx hb dX12_readFeels_217 (by decide) ?_
                          refine lv_iload_n hx hb dX12_readFeels_219 rfl (lv_at hl 2 rfl) ?_
                          refine lv_imul hx hb dX12_readFeels_220 ?_
                          refine lv_topi (fun x_734 he_x_734 => ?_)
                          have hq_x_734 := z_mulq he_x_734 hk_16 (rfl : r_13.toInt = _) (by omega) (by omega)
                          refine lv_iadd hx hb dX12_readFeels_221 ?_
                          refine lv_topi (fun x_735 he_x_735 => ?_)
                          have hq_x_735 := z_addq he_x_735 hk_1477 (rfl : x_734.toInt = _) (by omega) (by omega)
                          refine lv_iconst (v := 4) hx hb dX12_readFeels_222 (by decide) ?_
                          refine lv_iload_n hx hb dX12_readFeels_223 rfl (lv_at hl 4 rfl) ?_
                          refine lv_iload_n hx hb dX12_readFeels_224 rfl (lv_at hl 3 rfl) ?_
                          refine lv_idiv hx hb dX12_readFeels_225 (z_nz (by omega)) ?_
                          refine lv_topi (fun x_736 he_x_736 => ?_)
                          have hq_x_736 := z_divq he_x_736 (rfl : v_351.toInt = _) (by omega : x_41.toInt = 2) (by omega) (by decide)
                          refine lv_imul hx hb dX12_readFeels_226 ?_
                          refine lv_topi (fun x_737 he_x_737 => ?_)
                          have hq_x_737 := z_mulq he_x_737 hk_4 (rfl : x_736.toInt = _) (by omega) (by omega)
                          refine lv_iadd hx hb dX12_readFeels_227 ?_
                          refine lv_topi (fun x_738 he_x_738 => ?_)
                          have hq_x_738 := z_addq he_x_738 (rfl : x_735.toInt = _) (rfl : x_737.toInt = _) (by omega) (by omega)
                          refine lv_iload_n hx hb dX12_readFeels_228 rfl (lv_at hl 4 rfl) ?_
                          refine lv_iload_n hx hb dX12_readFeels_229 rfl (lv_at hl 3 rfl) ?_
                          refine lv_irem hx hb dX12_readFeels_230 (z_nz (by omega)) ?_
                          refine lv_topi (fun x_739 he_x_739 => ?_)
                          have hq_x_739 := z_remq he_x_739 (rfl : v_351.toInt = _) (by omega : x_41.toInt = 2) (by omega) (by decide)
                          refine lv_iadd hx hb dX12_readFeels_231 ?_
                          refine lv_topi (fun x_740 he_x_740 => ?_)
                          have hq_x_740 := z_addq he_x_740 (rfl : x_738.toInt = _) (rfl : x_739.toInt = _) (by omega) (by omega)
                          refine lv_aload_n hx hb dX12_readFeels_232 rfl (lv_at hl 1 rfl) ?_
                          refine va_get (D := G) (ci := 12) (v := .int v_358) (C := RX12) (T := TX12) (N := 65) hx hb hts inT12 hown hK hP 4 rfl rfl 17 (by decide) (hts _ tw_1902) (fun _ h9 => h9) rfl dX12_readFeels_233 ?_
                          refine z_iast hx hb hK hP hD hS 2 0 rfl rfl (z_inN (by omega) (by omega)) dX12_readFeels_236 (fun g_741 hg_g_741 H locs hP hD hS => ?_)
                          have hC_g_741 := z_ctU hC_g_354 hg_g_741 (a := 1477) (b := 1514) (lo := 0) (hi := 16) (by decide +kernel) (by decide +kernel) (by omega) (by omega) (by omega)
                          have hw_g_741_1460 := z_cwo hg_g_741 (k := 1460) (by omega) (by omega)
                          have hs_742 : zNw g_741 g_isOn := (zNw_fr hs_582 hg_g_741 (a := 1477) (b := 1514) (by decide +kernel) (by omega) (by omega))
                          obtain ⟨x_743, he_x_743⟩ : ∃ z : Int32, z = v_351 + 1 := ⟨_, rfl⟩
                          have hq_x_743 := z_addq he_x_743 (rfl : v_351.toInt = _) hk_1 (by omega) (by omega)
                          refine lv_iinc (v := x_743) (lv' := [(3, .int x_743), (4, .int v_358), (0, .ref h0), (1, .int r_13), (2, .int x_41), (5, .int v_353)]) hx hb dX12_readFeels_237 hl (k := 4) rfl ((z_ofi (by decide +kernel)).trans he_x_743.symm) (by decide) rfl (fun ls hl => ?_)
                          refine lv_aload_n hx hb dX12_readFeels_240 rfl (lv_at hl 2 rfl) ?_
                          refine z_callVv (As := []) (rest := []) (wr := [(a_hasFeels, .inl (cA.1 3, 3, .inl g_29)), (a_isOn, .inl (cA.1 3, 10, .inl g_isOn)), (a_c, .inl (cA.1 0, 1825, .inl g_741)), (a_words, .inl (cA.1 1, 105, .inr (.inl g_words)))]) ⟨hx, hb, hml, hown, hts⟩ hK hE hT hP hD hS hA (r_next2 l G cA h0 m_status m_thrown m_above m_under a_traySort a_trayMany a_numbers a_tape m_taped m_textEnd m_faultKind m_faultAt n_11 n_12 v_355 v_356 v_357 v_358 v_359 v_360 a_c a_words m_markMany a_there a_tried a_best a_found m_thereMany m_foundMany m_orderHow m_orderRing m_orderMany m_hasBest m_bestTop m_bestBy a_weights a_shared m_random m_truePlace m_trueWay m_seconds m_done m_feelings m_tries m_leftOver m_playDoor m_playRing m_isOpen m_isOver m_wasTried m_hasPlayed a_feltNow a_last a_kept m_hasSeconds m_hasTurned m_hasRound a_hasFeels a_isOn m_firstAct m_meanTop m_meanBy a_order m_rowMany m_newSteps g_tape hr_m_textEnd hr_v_356 hr_v_357 hr_v_355 hr_v_358 hr_v_359) lk_RX12_184 ⟨rfl, rfl⟩ ⟨Nat.le_of_ble_eq_true rfl, Nat.le_of_ble_eq_true rfl⟩ 12 rfl rfl rfl [4, 5] [0, 1, 2, 3] rfl rfl (by decide) rfl hl.1 rfl (lv_room (Nat.le_of_ble_eq_true rfl)) dX12_readFeels_241 ⟨Nat.le_of_ble_eq_true rfl, Nat.le_of_ble_eq_true rfl⟩ (fun u_751 H locs hw hP hD hS => ?_)
                          obtain ⟨n_744, n_745, n_746, n_747, n_748, n_749⟩ := u_751
                          try dsimp only at hw
                          obtain ⟨hr_n_744, hr_n_745, hr_n_746, hr_n_747, hr_n_748, hf_752, hf_753⟩ := hw
                          refine lv_aload_n hx hb dX12_readFeels_244 rfl (lv_at hl 2 rfl) ?_
                          refine va_get (D := G) (ci := 12) (v := .int n_744) (C := RX12) (T := TX12) (N := 65) hx hb hts inT12 hown hK hP 4 rfl rfl 14 (by decide) (hts _ tw_1899) (fun _ h9 => h9) rfl dX12_readFeels_245 ?_
                          refine lv_iconst (v := 2) hx hb dX12_readFeels_248 (by decide) ?_
                          refine lv_icmp_ne (tgt := 256) hx hb dX12_readFeels_249 (by decide) (fun c_754 => ?_) (fun c_754 => ?_)
                          · have b_755 := z_fneT c_754
                            refine lv_iconst (v := 0) hx hb dX12_readFeels_256 (by decide) ?_
                            refine lv_istore (lv' := [(5, .int 0), (3, .int x_743), (4, .int v_358), (0, .ref h0), (1, .int r_13), (2, .int x_41)]) hx hb dX12_readFeels_257 hl (by decide) rfl (fun ls hl => ?_)
                            refine lv_goto (tgt := 74) hx hb dX12_readFeels_259 (by decide) ?_
                            exact ih_590 x_743 v_358 0 g_741 n_744 n_745 n_746 n_747 n_748 n_749 H locs ls (by omega) (by omega) (by omega) (by decide +kernel) hC_g_741 hr_n_744 hr_n_745 hr_n_746 hr_n_747 hr_n_748 hs_742 (by rw [hq_x_743]; exact zFl_step hi_583 hg_g_741 (by omega) (by omega) (by omega) (r := x_736.toInt) (c := x_739.toInt) (by rw [h_42]; omega) (by omega) (by omega) (by omega) (by omega) (by omega) (by omega) (by omega)) (by omega) (by omega) (by omega) (by omega) (by omega) hP hD hS (lv_sub hl [3, 4, 5, 1, 2, 0] rfl)
                          · have b_756 := z_feqF c_754
                            refine lv_iconst (v := 1) hx hb dX12_readFeels_252 (by decide) ?_
                            refine lv_goto (tgt := 257) hx hb dX12_readFeels_253 (by decide) ?_
                            refine lv_istore (lv' := [(5, .int 1), (3, .int x_743), (4, .int v_358), (0, .ref h0), (1, .int r_13), (2, .int x_41)]) hx hb dX12_readFeels_257 hl (by decide) rfl (fun ls hl => ?_)
                            refine lv_goto (tgt := 74) hx hb dX12_readFeels_259 (by decide) ?_
                            exact ih_590 x_743 v_358 1 g_741 n_744 n_745 n_746 n_747 n_748 n_749 H locs ls (by omega) (by omega) (by omega) (by decide +kernel) hC_g_741 hr_n_744 hr_n_745 hr_n_746 hr_n_747 hr_n_748 hs_742 (by rw [hq_x_743]; exact zFl_step hi_583 hg_g_741 (by omega) (by omega) (by omega) (r := x_736.toInt) (c := x_739.toInt) (by rw [h_42]; omega) (by omega) (by omega) (by omega) (by omega) (by omega) (by omega) (by omega)) (by omega) (by omega) (by omega) (by omega) (by omega) hP hD hS (lv_sub hl [3, 4, 5, 1, 2, 0] rfl)
                        · have b_757 := z_fneF c_729
                          refine lv_aload_n hx hb dX12_readFeels_192 rfl (lv_at hl 1 rfl) ?_
                          refine lv_bipush (v := 9) hx hb dX12_readFeels_193 (by decide) ?_
                          refine lv_aload_n hx hb dX12_readFeels_195 rfl (lv_at hl 1 rfl) ?_
                          refine va_get (D := G) (ci := 12) (v := .int v_356) (C := RX12) (T := TX12) (N := 65) hx hb hts inT12 hown hK hP 4 rfl rfl 15 (by decide) (hts _ tw_1900) (fun _ h9 => h9) rfl dX12_readFeels_196 ?_
                          refine z_callVv (As := [.int 9, .int v_356]) (rest := []) (wr := [(a_hasFeels, .inl (cA.1 3, 3, .inl g_29)), (a_isOn, .inl (cA.1 3, 10, .inl g_isOn)), (a_c, .inl (cA.1 0, 1825, .inl g_354)), (a_words, .inl (cA.1 1, 105, .inr (.inl g_words))), (a_tape, .inl (cA.1 2, 900, .inl g_tape))]) ⟨hx, hb, hml, hown, hts⟩ hK hE hT hP hD hS hA (r_fail l G cA h0 m_status m_thrown m_above m_under a_traySort a_trayMany a_numbers a_tape m_taped m_textEnd m_faultKind m_faultAt n_11 n_12 v_355 v_356 v_357 v_358 v_359 v_360 a_c a_words m_markMany a_there a_tried a_best a_found m_thereMany m_foundMany m_orderHow m_orderRing m_orderMany m_hasBest m_bestTop m_bestBy a_weights a_shared m_random m_truePlace m_trueWay m_seconds m_done m_feelings m_tries m_leftOver m_playDoor m_playRing m_isOpen m_isOver m_wasTried m_hasPlayed a_feltNow a_last a_kept m_hasSeconds m_hasTurned m_hasRound a_hasFeels a_isOn m_firstAct m_meanTop m_meanBy a_order m_rowMany m_newSteps 9 v_356 (by decide +kernel) hr_n_11) lk_RX12_180 ⟨rfl, rfl⟩ ⟨Nat.le_of_ble_eq_true rfl, Nat.le_of_ble_eq_true rfl⟩ 12 rfl rfl rfl [4] [0, 1, 2, 3, 5] rfl rfl (by decide) rfl hl.1 rfl (lv_room (Nat.le_of_ble_eq_true rfl)) dX12_readFeels_199 ⟨Nat.le_of_ble_eq_true rfl, Nat.le_of_ble_eq_true rfl⟩ (fun u_761 H locs hw hP hD hS => ?_)
                          obtain ⟨n_758, n_759⟩ := u_761
                          try dsimp only at hw
                          obtain ⟨hr_n_758, hf_762⟩ := hw
                          refine lv_aload_n hx hb dX12_readFeels_202 rfl (lv_at hl 1 rfl) ?_
                          refine va_get (D := G) (ci := 12) (v := .int n_758) (C := RX12) (T := TX12) (N := 65) hx hb hts inT12 hown hK hP 5 rfl rfl 12 (by decide) (hts _ tw_1897) (fun _ h9 => h9) rfl dX12_readFeels_203 ?_
                          refine lv_if_le (tgt := 210) hx hb dX12_readFeels_206 (by decide) (fun h9 => (z_no (by have h8 := z_fleT h9; omega))) (fun c_763 => ?_)
                          have b_764 := z_fgtF c_763
                          have hpost : (0 ≤ n_758.toInt ∧ n_758.toInt ≤ 9) ∧ (0 ≤ v_355.toInt ∧ v_355.toInt ≤ 4) ∧ (0 ≤ v_356.toInt ∧ v_356.toInt ≤ 900) ∧ (0 ≤ v_357.toInt ∧ v_357.toInt ≤ 900) ∧ (0 ≤ v_358.toInt ∧ v_358.toInt ≤ 9999) ∧ (0 ≤ v_359.toInt ∧ v_359.toInt ≤ 900) ∧ (zRg 3 0 1 g_29) ∧ (zC g_354) ∧ (zNw g_354 g_isOn) ∧ (m_behind.toInt ≤ v_357.toInt) ∧ (0 < m_bad.toInt → 0 < n_758.toInt) ∧ (n_758.toInt ≤ 0 → v_355.toInt = 0 ∨ m_behind.toInt < v_357.toInt) ∧ (n_758.toInt ≤ 0 → v_355.toInt = 3 → v_358.toInt = 59 → zNf g_354) := ⟨(z_rgw hr_n_758 (by decide) (by decide)), hr_v_355, hr_v_356, hr_v_357, hr_v_358, hr_v_359, hC_g_29, hC_g_354, hs_582, (by omega), (by omega), (by omega), (fun h1 h2 h3 => z_no (by omega))⟩
                          exact hret _ _ _ _ _ (n_758, n_759, v_355, v_356, v_357, v_358, v_359, v_360, g_29, g_354) [5, 4, 2, 3, 0, 1] hP hD hS rfl (by decide) dX12_readFeels_209 hpost
                  · have b_765 := z_feqF c_620
                    refine lv_aload_n hx hb dX12_readFeels_137 rfl (lv_at hl 0 rfl) ?_
                    refine lv_bipush (v := 8) hx hb dX12_readFeels_138 (by decide) ?_
                    refine lv_aload_n hx hb dX12_readFeels_140 rfl (lv_at hl 0 rfl) ?_
                    refine va_get (D := G) (ci := 12) (v := .int v_356) (C := RX12) (T := TX12) (N := 65) hx hb hts inT12 hown hK hP 4 rfl rfl 15 (by decide) (hts _ tw_1900) (fun _ h9 => h9) rfl dX12_readFeels_141 ?_
                    refine z_callVv (As := [.int 8, .int v_356]) (rest := []) (wr := [(a_hasFeels, .inl (cA.1 3, 3, .inl g_29)), (a_isOn, .inl (cA.1 3, 10, .inl g_isOn)), (a_c, .inl (cA.1 0, 1825, .inl g_354)), (a_words, .inl (cA.1 1, 105, .inr (.inl g_words))), (a_tape, .inl (cA.1 2, 900, .inl g_tape))]) ⟨hx, hb, hml, hown, hts⟩ hK hE hT hP hD hS hA (r_fail l G cA h0 m_status m_thrown m_above m_under a_traySort a_trayMany a_numbers a_tape m_taped m_textEnd m_faultKind m_faultAt n_11 n_12 v_355 v_356 v_357 v_358 v_359 v_360 a_c a_words m_markMany a_there a_tried a_best a_found m_thereMany m_foundMany m_orderHow m_orderRing m_orderMany m_hasBest m_bestTop m_bestBy a_weights a_shared m_random m_truePlace m_trueWay m_seconds m_done m_feelings m_tries m_leftOver m_playDoor m_playRing m_isOpen m_isOver m_wasTried m_hasPlayed a_feltNow a_last a_kept m_hasSeconds m_hasTurned m_hasRound a_hasFeels a_isOn m_firstAct m_meanTop m_meanBy a_order m_rowMany m_newSteps 8 v_356 (by decide +kernel) hr_n_11) lk_RX12_180 ⟨rfl, rfl⟩ ⟨Nat.le_of_ble_eq_true rfl, Nat.le_of_ble_eq_true rfl⟩ 12 rfl rfl rfl [4] [0, 1, 2, 3, 5] rfl rfl (by decide) rfl hl.1 rfl (lv_room (Nat.le_of_ble_eq_true rfl)) dX12_readFeels_144 ⟨Nat.le_of_ble_eq_true rfl, Nat.le_of_ble_eq_true rfl⟩ (fun u_769 H locs hw hP hD hS => ?_)
                    obtain ⟨n_766, n_767⟩ := u_769
                    try dsimp only at hw
                    obtain ⟨hr_n_766, hf_770⟩ := hw
                    refine lv_iload_n hx hb dX12_readFeels_147 rfl (lv_at hl 3 rfl) ?_
                    refine lv_iload_n hx hb dX12_readFeels_148 rfl (lv_at hl 2 rfl) ?_
                    refine lv_irem hx hb dX12_readFeels_149 (z_nz (by omega)) ?_
                    refine lv_topi (fun x_771 he_x_771 => ?_)
                    have hq_x_771 := z_remq he_x_771 (rfl : v_351.toInt = _) (by omega : x_41.toInt = 2) (by omega) (by decide)
                    refine lv_if_ne (tgt := 160) hx hb dX12_readFeels_150 (by decide) (fun c_772 => ?_) (fun c_772 => ?_)
                    · have b_773 := z_fneT c_772
                      refine lv_iload hx hb dX12_readFeels_160 (lv_at hl 4 rfl) ?_
                      refine lv_aload_n hx hb dX12_readFeels_162 rfl (lv_at hl 0 rfl) ?_
                      refine va_get (D := G) (ci := 12) (v := .int v_358) (C := RX12) (T := TX12) (N := 65) hx hb hts inT12 hown hK hP 5 rfl rfl 17 (by decide) (hts _ tw_1902) (fun _ h9 => h9) rfl dX12_readFeels_163 ?_
                      refine lv_iadd hx hb dX12_readFeels_166 ?_
                      refine lv_topi (fun x_774 he_x_774 => ?_)
                      have hq_x_774 := z_addq he_x_774 (rfl : v_352.toInt = _) (rfl : v_358.toInt = _) (by omega) (by omega)
                      refine lv_istore (lv' := [(4, .int x_774), (0, .ref h0), (1, .int r_13), (2, .int x_41), (3, .int v_351), (5, .int v_353)]) hx hb dX12_readFeels_167 hl (by decide) rfl (fun ls hl => ?_)
                      refine lv_aload_n hx hb dX12_readFeels_169 rfl (lv_at hl 1 rfl) ?_
                      refine va_get (D := G) (ci := 12) (v := .int n_766) (C := RX12) (T := TX12) (N := 65) hx hb hts inT12 hown hK hP 5 rfl rfl 12 (by decide) (hts _ tw_1897) (fun _ h9 => h9) rfl dX12_readFeels_170 ?_
                      refine lv_if_ne (tgt := 202) hx hb dX12_readFeels_173 (by decide) (fun c_775 => ?_) (fun h9 => (z_no (by have h8 := z_feqF h9; omega)))
                      have b_776 := z_fneT c_775
                      refine lv_aload_n hx hb dX12_readFeels_202 rfl (lv_at hl 1 rfl) ?_
                      refine va_get (D := G) (ci := 12) (v := .int n_766) (C := RX12) (T := TX12) (N := 65) hx hb hts inT12 hown hK hP 5 rfl rfl 12 (by decide) (hts _ tw_1897) (fun _ h9 => h9) rfl dX12_readFeels_203 ?_
                      refine lv_if_le (tgt := 210) hx hb dX12_readFeels_206 (by decide) (fun h9 => (z_no (by have h8 := z_fleT h9; omega))) (fun c_777 => ?_)
                      have b_778 := z_fgtF c_777
                      have hpost : (0 ≤ n_766.toInt ∧ n_766.toInt ≤ 9) ∧ (0 ≤ v_355.toInt ∧ v_355.toInt ≤ 4) ∧ (0 ≤ v_356.toInt ∧ v_356.toInt ≤ 900) ∧ (0 ≤ v_357.toInt ∧ v_357.toInt ≤ 900) ∧ (0 ≤ v_358.toInt ∧ v_358.toInt ≤ 9999) ∧ (0 ≤ v_359.toInt ∧ v_359.toInt ≤ 900) ∧ (zRg 3 0 1 g_29) ∧ (zC g_354) ∧ (zNw g_354 g_isOn) ∧ (m_behind.toInt ≤ v_357.toInt) ∧ (0 < m_bad.toInt → 0 < n_766.toInt) ∧ (n_766.toInt ≤ 0 → v_355.toInt = 0 ∨ m_behind.toInt < v_357.toInt) ∧ (n_766.toInt ≤ 0 → v_355.toInt = 3 → v_358.toInt = 59 → zNf g_354) := ⟨(z_rgw hr_n_766 (by decide) (by decide)), hr_v_355, hr_v_356, hr_v_357, hr_v_358, hr_v_359, hC_g_29, hC_g_354, hs_582, (by omega), (by omega), (by omega), (fun h1 h2 h3 => z_no (by omega))⟩
                      exact hret _ _ _ _ _ (n_766, n_767, v_355, v_356, v_357, v_358, v_359, v_360, g_29, g_354) [5, 4, 2, 3, 0, 1] hP hD hS rfl (by decide) dX12_readFeels_209 hpost
                    · have b_779 := z_feqF c_772
                      refine lv_aload_n hx hb dX12_readFeels_153 rfl (lv_at hl 0 rfl) ?_
                      refine va_get (D := G) (ci := 12) (v := .int v_358) (C := RX12) (T := TX12) (N := 65) hx hb hts inT12 hown hK hP 5 rfl rfl 17 (by decide) (hts _ tw_1902) (fun _ h9 => h9) rfl dX12_readFeels_154 ?_
                      refine lv_goto (tgt := 167) hx hb dX12_readFeels_157 (by decide) ?_
                      refine lv_istore (lv' := [(4, .int v_358), (0, .ref h0), (1, .int r_13), (2, .int x_41), (3, .int v_351), (5, .int v_353)]) hx hb dX12_readFeels_167 hl (by decide) rfl (fun ls hl => ?_)
                      refine lv_aload_n hx hb dX12_readFeels_169 rfl (lv_at hl 1 rfl) ?_
                      refine va_get (D := G) (ci := 12) (v := .int n_766) (C := RX12) (T := TX12) (N := 65) hx hb hts inT12 hown hK hP 5 rfl rfl 12 (by decide) (hts _ tw_1897) (fun _ h9 => h9) rfl dX12_readFeels_170 ?_
                      refine lv_if_ne (tgt := 202) hx hb dX12_readFeels_173 (by decide) (fun c_780 => ?_) (fun h9 => (z_no (by have h8 := z_feqF h9; omega)))
                      have b_781 := z_fneT c_780
                      refine lv_aload_n hx hb dX12_readFeels_202 rfl (lv_at hl 1 rfl) ?_
                      refine va_get (D := G) (ci := 12) (v := .int n_766) (C := RX12) (T := TX12) (N := 65) hx hb hts inT12 hown hK hP 5 rfl rfl 12 (by decide) (hts _ tw_1897) (fun _ h9 => h9) rfl dX12_readFeels_203 ?_
                      refine lv_if_le (tgt := 210) hx hb dX12_readFeels_206 (by decide) (fun h9 => (z_no (by have h8 := z_fleT h9; omega))) (fun c_782 => ?_)
                      have b_783 := z_fgtF c_782
                      have hpost : (0 ≤ n_766.toInt ∧ n_766.toInt ≤ 9) ∧ (0 ≤ v_355.toInt ∧ v_355.toInt ≤ 4) ∧ (0 ≤ v_356.toInt ∧ v_356.toInt ≤ 900) ∧ (0 ≤ v_357.toInt ∧ v_357.toInt ≤ 900) ∧ (0 ≤ v_358.toInt ∧ v_358.toInt ≤ 9999) ∧ (0 ≤ v_359.toInt ∧ v_359.toInt ≤ 900) ∧ (zRg 3 0 1 g_29) ∧ (zC g_354) ∧ (zNw g_354 g_isOn) ∧ (m_behind.toInt ≤ v_357.toInt) ∧ (0 < m_bad.toInt → 0 < n_766.toInt) ∧ (n_766.toInt ≤ 0 → v_355.toInt = 0 ∨ m_behind.toInt < v_357.toInt) ∧ (n_766.toInt ≤ 0 → v_355.toInt = 3 → v_358.toInt = 59 → zNf g_354) := ⟨(z_rgw hr_n_766 (by decide) (by decide)), hr_v_355, hr_v_356, hr_v_357, hr_v_358, hr_v_359, hC_g_29, hC_g_354, hs_582, (by omega), (by omega), (by omega), (fun h1 h2 h3 => z_no (by omega))⟩
                      exact hret _ _ _ _ _ (n_766, n_767, v_355, v_356, v_357, v_358, v_359, v_360, g_29, g_354) [5, 4, 2, 3, 0, 1] hP hD hS rfl (by decide) dX12_readFeels_209 hpost
                · have b_784 := z_fgtF c_615
                  refine lv_aload_n hx hb dX12_readFeels_114 rfl (lv_at hl 0 rfl) ?_
                  refine lv_iconst (v := 4) hx hb dX12_readFeels_115 (by decide) ?_
                  refine lv_aload_n hx hb dX12_readFeels_116 rfl (lv_at hl 0 rfl) ?_
                  refine va_get (D := G) (ci := 12) (v := .int v_356) (C := RX12) (T := TX12) (N := 65) hx hb hts inT12 hown hK hP 4 rfl rfl 15 (by decide) (hts _ tw_1900) (fun _ h9 => h9) rfl dX12_readFeels_117 ?_
                  refine z_callVv (As := [.int 4, .int v_356]) (rest := []) (wr := [(a_hasFeels, .inl (cA.1 3, 3, .inl g_29)), (a_isOn, .inl (cA.1 3, 10, .inl g_isOn)), (a_c, .inl (cA.1 0, 1825, .inl g_354)), (a_words, .inl (cA.1 1, 105, .inr (.inl g_words))), (a_tape, .inl (cA.1 2, 900, .inl g_tape))]) ⟨hx, hb, hml, hown, hts⟩ hK hE hT hP hD hS hA (r_fail l G cA h0 m_status m_thrown m_above m_under a_traySort a_trayMany a_numbers a_tape m_taped m_textEnd m_faultKind m_faultAt n_11 n_12 v_355 v_356 v_357 v_358 v_359 v_360 a_c a_words m_markMany a_there a_tried a_best a_found m_thereMany m_foundMany m_orderHow m_orderRing m_orderMany m_hasBest m_bestTop m_bestBy a_weights a_shared m_random m_truePlace m_trueWay m_seconds m_done m_feelings m_tries m_leftOver m_playDoor m_playRing m_isOpen m_isOver m_wasTried m_hasPlayed a_feltNow a_last a_kept m_hasSeconds m_hasTurned m_hasRound a_hasFeels a_isOn m_firstAct m_meanTop m_meanBy a_order m_rowMany m_newSteps 4 v_356 (by decide +kernel) hr_n_11) lk_RX12_180 ⟨rfl, rfl⟩ ⟨Nat.le_of_ble_eq_true rfl, Nat.le_of_ble_eq_true rfl⟩ 12 rfl rfl rfl [4] [0, 1, 2, 3, 5] rfl rfl (by decide) rfl hl.1 rfl (lv_room (Nat.le_of_ble_eq_true rfl)) dX12_readFeels_120 ⟨Nat.le_of_ble_eq_true rfl, Nat.le_of_ble_eq_true rfl⟩ (fun u_788 H locs hw hP hD hS => ?_)
                  obtain ⟨n_785, n_786⟩ := u_788
                  try dsimp only at hw
                  obtain ⟨hr_n_785, hf_789⟩ := hw
                  refine lv_aload_n hx hb dX12_readFeels_123 rfl (lv_at hl 0 rfl) ?_
                  refine va_get (D := G) (ci := 12) (v := .int n_785) (C := RX12) (T := TX12) (N := 65) hx hb hts inT12 hown hK hP 5 rfl rfl 12 (by decide) (hts _ tw_1897) (fun _ h9 => h9) rfl dX12_readFeels_124 ?_
                  refine lv_if_ne (tgt := 147) hx hb dX12_readFeels_127 (by decide) (fun c_790 => ?_) (fun h9 => (z_no (by have h8 := z_feqF h9; omega)))
                  have b_791 := z_fneT c_790
                  refine lv_iload_n hx hb dX12_readFeels_147 rfl (lv_at hl 3 rfl) ?_
                  refine lv_iload_n hx hb dX12_readFeels_148 rfl (lv_at hl 2 rfl) ?_
                  refine lv_irem hx hb dX12_readFeels_149 (z_nz (by omega)) ?_
                  refine lv_topi (fun x_792 he_x_792 => ?_)
                  have hq_x_792 := z_remq he_x_792 (rfl : v_351.toInt = _) (by omega : x_41.toInt = 2) (by omega) (by decide)
                  refine lv_if_ne (tgt := 160) hx hb dX12_readFeels_150 (by decide) (fun c_793 => ?_) (fun c_793 => ?_)
                  · have b_794 := z_fneT c_793
                    refine lv_iload hx hb dX12_readFeels_160 (lv_at hl 4 rfl) ?_
                    refine lv_aload_n hx hb dX12_readFeels_162 rfl (lv_at hl 0 rfl) ?_
                    refine va_get (D := G) (ci := 12) (v := .int v_358) (C := RX12) (T := TX12) (N := 65) hx hb hts inT12 hown hK hP 5 rfl rfl 17 (by decide) (hts _ tw_1902) (fun _ h9 => h9) rfl dX12_readFeels_163 ?_
                    refine lv_iadd hx hb dX12_readFeels_166 ?_
                    refine lv_topi (fun x_795 he_x_795 => ?_)
                    have hq_x_795 := z_addq he_x_795 (rfl : v_352.toInt = _) (rfl : v_358.toInt = _) (by omega) (by omega)
                    refine lv_istore (lv' := [(4, .int x_795), (0, .ref h0), (1, .int r_13), (2, .int x_41), (3, .int v_351), (5, .int v_353)]) hx hb dX12_readFeels_167 hl (by decide) rfl (fun ls hl => ?_)
                    refine lv_aload_n hx hb dX12_readFeels_169 rfl (lv_at hl 1 rfl) ?_
                    refine va_get (D := G) (ci := 12) (v := .int n_785) (C := RX12) (T := TX12) (N := 65) hx hb hts inT12 hown hK hP 5 rfl rfl 12 (by decide) (hts _ tw_1897) (fun _ h9 => h9) rfl dX12_readFeels_170 ?_
                    refine lv_if_ne (tgt := 202) hx hb dX12_readFeels_173 (by decide) (fun c_796 => ?_) (fun h9 => (z_no (by have h8 := z_feqF h9; omega)))
                    have b_797 := z_fneT c_796
                    refine lv_aload_n hx hb dX12_readFeels_202 rfl (lv_at hl 1 rfl) ?_
                    refine va_get (D := G) (ci := 12) (v := .int n_785) (C := RX12) (T := TX12) (N := 65) hx hb hts inT12 hown hK hP 5 rfl rfl 12 (by decide) (hts _ tw_1897) (fun _ h9 => h9) rfl dX12_readFeels_203 ?_
                    refine lv_if_le (tgt := 210) hx hb dX12_readFeels_206 (by decide) (fun h9 => (z_no (by have h8 := z_fleT h9; omega))) (fun c_798 => ?_)
                    have b_799 := z_fgtF c_798
                    have hpost : (0 ≤ n_785.toInt ∧ n_785.toInt ≤ 9) ∧ (0 ≤ v_355.toInt ∧ v_355.toInt ≤ 4) ∧ (0 ≤ v_356.toInt ∧ v_356.toInt ≤ 900) ∧ (0 ≤ v_357.toInt ∧ v_357.toInt ≤ 900) ∧ (0 ≤ v_358.toInt ∧ v_358.toInt ≤ 9999) ∧ (0 ≤ v_359.toInt ∧ v_359.toInt ≤ 900) ∧ (zRg 3 0 1 g_29) ∧ (zC g_354) ∧ (zNw g_354 g_isOn) ∧ (m_behind.toInt ≤ v_357.toInt) ∧ (0 < m_bad.toInt → 0 < n_785.toInt) ∧ (n_785.toInt ≤ 0 → v_355.toInt = 0 ∨ m_behind.toInt < v_357.toInt) ∧ (n_785.toInt ≤ 0 → v_355.toInt = 3 → v_358.toInt = 59 → zNf g_354) := ⟨(z_rgw hr_n_785 (by decide) (by decide)), hr_v_355, hr_v_356, hr_v_357, hr_v_358, hr_v_359, hC_g_29, hC_g_354, hs_582, (by omega), (by omega), (by omega), (fun h1 h2 h3 => z_no (by omega))⟩
                    exact hret _ _ _ _ _ (n_785, n_786, v_355, v_356, v_357, v_358, v_359, v_360, g_29, g_354) [5, 4, 2, 3, 0, 1] hP hD hS rfl (by decide) dX12_readFeels_209 hpost
                  · have b_800 := z_feqF c_793
                    refine lv_aload_n hx hb dX12_readFeels_153 rfl (lv_at hl 0 rfl) ?_
                    refine va_get (D := G) (ci := 12) (v := .int v_358) (C := RX12) (T := TX12) (N := 65) hx hb hts inT12 hown hK hP 5 rfl rfl 17 (by decide) (hts _ tw_1902) (fun _ h9 => h9) rfl dX12_readFeels_154 ?_
                    refine lv_goto (tgt := 167) hx hb dX12_readFeels_157 (by decide) ?_
                    refine lv_istore (lv' := [(4, .int v_358), (0, .ref h0), (1, .int r_13), (2, .int x_41), (3, .int v_351), (5, .int v_353)]) hx hb dX12_readFeels_167 hl (by decide) rfl (fun ls hl => ?_)
                    refine lv_aload_n hx hb dX12_readFeels_169 rfl (lv_at hl 1 rfl) ?_
                    refine va_get (D := G) (ci := 12) (v := .int n_785) (C := RX12) (T := TX12) (N := 65) hx hb hts inT12 hown hK hP 5 rfl rfl 12 (by decide) (hts _ tw_1897) (fun _ h9 => h9) rfl dX12_readFeels_170 ?_
                    refine lv_if_ne (tgt := 202) hx hb dX12_readFeels_173 (by decide) (fun c_801 => ?_) (fun h9 => (z_no (by have h8 := z_feqF h9; omega)))
                    have b_802 := z_fneT c_801
                    refine lv_aload_n hx hb dX12_readFeels_202 rfl (lv_at hl 1 rfl) ?_
                    refine va_get (D := G) (ci := 12) (v := .int n_785) (C := RX12) (T := TX12) (N := 65) hx hb hts inT12 hown hK hP 5 rfl rfl 12 (by decide) (hts _ tw_1897) (fun _ h9 => h9) rfl dX12_readFeels_203 ?_
                    refine lv_if_le (tgt := 210) hx hb dX12_readFeels_206 (by decide) (fun h9 => (z_no (by have h8 := z_fleT h9; omega))) (fun c_803 => ?_)
                    have b_804 := z_fgtF c_803
                    have hpost : (0 ≤ n_785.toInt ∧ n_785.toInt ≤ 9) ∧ (0 ≤ v_355.toInt ∧ v_355.toInt ≤ 4) ∧ (0 ≤ v_356.toInt ∧ v_356.toInt ≤ 900) ∧ (0 ≤ v_357.toInt ∧ v_357.toInt ≤ 900) ∧ (0 ≤ v_358.toInt ∧ v_358.toInt ≤ 9999) ∧ (0 ≤ v_359.toInt ∧ v_359.toInt ≤ 900) ∧ (zRg 3 0 1 g_29) ∧ (zC g_354) ∧ (zNw g_354 g_isOn) ∧ (m_behind.toInt ≤ v_357.toInt) ∧ (0 < m_bad.toInt → 0 < n_785.toInt) ∧ (n_785.toInt ≤ 0 → v_355.toInt = 0 ∨ m_behind.toInt < v_357.toInt) ∧ (n_785.toInt ≤ 0 → v_355.toInt = 3 → v_358.toInt = 59 → zNf g_354) := ⟨(z_rgw hr_n_785 (by decide) (by decide)), hr_v_355, hr_v_356, hr_v_357, hr_v_358, hr_v_359, hC_g_29, hC_g_354, hs_582, (by omega), (by omega), (by omega), (fun h1 h2 h3 => z_no (by omega))⟩
                    exact hret _ _ _ _ _ (n_785, n_786, v_355, v_356, v_357, v_358, v_359, v_360, g_29, g_354) [5, 4, 2, 3, 0, 1] hP hD hS rfl (by decide) dX12_readFeels_209 hpost
              · have b_805 := z_fneF c_611
                refine lv_aload_n hx hb dX12_readFeels_94 rfl (lv_at hl 0 rfl) ?_
                refine z_callVv (As := []) (rest := []) (wr := [(a_hasFeels, .inl (cA.1 3, 3, .inl g_29)), (a_isOn, .inl (cA.1 3, 10, .inl g_isOn)), (a_c, .inl (cA.1 0, 1825, .inl g_354)), (a_words, .inl (cA.1 1, 105, .inr (.inl g_words))), (a_tape, .inl (cA.1 2, 900, .inl g_tape))]) ⟨hx, hb, hml, hown, hts⟩ hK hE hT hP hD hS hA (r_wrong l G cA h0 m_status m_thrown m_above m_under a_traySort a_trayMany a_numbers a_tape m_taped m_textEnd m_faultKind m_faultAt n_11 n_12 v_355 v_356 v_357 v_358 v_359 v_360 a_c a_words m_markMany a_there a_tried a_best a_found m_thereMany m_foundMany m_orderHow m_orderRing m_orderMany m_hasBest m_bestTop m_bestBy a_weights a_shared m_random m_truePlace m_trueWay m_seconds m_done m_feelings m_tries m_leftOver m_playDoor m_playRing m_isOpen m_isOver m_wasTried m_hasPlayed a_feltNow a_last a_kept m_hasSeconds m_hasTurned m_hasRound a_hasFeels a_isOn m_firstAct m_meanTop m_meanBy a_order m_rowMany m_newSteps hr_v_356 hr_n_11 hr_v_355) lk_RX12_187 ⟨rfl, rfl⟩ ⟨Nat.le_of_ble_eq_true rfl, Nat.le_of_ble_eq_true rfl⟩ 12 rfl rfl rfl [4] [0, 1, 2, 3, 5] rfl rfl (by decide) rfl hl.1 rfl (lv_room (Nat.le_of_ble_eq_true rfl)) dX12_readFeels_95 ⟨Nat.le_of_ble_eq_true rfl, Nat.le_of_ble_eq_true rfl⟩ (fun u_809 H locs hw hP hD hS => ?_)
                obtain ⟨n_806, n_807⟩ := u_809
                try dsimp only at hw
                have hr_n_806 := hw
                refine lv_aload_n hx hb dX12_readFeels_98 rfl (lv_at hl 0 rfl) ?_
                refine va_get (D := G) (ci := 12) (v := .int n_806) (C := RX12) (T := TX12) (N := 65) hx hb hts inT12 hown hK hP 5 rfl rfl 12 (by decide) (hts _ tw_1897) (fun _ h9 => h9) rfl dX12_readFeels_99 ?_
                refine lv_if_ne (tgt := 123) hx hb dX12_readFeels_102 (by decide) (fun c_810 => ?_) (fun h9 => (z_no (by have h8 := z_feqF h9; omega)))
                have b_811 := z_fneT c_810
                refine lv_aload_n hx hb dX12_readFeels_123 rfl (lv_at hl 0 rfl) ?_
                refine va_get (D := G) (ci := 12) (v := .int n_806) (C := RX12) (T := TX12) (N := 65) hx hb hts inT12 hown hK hP 5 rfl rfl 12 (by decide) (hts _ tw_1897) (fun _ h9 => h9) rfl dX12_readFeels_124 ?_
                refine lv_if_ne (tgt := 147) hx hb dX12_readFeels_127 (by decide) (fun c_812 => ?_) (fun h9 => (z_no (by have h8 := z_feqF h9; omega)))
                have b_813 := z_fneT c_812
                refine lv_iload_n hx hb dX12_readFeels_147 rfl (lv_at hl 3 rfl) ?_
                refine lv_iload_n hx hb dX12_readFeels_148 rfl (lv_at hl 2 rfl) ?_
                refine lv_irem hx hb dX12_readFeels_149 (z_nz (by omega)) ?_
                refine lv_topi (fun x_814 he_x_814 => ?_)
                have hq_x_814 := z_remq he_x_814 (rfl : v_351.toInt = _) (by omega : x_41.toInt = 2) (by omega) (by decide)
                refine lv_if_ne (tgt := 160) hx hb dX12_readFeels_150 (by decide) (fun c_815 => ?_) (fun c_815 => ?_)
                · have b_816 := z_fneT c_815
                  refine lv_iload hx hb dX12_readFeels_160 (lv_at hl 4 rfl) ?_
                  refine lv_aload_n hx hb dX12_readFeels_162 rfl (lv_at hl 0 rfl) ?_
                  refine va_get (D := G) (ci := 12) (v := .int v_358) (C := RX12) (T := TX12) (N := 65) hx hb hts inT12 hown hK hP 5 rfl rfl 17 (by decide) (hts _ tw_1902) (fun _ h9 => h9) rfl dX12_readFeels_163 ?_
                  refine lv_iadd hx hb dX12_readFeels_166 ?_
                  refine lv_topi (fun x_817 he_x_817 => ?_)
                  have hq_x_817 := z_addq he_x_817 (rfl : v_352.toInt = _) (rfl : v_358.toInt = _) (by omega) (by omega)
                  refine lv_istore (lv' := [(4, .int x_817), (0, .ref h0), (1, .int r_13), (2, .int x_41), (3, .int v_351), (5, .int v_353)]) hx hb dX12_readFeels_167 hl (by decide) rfl (fun ls hl => ?_)
                  refine lv_aload_n hx hb dX12_readFeels_169 rfl (lv_at hl 1 rfl) ?_
                  refine va_get (D := G) (ci := 12) (v := .int n_806) (C := RX12) (T := TX12) (N := 65) hx hb hts inT12 hown hK hP 5 rfl rfl 12 (by decide) (hts _ tw_1897) (fun _ h9 => h9) rfl dX12_readFeels_170 ?_
                  refine lv_if_ne (tgt := 202) hx hb dX12_readFeels_173 (by decide) (fun c_818 => ?_) (fun h9 => (z_no (by have h8 := z_feqF h9; omega)))
                  have b_819 := z_fneT c_818
                  refine lv_aload_n hx hb dX12_readFeels_202 rfl (lv_at hl 1 rfl) ?_
                  refine va_get (D := G) (ci := 12) (v := .int n_806) (C := RX12) (T := TX12) (N := 65) hx hb hts inT12 hown hK hP 5 rfl rfl 12 (by decide) (hts _ tw_1897) (fun _ h9 => h9) rfl dX12_readFeels_203 ?_
                  refine lv_if_le (tgt := 210) hx hb dX12_readFeels_206 (by decide) (fun h9 => (z_no (by have h8 := z_fleT h9; omega))) (fun c_820 => ?_)
                  have b_821 := z_fgtF c_820
                  have hpost : (0 ≤ n_806.toInt ∧ n_806.toInt ≤ 9) ∧ (0 ≤ v_355.toInt ∧ v_355.toInt ≤ 4) ∧ (0 ≤ v_356.toInt ∧ v_356.toInt ≤ 900) ∧ (0 ≤ v_357.toInt ∧ v_357.toInt ≤ 900) ∧ (0 ≤ v_358.toInt ∧ v_358.toInt ≤ 9999) ∧ (0 ≤ v_359.toInt ∧ v_359.toInt ≤ 900) ∧ (zRg 3 0 1 g_29) ∧ (zC g_354) ∧ (zNw g_354 g_isOn) ∧ (m_behind.toInt ≤ v_357.toInt) ∧ (0 < m_bad.toInt → 0 < n_806.toInt) ∧ (n_806.toInt ≤ 0 → v_355.toInt = 0 ∨ m_behind.toInt < v_357.toInt) ∧ (n_806.toInt ≤ 0 → v_355.toInt = 3 → v_358.toInt = 59 → zNf g_354) := ⟨(z_rgw hr_n_806 (by decide) (by decide)), hr_v_355, hr_v_356, hr_v_357, hr_v_358, hr_v_359, hC_g_29, hC_g_354, hs_582, (by omega), (by omega), (by omega), (fun h1 h2 h3 => z_no (by omega))⟩
                  exact hret _ _ _ _ _ (n_806, n_807, v_355, v_356, v_357, v_358, v_359, v_360, g_29, g_354) [5, 4, 2, 3, 0, 1] hP hD hS rfl (by decide) dX12_readFeels_209 hpost
                · have b_822 := z_feqF c_815
                  refine lv_aload_n hx hb dX12_readFeels_153 rfl (lv_at hl 0 rfl) ?_
                  refine va_get (D := G) (ci := 12) (v := .int v_358) (C := RX12) (T := TX12) (N := 65) hx hb hts inT12 hown hK hP 5 rfl rfl 17 (by decide) (hts _ tw_1902) (fun _ h9 => h9) rfl dX12_readFeels_154 ?_
                  refine lv_goto (tgt := 167) hx hb dX12_readFeels_157 (by decide) ?_
                  refine lv_istore (lv' := [(4, .int v_358), (0, .ref h0), (1, .int r_13), (2, .int x_41), (3, .int v_351), (5, .int v_353)]) hx hb dX12_readFeels_167 hl (by decide) rfl (fun ls hl => ?_)
                  refine lv_aload_n hx hb dX12_readFeels_169 rfl (lv_at hl 1 rfl) ?_
                  refine va_get (D := G) (ci := 12) (v := .int n_806) (C := RX12) (T := TX12) (N := 65) hx hb hts inT12 hown hK hP 5 rfl rfl 12 (by decide) (hts _ tw_1897) (fun _ h9 => h9) rfl dX12_readFeels_170 ?_
                  refine lv_if_ne (tgt := 202) hx hb dX12_readFeels_173 (by decide) (fun c_823 => ?_) (fun h9 => (z_no (by have h8 := z_feqF h9; omega)))
                  have b_824 := z_fneT c_823
                  refine lv_aload_n hx hb dX12_readFeels_202 rfl (lv_at hl 1 rfl) ?_
                  refine va_get (D := G) (ci := 12) (v := .int n_806) (C := RX12) (T := TX12) (N := 65) hx hb hts inT12 hown hK hP 5 rfl rfl 12 (by decide) (hts _ tw_1897) (fun _ h9 => h9) rfl dX12_readFeels_203 ?_
                  refine lv_if_le (tgt := 210) hx hb dX12_readFeels_206 (by decide) (fun h9 => (z_no (by have h8 := z_fleT h9; omega))) (fun c_825 => ?_)
                  have b_826 := z_fgtF c_825
                  have hpost : (0 ≤ n_806.toInt ∧ n_806.toInt ≤ 9) ∧ (0 ≤ v_355.toInt ∧ v_355.toInt ≤ 4) ∧ (0 ≤ v_356.toInt ∧ v_356.toInt ≤ 900) ∧ (0 ≤ v_357.toInt ∧ v_357.toInt ≤ 900) ∧ (0 ≤ v_358.toInt ∧ v_358.toInt ≤ 9999) ∧ (0 ≤ v_359.toInt ∧ v_359.toInt ≤ 900) ∧ (zRg 3 0 1 g_29) ∧ (zC g_354) ∧ (zNw g_354 g_isOn) ∧ (m_behind.toInt ≤ v_357.toInt) ∧ (0 < m_bad.toInt → 0 < n_806.toInt) ∧ (n_806.toInt ≤ 0 → v_355.toInt = 0 ∨ m_behind.toInt < v_357.toInt) ∧ (n_806.toInt ≤ 0 → v_355.toInt = 3 → v_358.toInt = 59 → zNf g_354) := ⟨(z_rgw hr_n_806 (by decide) (by decide)), hr_v_355, hr_v_356, hr_v_357, hr_v_358, hr_v_359, hC_g_29, hC_g_354, hs_582, (by omega), (by omega), (by omega), (fun h1 h2 h3 => z_no (by omega))⟩
                  exact hret _ _ _ _ _ (n_806, n_807, v_355, v_356, v_357, v_358, v_359, v_360, g_29, g_354) [5, 4, 2, 3, 0, 1] hP hD hS rfl (by decide) dX12_readFeels_209 hpost
        exact hlp_589 _ 0 0 1 g_c n_30 n_31 n_32 n_33 n_34 n_35 _ _ _ (Nat.lt_succ_self _) (by decide +kernel) (by decide +kernel) (by decide +kernel) hC_g_c hr_n_30 hr_n_31 hr_n_32 hr_n_33 hr_n_34 hNW0 (zFl_0 (by omega)) (by omega) (by omega) (by omega) (by omega) (by omega) hP hD hS (lv_sub hl [5, 4, 3, 2, 1, 0] rfl)
      · skip
        refine lv_iconst (v := 0) hx hb dX12_readFeels_66 (by decide) ?_
        refine lv_istore_n (lv' := [(3, .int 0), (2, .int x_41), (1, .int r_13), (0, .ref h0)]) hx hb dX12_readFeels_67 rfl hl (by decide) rfl (fun ls hl => ?_)
        refine lv_iconst (v := 0) hx hb dX12_readFeels_68 (by decide) ?_
        refine lv_istore (lv' := [(4, .int 0), (3, .int 0), (2, .int x_41), (1, .int r_13), (0, .ref h0)]) hx hb dX12_readFeels_69 hl (by decide) rfl (fun ls hl => ?_)
        refine lv_iconst (v := 1) hx hb dX12_readFeels_71 (by decide) ?_
        refine lv_istore (lv' := [(5, .int 1), (4, .int 0), (3, .int 0), (2, .int x_41), (1, .int r_13), (0, .ref h0)]) hx hb dX12_readFeels_72 hl (by decide) rfl (fun ls hl => ?_)
        have hlp_1373 : ∀ (n : Nat) (v_1135 : Int32) (v_1136 : Int32) (v_1137 : Int32) (g_1138 : Nat → Int32) (v_1139 : Int32) (v_1140 : Int32) (v_1141 : Int32) (v_1142 : Int32) (v_1143 : Int32) (v_1144 : Int64) (H : Heap) (locs : List Loc) (ls : Array Slot), (900 - v_1141.toInt + v_1137.toInt).toNat < n → (0 ≤ v_1135.toInt ∧ v_1135.toInt ≤ 16) → (0 ≤ v_1136.toInt ∧ v_1136.toInt ≤ 256) → (0 ≤ v_1137.toInt ∧ v_1137.toInt ≤ 1) → (zC g_1138) → (0 ≤ v_1139.toInt ∧ v_1139.toInt ≤ 4) → (0 ≤ v_1140.toInt ∧ v_1140.toInt ≤ 900) → (0 ≤ v_1141.toInt ∧ v_1141.toInt ≤ 900) → (0 ≤ v_1142.toInt ∧ v_1142.toInt ≤ 9999) → (0 ≤ v_1143.toInt ∧ v_1143.toInt ≤ 900) → (zNw g_1138 g_isOn) → (zFl g_c g_1138 r_13.toInt x_41.toInt v_1135.toInt v_1136.toInt) → (v_1135.toInt ≤ 9) → (v_1136.toInt ≤ 16 * v_1135.toInt) → ((g_1138 1460).toInt = (g_c 1460).toInt) → (m_behind.toInt ≤ v_1141.toInt) → (n_11.toInt ≤ 0 → v_1139.toInt = 0 ∨ m_behind.toInt < v_1141.toInt) → va_P G vwCl [(a_hasFeels, .inl (cA.1 3, 3, .inl g_29)), (a_isOn, .inl (cA.1 3, 10, .inl g_isOn)), (a_c, .inl (cA.1 0, 1825, .inl g_1138)), (a_words, .inl (cA.1 1, 105, .inr (.inl g_words))), (h0, .inr (12, [.int m_status, .int m_thrown, .long m_above, .long m_under, .ref a_traySort, .ref a_trayMany, .ref a_numbers, .ref a_tape, .int m_taped, .int m_textEnd, .int m_faultKind, .int m_faultAt, .int n_11, .int n_12, .int v_1139, .int v_1140, .int v_1141, .int v_1142, .int v_1143, .long v_1144, .ref a_c, .ref a_words, .int m_markMany, .ref a_there, .ref a_tried, .ref a_best, .ref a_found, .int m_thereMany, .int m_foundMany, .int m_orderHow, .int m_orderRing, .int m_orderMany, .int m_hasBest, .long m_bestTop, .long m_bestBy, .ref a_weights, .ref a_shared, .int m_random, .int m_truePlace, .int m_trueWay, .int m_seconds, .int m_done, .int m_feelings, .int m_tries, .int m_leftOver, .int m_playDoor, .int m_playRing, .int m_isOpen, .int m_isOver, .int m_wasTried, .int m_hasPlayed, .ref a_feltNow, .ref a_last, .ref a_kept, .int m_hasSeconds, .int m_hasTurned, .int m_hasRound, .ref a_hasFeels, .ref a_isOn, .int m_firstAct, .long m_meanTop, .long m_meanBy, .ref a_order, .int m_rowMany, .int m_newSteps])), (a_tape, .inl (cA.1 2, 900, .inl g_tape))] H → va_D A [(a_hasFeels, .inl (cA.1 3, 3, .inl g_29)), (a_isOn, .inl (cA.1 3, 10, .inl g_isOn)), (a_c, .inl (cA.1 0, 1825, .inl g_1138)), (a_words, .inl (cA.1 1, 105, .inr (.inl g_words))), (h0, .inr (12, [.int m_status, .int m_thrown, .long m_above, .long m_under, .ref a_traySort, .ref a_trayMany, .ref a_numbers, .ref a_tape, .int m_taped, .int m_textEnd, .int m_faultKind, .int m_faultAt, .int n_11, .int n_12, .int v_1139, .int v_1140, .int v_1141, .int v_1142, .int v_1143, .long v_1144, .ref a_c, .ref a_words, .int m_markMany, .ref a_there, .ref a_tried, .ref a_best, .ref a_found, .int m_thereMany, .int m_foundMany, .int m_orderHow, .int m_orderRing, .int m_orderMany, .int m_hasBest, .long m_bestTop, .long m_bestBy, .ref a_weights, .ref a_shared, .int m_random, .int m_truePlace, .int m_trueWay, .int m_seconds, .int m_done, .int m_feelings, .int m_tries, .int m_leftOver, .int m_playDoor, .int m_playRing, .int m_isOpen, .int m_isOver, .int m_wasTried, .int m_hasPlayed, .ref a_feltNow, .ref a_last, .ref a_kept, .int m_hasSeconds, .int m_hasTurned, .int m_hasRound, .ref a_hasFeels, .ref a_isOn, .int m_firstAct, .long m_meanTop, .long m_meanBy, .ref a_order, .int m_rowMany, .int m_newSteps])), (a_tape, .inl (cA.1 2, 900, .inl g_tape))] → va_S A s.heap H locs → lv_has ls 6 [(0, .ref h0), (1, .int r_13), (2, .int x_41), (3, .int v_1135), (4, .int v_1136), (5, .int v_1137)] → W p l e ({ frames := 4, cells := 0, slots := 0, locals := 90 }) s m args below meth c H locs 0 0 Q (F0 m 74 ls []) := by
          intro n
          induction n with
          | zero =>
            intro v_1135 v_1136 v_1137 g_1138 v_1139 v_1140 v_1141 v_1142 v_1143 v_1144 H locs ls hmu_hlp_1373 hr_v_1135 hr_v_1136 hr_v_1137 hC_g_1138 hr_v_1139 hr_v_1140 hr_v_1141 hr_v_1142 hr_v_1143 hs_1366 hi_1367 hi_1368 hi_1369 hi_1370 hi_1371 hi_1372 hP hD hS hl
            exact absurd hmu_hlp_1373 (Nat.not_lt_zero _)
          | succ n ih_1374 =>
            intro v_1135 v_1136 v_1137 g_1138 v_1139 v_1140 v_1141 v_1142 v_1143 v_1144 H locs ls hmu_hlp_1373 hr_v_1135 hr_v_1136 hr_v_1137 hC_g_1138 hr_v_1139 hr_v_1140 hr_v_1141 hr_v_1142 hr_v_1143 hs_1366 hi_1367 hi_1368 hi_1369 hi_1370 hi_1371 hi_1372 hP hD hS hl
            refine lv_iload hx hb dX12_readFeels_74 (lv_at hl 5 rfl) ?_
            refine lv_if_eq (tgt := 262) hx hb dX12_readFeels_76 (by decide) (fun c_1375 => ?_) (fun c_1375 => ?_)
            · have b_1376 := z_feqT c_1375
              refine lv_aload_n hx hb dX12_readFeels_262 rfl (lv_at hl 0 rfl) ?_
              refine va_get (D := G) (ci := 12) (v := .int n_11) (C := RX12) (T := TX12) (N := 65) hx hb hts inT12 hown hK hP 4 rfl rfl 12 (by decide) (hts _ tw_1897) (fun _ h9 => h9) rfl dX12_readFeels_263 ?_
              refine lv_if_ne (tgt := 295) hx hb dX12_readFeels_266 (by decide) (fun h9 => (z_no (by have h8 := z_fneT h9; omega))) (fun c_1377 => ?_)
              have b_1378 := z_feqF c_1377
              refine lv_aload_n hx hb dX12_readFeels_269 rfl (lv_at hl 0 rfl) ?_
              refine lv_bipush (v := 59) hx hb dX12_readFeels_270 (by decide) ?_
              refine z_callVi (As := [.int 59]) (rest := []) (wr := [(a_hasFeels, .inl (cA.1 3, 3, .inl g_29)), (a_isOn, .inl (cA.1 3, 10, .inl g_isOn)), (a_c, .inl (cA.1 0, 1825, .inl g_1138)), (a_words, .inl (cA.1 1, 105, .inr (.inl g_words))), (a_tape, .inl (cA.1 2, 900, .inl g_tape))]) ⟨hx, hb, hml, hown, hts⟩ hK hE hT hP hD hS hA (r_isSign l G cA h0 m_status m_thrown m_above m_under a_traySort a_trayMany a_numbers a_tape m_taped m_textEnd m_faultKind m_faultAt n_11 n_12 v_1139 v_1140 v_1141 v_1142 v_1143 v_1144 a_c a_words m_markMany a_there a_tried a_best a_found m_thereMany m_foundMany m_orderHow m_orderRing m_orderMany m_hasBest m_bestTop m_bestBy a_weights a_shared m_random m_truePlace m_trueWay m_seconds m_done m_feelings m_tries m_leftOver m_playDoor m_playRing m_isOpen m_isOver m_wasTried m_hasPlayed a_feltNow a_last a_kept m_hasSeconds m_hasTurned m_hasRound a_hasFeels a_isOn m_firstAct m_meanTop m_meanBy a_order m_rowMany m_newSteps 59 hr_v_1139 hr_v_1142) lk_RX12_220 ⟨rfl, rfl⟩ ⟨Nat.le_of_ble_eq_true rfl, Nat.le_of_ble_eq_true rfl⟩ 12 rfl rfl rfl [4] [0, 1, 2, 3, 5] rfl rfl (by decide) rfl hl.1 rfl (lv_room (Nat.le_of_ble_eq_true rfl)) dX12_readFeels_272 ⟨Nat.le_of_ble_eq_true rfl, Nat.le_of_ble_eq_true rfl⟩ (fun r_1379 u_1380 H locs hw hP hD hS => ?_)
              rcases hw with ⟨rfl, hf_1381⟩ | ⟨rfl, hf_1382⟩
              · skip
                refine lv_if_eq (tgt := 295) hx hb dX12_readFeels_275 (by decide) (fun _ => ?_) (fun h9 => absurd (by decide +kernel) h9)
                have hpost : (0 ≤ n_11.toInt ∧ n_11.toInt ≤ 9) ∧ (0 ≤ v_1139.toInt ∧ v_1139.toInt ≤ 4) ∧ (0 ≤ v_1140.toInt ∧ v_1140.toInt ≤ 900) ∧ (0 ≤ v_1141.toInt ∧ v_1141.toInt ≤ 900) ∧ (0 ≤ v_1142.toInt ∧ v_1142.toInt ≤ 9999) ∧ (0 ≤ v_1143.toInt ∧ v_1143.toInt ≤ 900) ∧ (zRg 3 0 1 g_29) ∧ (zC g_1138) ∧ (zNw g_1138 g_isOn) ∧ (m_behind.toInt ≤ v_1141.toInt) ∧ (0 < m_bad.toInt → 0 < n_11.toInt) ∧ (n_11.toInt ≤ 0 → v_1139.toInt = 0 ∨ m_behind.toInt < v_1141.toInt) ∧ (n_11.toInt ≤ 0 → v_1139.toInt = 3 → v_1142.toInt = 59 → zNf g_1138) := ⟨hr_n_11, hr_v_1139, hr_v_1140, hr_v_1141, hr_v_1142, hr_v_1143, hC_g_29, hC_g_1138, hs_1366, (by omega), (by omega), (by omega), (fun h1 h2 h3 => (zFl_end hi_1367 hC_g_1138.1 hNF0 (by omega) (by omega) (by omega) (by rw [h_42]; omega)))⟩
                exact hret _ _ _ _ _ (n_11, n_12, v_1139, v_1140, v_1141, v_1142, v_1143, v_1144, g_29, g_1138) [5, 4, 2, 3, 0, 1] hP hD hS rfl (by decide) dX12_readFeels_295 hpost
              · skip
                refine lv_if_eq (tgt := 295) hx hb dX12_readFeels_275 (by decide) (fun h9 => absurd h9 (by decide +kernel)) (fun _ => ?_)
                refine lv_iload_n hx hb dX12_readFeels_278 rfl (lv_at hl 3 rfl) ?_
                refine lv_iload_n hx hb dX12_readFeels_279 rfl (lv_at hl 2 rfl) ?_
                refine lv_iload_n hx hb dX12_readFeels_280 rfl (lv_at hl 2 rfl) ?_
                refine lv_imul hx hb dX12_readFeels_281 ?_
                refine lv_topi (fun x_1383 he_x_1383 => ?_)
                have hq_x_1383 := z_mulq he_x_1383 (by omega : x_41.toInt = 3) (rfl : x_41.toInt = _) (by omega) (by omega)
                refine lv_icmp_ge (tgt := 295) hx hb dX12_readFeels_282 (by decide) (fun c_1384 => ?_) (fun c_1384 => ?_)
                · have b_1385 := z_fgeT c_1384
                  have hpost : (0 ≤ n_11.toInt ∧ n_11.toInt ≤ 9) ∧ (0 ≤ v_1139.toInt ∧ v_1139.toInt ≤ 4) ∧ (0 ≤ v_1140.toInt ∧ v_1140.toInt ≤ 900) ∧ (0 ≤ v_1141.toInt ∧ v_1141.toInt ≤ 900) ∧ (0 ≤ v_1142.toInt ∧ v_1142.toInt ≤ 9999) ∧ (0 ≤ v_1143.toInt ∧ v_1143.toInt ≤ 900) ∧ (zRg 3 0 1 g_29) ∧ (zC g_1138) ∧ (zNw g_1138 g_isOn) ∧ (m_behind.toInt ≤ v_1141.toInt) ∧ (0 < m_bad.toInt → 0 < n_11.toInt) ∧ (n_11.toInt ≤ 0 → v_1139.toInt = 0 ∨ m_behind.toInt < v_1141.toInt) ∧ (n_11.toInt ≤ 0 → v_1139.toInt = 3 → v_1142.toInt = 59 → zNf g_1138) := ⟨hr_n_11, hr_v_1139, hr_v_1140, hr_v_1141, hr_v_1142, hr_v_1143, hC_g_29, hC_g_1138, hs_1366, (by omega), (by omega), (by omega), (fun h1 h2 h3 => (zFl_end hi_1367 hC_g_1138.1 hNF0 (by omega) (by omega) (by omega) (by rw [h_42]; omega)))⟩
                  exact hret _ _ _ _ _ (n_11, n_12, v_1139, v_1140, v_1141, v_1142, v_1143, v_1144, g_29, g_1138) [5, 4, 2, 3, 0, 1] hP hD hS rfl (by decide) dX12_readFeels_295 hpost
                · have b_1386 := z_fltF c_1384
                  refine lv_aload_n hx hb dX12_readFeels_285 rfl (lv_at hl 0 rfl) ?_
                  refine lv_bipush (v := 8) hx hb dX12_readFeels_286 (by decide) ?_
                  refine lv_aload_n hx hb dX12_readFeels_288 rfl (lv_at hl 0 rfl) ?_
                  refine va_get (D := G) (ci := 12) (v := .int v_1140) (C := RX12) (T := TX12) (N := 65) hx hb hts inT12 hown hK hP 5 rfl rfl 15 (by decide) (hts _ tw_1900) (fun _ h9 => h9) rfl dX12_readFeels_289 ?_
                  refine z_callVv (As := [.int 8, .int v_1140]) (rest := []) (wr := [(a_hasFeels, .inl (cA.1 3, 3, .inl g_29)), (a_isOn, .inl (cA.1 3, 10, .inl g_isOn)), (a_c, .inl (cA.1 0, 1825, .inl g_1138)), (a_words, .inl (cA.1 1, 105, .inr (.inl g_words))), (a_tape, .inl (cA.1 2, 900, .inl g_tape))]) ⟨hx, hb, hml, hown, hts⟩ hK hE hT hP hD hS hA (r_fail l G cA h0 m_status m_thrown m_above m_under a_traySort a_trayMany a_numbers a_tape m_taped m_textEnd m_faultKind m_faultAt n_11 n_12 v_1139 v_1140 v_1141 v_1142 v_1143 v_1144 a_c a_words m_markMany a_there a_tried a_best a_found m_thereMany m_foundMany m_orderHow m_orderRing m_orderMany m_hasBest m_bestTop m_bestBy a_weights a_shared m_random m_truePlace m_trueWay m_seconds m_done m_feelings m_tries m_leftOver m_playDoor m_playRing m_isOpen m_isOver m_wasTried m_hasPlayed a_feltNow a_last a_kept m_hasSeconds m_hasTurned m_hasRound a_hasFeels a_isOn m_firstAct m_meanTop m_meanBy a_order m_rowMany m_newSteps 8 v_1140 (by decide +kernel) hr_n_11) lk_RX12_180 ⟨rfl, rfl⟩ ⟨Nat.le_of_ble_eq_true rfl, Nat.le_of_ble_eq_true rfl⟩ 12 rfl rfl rfl [5] [0, 1, 2, 3, 4] rfl rfl (by decide) rfl hl.1 rfl (lv_room (Nat.le_of_ble_eq_true rfl)) dX12_readFeels_292 ⟨Nat.le_of_ble_eq_true rfl, Nat.le_of_ble_eq_true rfl⟩ (fun u_1390 H locs hw hP hD hS => ?_)
                  obtain ⟨n_1387, n_1388⟩ := u_1390
                  try dsimp only at hw
                  obtain ⟨hr_n_1387, hf_1391⟩ := hw
                  have hpost : (0 ≤ n_1387.toInt ∧ n_1387.toInt ≤ 9) ∧ (0 ≤ v_1139.toInt ∧ v_1139.toInt ≤ 4) ∧ (0 ≤ v_1140.toInt ∧ v_1140.toInt ≤ 900) ∧ (0 ≤ v_1141.toInt ∧ v_1141.toInt ≤ 900) ∧ (0 ≤ v_1142.toInt ∧ v_1142.toInt ≤ 9999) ∧ (0 ≤ v_1143.toInt ∧ v_1143.toInt ≤ 900) ∧ (zRg 3 0 1 g_29) ∧ (zC g_1138) ∧ (zNw g_1138 g_isOn) ∧ (m_behind.toInt ≤ v_1141.toInt) ∧ (0 < m_bad.toInt → 0 < n_1387.toInt) ∧ (n_1387.toInt ≤ 0 → v_1139.toInt = 0 ∨ m_behind.toInt < v_1141.toInt) ∧ (n_1387.toInt ≤ 0 → v_1139.toInt = 3 → v_1142.toInt = 59 → zNf g_1138) := ⟨(z_rgw hr_n_1387 (by decide) (by decide)), hr_v_1139, hr_v_1140, hr_v_1141, hr_v_1142, hr_v_1143, hC_g_29, hC_g_1138, hs_1366, (by omega), (by omega), (by omega), (fun h1 h2 h3 => (zFl_end hi_1367 hC_g_1138.1 hNF0 (by omega) (by omega) (by omega) (by rw [h_42]; omega)))⟩
                  exact hret _ _ _ _ _ (n_1387, n_1388, v_1139, v_1140, v_1141, v_1142, v_1143, v_1144, g_29, g_1138) [5, 4, 2, 3, 0, 1] hP hD hS rfl (by decide) dX12_readFeels_295 hpost
            · have b_1392 := z_fneF c_1375
              refine lv_aload_n hx hb dX12_readFeels_79 rfl (lv_at hl 0 rfl) ?_
              refine va_get (D := G) (ci := 12) (v := .int n_11) (C := RX12) (T := TX12) (N := 65) hx hb hts inT12 hown hK hP 4 rfl rfl 12 (by decide) (hts _ tw_1897) (fun _ h9 => h9) rfl dX12_readFeels_80 ?_
              refine lv_if_ne (tgt := 262) hx hb dX12_readFeels_83 (by decide) (fun h9 => (z_no (by have h8 := z_fneT h9; omega))) (fun c_1393 => ?_)
              have b_1394 := z_feqF c_1393
              refine lv_aload_n hx hb dX12_readFeels_86 rfl (lv_at hl 0 rfl) ?_
              refine va_get (D := G) (ci := 12) (v := .int v_1139) (C := RX12) (T := TX12) (N := 65) hx hb hts inT12 hown hK hP 4 rfl rfl 14 (by decide) (hts _ tw_1899) (fun _ h9 => h9) rfl dX12_readFeels_87 ?_
              refine lv_iconst (v := 2) hx hb dX12_readFeels_90 (by decide) ?_
              refine lv_icmp_eq (tgt := 98) hx hb dX12_readFeels_91 (by decide) (fun c_1395 => ?_) (fun c_1395 => ?_)
              · have b_1396 := z_feqT c_1395
                refine lv_aload_n hx hb dX12_readFeels_98 rfl (lv_at hl 0 rfl) ?_
                refine va_get (D := G) (ci := 12) (v := .int n_11) (C := RX12) (T := TX12) (N := 65) hx hb hts inT12 hown hK hP 4 rfl rfl 12 (by decide) (hts _ tw_1897) (fun _ h9 => h9) rfl dX12_readFeels_99 ?_
                refine lv_if_ne (tgt := 123) hx hb dX12_readFeels_102 (by decide) (fun h9 => (z_no (by have h8 := z_fneT h9; omega))) (fun c_1397 => ?_)
                have b_1398 := z_feqF c_1397
                refine lv_aload_n hx hb dX12_readFeels_105 rfl (lv_at hl 0 rfl) ?_
                refine va_get (D := G) (ci := 12) (v := .int v_1142) (C := RX12) (T := TX12) (N := 65) hx hb hts inT12 hown hK hP 4 rfl rfl 17 (by decide) (hts _ tw_1902) (fun _ h9 => h9) rfl dX12_readFeels_106 ?_
                refine lv_bipush (v := 16) hx hb dX12_readFeels_109 (by decide) ?_
                refine lv_icmp_le (tgt := 123) hx hb dX12_readFeels_111 (by decide) (fun c_1399 => ?_) (fun c_1399 => ?_)
                · have b_1400 := z_fleT c_1399
                  refine lv_aload_n hx hb dX12_readFeels_123 rfl (lv_at hl 0 rfl) ?_
                  refine va_get (D := G) (ci := 12) (v := .int n_11) (C := RX12) (T := TX12) (N := 65) hx hb hts inT12 hown hK hP 4 rfl rfl 12 (by decide) (hts _ tw_1897) (fun _ h9 => h9) rfl dX12_readFeels_124 ?_
                  refine lv_if_ne (tgt := 147) hx hb dX12_readFeels_127 (by decide) (fun h9 => (z_no (by have h8 := z_fneT h9; omega))) (fun c_1401 => ?_)
                  have b_1402 := z_feqF c_1401
                  refine lv_iload_n hx hb dX12_readFeels_130 rfl (lv_at hl 3 rfl) ?_
                  refine lv_iload_n hx hb dX12_readFeels_131 rfl (lv_at hl 2 rfl) ?_
                  refine lv_iload_n hx hb dX12_readFeels_132 rfl (lv_at hl 2 rfl) ?_
                  refine lv_imul hx hb dX12_readFeels_133 ?_
                  refine lv_topi (fun x_1403 he_x_1403 => ?_)
                  have hq_x_1403 := z_mulq he_x_1403 (by omega : x_41.toInt = 3) (rfl : x_41.toInt = _) (by omega) (by omega)
                  refine lv_icmp_ne (tgt := 147) hx hb dX12_readFeels_134 (by decide) (fun c_1404 => ?_) (fun c_1404 => ?_)
                  · have b_1405 := z_fneT c_1404
                    refine lv_iload_n hx hb dX12_readFeels_147 rfl (lv_at hl 3 rfl) ?_
                    refine lv_iload_n hx hb dX12_readFeels_148 rfl (lv_at hl 2 rfl) ?_
                    refine lv_irem hx hb dX12_readFeels_149 (z_nz (by omega)) ?_
                    refine lv_topi (fun x_1406 he_x_1406 => ?_)
                    have hq_x_1406 := z_remq he_x_1406 (rfl : v_1135.toInt = _) (by omega : x_41.toInt = 3) (by omega) (by decide)
                    refine lv_if_ne (tgt := 160) hx hb dX12_readFeels_150 (by decide) (fun c_1407 => ?_) (fun c_1407 => ?_)
                    · have b_1408 := z_fneT c_1407
                      refine lv_iload hx hb dX12_readFeels_160 (lv_at hl 4 rfl) ?_
                      refine lv_aload_n hx hb dX12_readFeels_162 rfl (lv_at hl 0 rfl) ?_
                      refine va_get (D := G) (ci := 12) (v := .int v_1142) (C := RX12) (T := TX12) (N := 65) hx hb hts inT12 hown hK hP 4 rfl rfl 17 (by decide) (hts _ tw_1902) (fun _ h9 => h9) rfl dX12_readFeels_163 ?_
                      refine lv_iadd hx hb dX12_readFeels_166 ?_
                      refine lv_topi (fun x_1409 he_x_1409 => ?_)
                      have hq_x_1409 := z_addq he_x_1409 (rfl : v_1136.toInt = _) (rfl : v_1142.toInt = _) (by omega) (by omega)
                      refine lv_istore (lv' := [(4, .int x_1409), (0, .ref h0), (1, .int r_13), (2, .int x_41), (3, .int v_1135), (5, .int v_1137)]) hx hb dX12_readFeels_167 hl (by decide) rfl (fun ls hl => ?_)
                      refine lv_aload_n hx hb dX12_readFeels_169 rfl (lv_at hl 1 rfl) ?_
                      refine va_get (D := G) (ci := 12) (v := .int n_11) (C := RX12) (T := TX12) (N := 65) hx hb hts inT12 hown hK hP 4 rfl rfl 12 (by decide) (hts _ tw_1897) (fun _ h9 => h9) rfl dX12_readFeels_170 ?_
                      refine lv_if_ne (tgt := 202) hx hb dX12_readFeels_173 (by decide) (fun h9 => (z_no (by have h8 := z_fneT h9; omega))) (fun c_1410 => ?_)
                      have b_1411 := z_feqF c_1410
                      refine lv_iload_n hx hb dX12_readFeels_176 rfl (lv_at hl 4 rfl) ?_
                      refine lv_iload_n hx hb dX12_readFeels_177 rfl (lv_at hl 3 rfl) ?_
                      refine lv_irem hx hb dX12_readFeels_178 (z_nz (by omega)) ?_
                      refine lv_topi (fun x_1412 he_x_1412 => ?_)
                      have hq_x_1412 := z_remq he_x_1412 (rfl : v_1135.toInt = _) (by omega : x_41.toInt = 3) (by omega) (by decide)
                      refine lv_iload_n hx hb dX12_readFeels_179 rfl (lv_at hl 3 rfl) ?_
                      refine lv_iconst (v := 1) hx hb dX12_readFeels_180 (by decide) ?_
                      refine lv_isub hx hb dX12_readFeels_181 ?_
                      refine lv_topi (fun x_1413 he_x_1413 => ?_)
                      have hq_x_1413 := z_subq he_x_1413 (rfl : x_41.toInt = _) hk_1 (by omega) (by omega)
                      refine lv_icmp_ne (tgt := 202) hx hb dX12_readFeels_182 (by decide) (fun c_1414 => ?_) (fun c_1414 => ?_)
                      · have b_1415 := z_fneT c_1414
                        refine lv_aload_n hx hb dX12_readFeels_202 rfl (lv_at hl 1 rfl) ?_
                        refine va_get (D := G) (ci := 12) (v := .int n_11) (C := RX12) (T := TX12) (N := 65) hx hb hts inT12 hown hK hP 4 rfl rfl 12 (by decide) (hts _ tw_1897) (fun _ h9 => h9) rfl dX12_readFeels_203 ?_
                        refine lv_if_le (tgt := 210) hx hb dX12_readFeels_206 (by decide) (fun c_1416 => ?_) (fun h9 => (z_no (by have h8 := z_fgtF h9; omega)))
                        have b_1417 := z_fleT c_1416
                        have hn_k_1418 : 0 ≤ v_1135.toInt ∧ v_1135.toInt ≤ 8 := by omega
                        refine lv_aload_n hx hb dX12_readFeels_210 rfl (lv_at hl 1 rfl) ?_
                        refine va_get (D := G) (ci := 12) (v := .ref a_c) (C := RX12) (T := TX12) (N := 65) hx hb hts inT12 hown hK hP 4 rfl rfl 20 (by decide) (hts _ tw_1905) (fun _ h9 => h9) rfl dX12_readFeels_211 ?_
                        refine lv_sipush (v := 1477) hx hb dX12_readFeels_214 (by decide) ?_
                        refine lv_bipush (v := 16) hx hb dX12_readFeels_217 (by decide) ?_
                        refine lv_iload_n hx hb dX12_readFeels_219 rfl (lv_at hl 2 rfl) ?_
                        refine lv_imul hx hb dX12_readFeels_220 ?_
                        refine lv_topi (fun x_1419 he_x_1419 => ?_)
                        have hq_x_1419 := z_mulq he_x_1419 hk_16 (rfl : r_13.toInt = _) (by omega) (by omega)
                        refine lv_iadd hx hb dX12_readFeels_221 ?_
                        refine lv_topi (fun x_1420 he_x_1420 => ?_)
                        have hq_x_1420 := z_addq he_x_1420 hk_1477 (rfl : x_1419.toInt = _) (by omega) (by omega)
                        refine lv_iconst (v := 4) hx hb dX12_readFeels_222 (by decide) ?_
                        refine lv_iload_n hx hb dX12_readFeels_223 rfl (lv_at hl 4 rfl) ?_
                        refine lv_iload_n hx hb dX12_readFeels_224 rfl (lv_at hl 3 rfl) ?_
                        refine lv_idiv hx hb dX12_readFeels_225 (z_nz (by omega)) ?_
                        refine lv_topi (fun x_1421 he_x_1421 => ?_)
                        have hq_x_1421 := z_divq he_x_1421 (rfl : v_1135.toInt = _) (by omega : x_41.toInt = 3) (by omega) (by decide)
                        refine lv_imul hx hb dX12_readFeels_226 ?_
                        refine lv_topi (fun x_1422 he_x_1422 => ?_)
                        have hq_x_1422 := z_mulq he_x_1422 hk_4 (rfl : x_1421.toInt = _) (by omega) (by omega)
                        refine lv_iadd hx hb dX12_readFeels_227 ?_
                        refine lv_topi (fun x_1423 he_x_1423 => ?_)
                        have hq_x_1423 := z_addq he_x_1423 (rfl : x_1420.toInt = _) (rfl : x_1422.toInt = _) (by omega) (by omega)
                        refine lv_iload_n hx hb dX12_readFeels_228 rfl (lv_at hl 4 rfl) ?_
                        refine lv_iload_n hx hb dX12_readFeels_229 rfl (lv_at hl 3 rfl) ?_
                        refine lv_irem hx hb dX12_readFeels_230 (z_nz (by omega)) ?_
                        refine lv_topi (fun x_1424 he_x_1424 => ?_)
                        have hq_x_1424 := z_remq he_x_1424 (rfl : v_1135.toInt = _) (by omega : x_41.toInt = 3) (by omega) (by decide)
                        refine lv_iadd hx hb dX12_readFeels_231 ?_
                        refine lv_topi (fun x_1425 he_x_1425 => ?_)
                        have hq_x_1425 := z_addq he_x_1425 (rfl : x_1423.toInt = _) (rfl : x_1424.toInt = _) (by omega) (by omega)
                        refine lv_aload_n hx hb dX12_readFeels_232 rfl (lv_at hl 1 rfl) ?_
                        refine va_get (D := G) (ci := 12) (v := .int v_1142) (C := RX12) (T := TX12) (N := 65) hx hb hts inT12 hown hK hP 4 rfl rfl 17 (by decide) (hts _ tw_1902) (fun _ h9 => h9) rfl dX12_readFeels_233 ?_
                        refine z_iast hx hb hK hP hD hS 2 0 rfl rfl (z_inN (by omega) (by omega)) dX12_readFeels_236 (fun g_1426 hg_g_1426 H locs hP hD hS => ?_)
                        have hC_g_1426 := z_ctU hC_g_1138 hg_g_1426 (a := 1477) (b := 1519) (lo := 0) (hi := 16) (by decide +kernel) (by decide +kernel) (by omega) (by omega) (by omega)
                        have hw_g_1426_1460 := z_cwo hg_g_1426 (k := 1460) (by omega) (by omega)
                        have hs_1427 : zNw g_1426 g_isOn := (zNw_fr hs_1366 hg_g_1426 (a := 1477) (b := 1519) (by decide +kernel) (by omega) (by omega))
                        obtain ⟨x_1428, he_x_1428⟩ : ∃ z : Int32, z = v_1135 + 1 := ⟨_, rfl⟩
                        have hq_x_1428 := z_addq he_x_1428 (rfl : v_1135.toInt = _) hk_1 (by omega) (by omega)
                        refine lv_iinc (v := x_1428) (lv' := [(3, .int x_1428), (4, .int x_1409), (0, .ref h0), (1, .int r_13), (2, .int x_41), (5, .int v_1137)]) hx hb dX12_readFeels_237 hl (k := 4) rfl ((z_ofi (by decide +kernel)).trans he_x_1428.symm) (by decide) rfl (fun ls hl => ?_)
                        refine lv_aload_n hx hb dX12_readFeels_240 rfl (lv_at hl 2 rfl) ?_
                        refine z_callVv (As := []) (rest := []) (wr := [(a_hasFeels, .inl (cA.1 3, 3, .inl g_29)), (a_isOn, .inl (cA.1 3, 10, .inl g_isOn)), (a_c, .inl (cA.1 0, 1825, .inl g_1426)), (a_words, .inl (cA.1 1, 105, .inr (.inl g_words)))]) ⟨hx, hb, hml, hown, hts⟩ hK hE hT hP hD hS hA (r_next2 l G cA h0 m_status m_thrown m_above m_under a_traySort a_trayMany a_numbers a_tape m_taped m_textEnd m_faultKind m_faultAt n_11 n_12 v_1139 v_1140 v_1141 v_1142 v_1143 v_1144 a_c a_words m_markMany a_there a_tried a_best a_found m_thereMany m_foundMany m_orderHow m_orderRing m_orderMany m_hasBest m_bestTop m_bestBy a_weights a_shared m_random m_truePlace m_trueWay m_seconds m_done m_feelings m_tries m_leftOver m_playDoor m_playRing m_isOpen m_isOver m_wasTried m_hasPlayed a_feltNow a_last a_kept m_hasSeconds m_hasTurned m_hasRound a_hasFeels a_isOn m_firstAct m_meanTop m_meanBy a_order m_rowMany m_newSteps g_tape hr_m_textEnd hr_v_1140 hr_v_1141 hr_v_1139 hr_v_1142 hr_v_1143) lk_RX12_184 ⟨rfl, rfl⟩ ⟨Nat.le_of_ble_eq_true rfl, Nat.le_of_ble_eq_true rfl⟩ 12 rfl rfl rfl [4, 5] [0, 1, 2, 3] rfl rfl (by decide) rfl hl.1 rfl (lv_room (Nat.le_of_ble_eq_true rfl)) dX12_readFeels_241 ⟨Nat.le_of_ble_eq_true rfl, Nat.le_of_ble_eq_true rfl⟩ (fun u_1436 H locs hw hP hD hS => ?_)
                        obtain ⟨n_1429, n_1430, n_1431, n_1432, n_1433, n_1434⟩ := u_1436
                        try dsimp only at hw
                        obtain ⟨hr_n_1429, hr_n_1430, hr_n_1431, hr_n_1432, hr_n_1433, hf_1437, hf_1438⟩ := hw
                        refine lv_aload_n hx hb dX12_readFeels_244 rfl (lv_at hl 2 rfl) ?_
                        refine va_get (D := G) (ci := 12) (v := .int n_1429) (C := RX12) (T := TX12) (N := 65) hx hb hts inT12 hown hK hP 4 rfl rfl 14 (by decide) (hts _ tw_1899) (fun _ h9 => h9) rfl dX12_readFeels_245 ?_
                        refine lv_iconst (v := 2) hx hb dX12_readFeels_248 (by decide) ?_
                        refine lv_icmp_ne (tgt := 256) hx hb dX12_readFeels_249 (by decide) (fun c_1439 => ?_) (fun c_1439 => ?_)
                        · have b_1440 := z_fneT c_1439
                          refine lv_iconst (v := 0) hx hb dX12_readFeels_256 (by decide) ?_
                          refine lv_istore (lv' := [(5, .int 0), (3, .int x_1428), (4, .int x_1409), (0, .ref h0), (1, .int r_13), (2, .int x_41)]) hx hb dX12_readFeels_257 hl (by decide) rfl (fun ls hl => ?_)
                          refine lv_goto (tgt := 74) hx hb dX12_readFeels_259 (by decide) ?_
                          exact ih_1374 x_1428 x_1409 0 g_1426 n_1429 n_1430 n_1431 n_1432 n_1433 n_1434 H locs ls (by omega) (by omega) (by omega) (by decide +kernel) hC_g_1426 hr_n_1429 hr_n_1430 hr_n_1431 hr_n_1432 hr_n_1433 hs_1427 (by rw [hq_x_1428]; exact zFl_step hi_1367 hg_g_1426 (by omega) (by omega) (by omega) (r := x_1421.toInt) (c := x_1424.toInt) (by rw [h_42]; omega) (by omega) (by omega) (by omega) (by omega) (by omega) (by omega) (by omega)) (by omega) (by omega) (by omega) (by omega) (by omega) hP hD hS (lv_sub hl [3, 4, 5, 1, 2, 0] rfl)
                        · have b_1441 := z_feqF c_1439
                          refine lv_iconst (v := 1) hx hb dX12_readFeels_252 (by decide) ?_
                          refine lv_goto (tgt := 257) hx hb dX12_readFeels_253 (by decide) ?_
                          refine lv_istore (lv' := [(5, .int 1), (3, .int x_1428), (4, .int x_1409), (0, .ref h0), (1, .int r_13), (2, .int x_41)]) hx hb dX12_readFeels_257 hl (by decide) rfl (fun ls hl => ?_)
                          refine lv_goto (tgt := 74) hx hb dX12_readFeels_259 (by decide) ?_
                          exact ih_1374 x_1428 x_1409 1 g_1426 n_1429 n_1430 n_1431 n_1432 n_1433 n_1434 H locs ls (by omega) (by omega) (by omega) (by decide +kernel) hC_g_1426 hr_n_1429 hr_n_1430 hr_n_1431 hr_n_1432 hr_n_1433 hs_1427 (by rw [hq_x_1428]; exact zFl_step hi_1367 hg_g_1426 (by omega) (by omega) (by omega) (r := x_1421.toInt) (c := x_1424.toInt) (by rw [h_42]; omega) (by omega) (by omega) (by omega) (by omega) (by omega) (by omega) (by omega)) (by omega) (by omega) (by omega) (by omega) (by omega) hP hD hS (lv_sub hl [3, 4, 5, 1, 2, 0] rfl)
                      · have b_1442 := z_feqF c_1414
                        refine lv_iload hx hb dX12_readFeels_185 (lv_at hl 0 rfl) ?_
                        refine lv_bipush (v := 16) hx hb dX12_readFeels_187 (by decide) ?_
                        refine lv_icmp_eq (tgt := 202) hx hb dX12_readFeels_189 (by decide) (fun c_1443 => ?_) (fun c_1443 => ?_)
                        · have b_1444 := z_feqT c_1443
                          refine lv_aload_n hx hb dX12_readFeels_202 rfl (lv_at hl 1 rfl) ?_
                          refine va_get (D := G) (ci := 12) (v := .int n_11) (C := RX12) (T := TX12) (N := 65) hx hb hts inT12 hown hK hP 4 rfl rfl 12 (by decide) (hts _ tw_1897) (fun _ h9 => h9) rfl dX12_readFeels_203 ?_
                          refine lv_if_le (tgt := 210) hx hb dX12_readFeels_206 (by decide) (fun c_1445 => ?_) (fun h9 => (z_no (by have h8 := z_fgtF h9; omega)))
                          have b_1446 := z_fleT c_1445
                          have hn_k_1447 : 0 ≤ v_1135.toInt ∧ v_1135.toInt ≤ 8 := by omega
                          refine lv_aload_n hx hb dX12_readFeels_210 rfl (lv_at hl 1 rfl) ?_
                          refine va_get (D := G) (ci := 12) (v := .ref a_c) (C := RX12) (T := TX12) (N := 65) hx hb hts inT12 hown hK hP 4 rfl rfl 20 (by decide) (hts _ tw_1905) (fun _ h9 => h9) rfl dX12_readFeels_211 ?_
                          refine lv_sipush (v := 1477) hx hb dX12_readFeels_214 (by decide) ?_
                          refine lv_bipush (v := 16) hx hb dX12_readFeels_217 (by decide) ?_
                          refine lv_iload_n hx hb dX12_readFeels_219 rfl (lv_at hl 2 rfl) ?_
                          refine lv_imul hx hb dX12_readFeels_220 ?_
                          refine lv_topi (fun x_1448 he_x_1448 => ?_)
                          have hq_x_1448 := z_mulq he_x_1448 hk_16 (rfl : r_13.toInt = _) (by omega) (by omega)
                          refine lv_iadd hx hb dX12_readFeels_221 ?_
                          refine lv_topi (fun x_1449 he_x_1449 => ?_)
                          have hq_x_1449 := z_addq he_x_1449 hk_1477 (rfl : x_1448.toInt = _) (by omega) (by omega)
                          refine lv_iconst (v := 4) hx hb dX12_readFeels_222 (by decide) ?_
                          refine lv_iload_n hx hb dX12_readFeels_223 rfl (lv_at hl 4 rfl) ?_
                          refine lv_iload_n hx hb dX12_readFeels_224 rfl (lv_at hl 3 rfl) ?_
                          refine lv_idiv hx hb dX12_readFeels_225 (z_nz (by omega)) ?_
                          refine lv_topi (fun x_1450 he_x_1450 => ?_)
                          have hq_x_1450 := z_divq he_x_1450 (rfl : v_1135.toInt = _) (by omega : x_41.toInt = 3) (by omega) (by decide)
                          refine lv_imul hx hb dX12_readFeels_226 ?_
                          refine lv_topi (fun x_1451 he_x_1451 => ?_)
                          have hq_x_1451 := z_mulq he_x_1451 hk_4 (rfl : x_1450.toInt = _) (by omega) (by omega)
                          refine lv_iadd hx hb dX12_readFeels_227 ?_
                          refine lv_topi (fun x_1452 he_x_1452 => ?_)
                          have hq_x_1452 := z_addq he_x_1452 (rfl : x_1449.toInt = _) (rfl : x_1451.toInt = _) (by omega) (by omega)
                          refine lv_iload_n hx hb dX12_readFeels_228 rfl (lv_at hl 4 rfl) ?_
                          refine lv_iload_n hx hb dX12_readFeels_229 rfl (lv_at hl 3 rfl) ?_
                          refine lv_irem hx hb dX12_readFeels_230 (z_nz (by omega)) ?_
                          refine lv_topi (fun x_1453 he_x_1453 => ?_)
                          have hq_x_1453 := z_remq he_x_1453 (rfl : v_1135.toInt = _) (by omega : x_41.toInt = 3) (by omega) (by decide)
                          refine lv_iadd hx hb dX12_readFeels_231 ?_
                          refine lv_topi (fun x_1454 he_x_1454 => ?_)
                          have hq_x_1454 := z_addq he_x_1454 (rfl : x_1452.toInt = _) (rfl : x_1453.toInt = _) (by omega) (by omega)
                          refine lv_aload_n hx hb dX12_readFeels_232 rfl (lv_at hl 1 rfl) ?_
                          refine va_get (D := G) (ci := 12) (v := .int v_1142) (C := RX12) (T := TX12) (N := 65) hx hb hts inT12 hown hK hP 4 rfl rfl 17 (by decide) (hts _ tw_1902) (fun _ h9 => h9) rfl dX12_readFeels_233 ?_
                          refine z_iast hx hb hK hP hD hS 2 0 rfl rfl (z_inN (by omega) (by omega)) dX12_readFeels_236 (fun g_1455 hg_g_1455 H locs hP hD hS => ?_)
                          have hC_g_1455 := z_ctU hC_g_1138 hg_g_1455 (a := 1477) (b := 1519) (lo := 0) (hi := 16) (by decide +kernel) (by decide +kernel) (by omega) (by omega) (by omega)
                          have hw_g_1455_1460 := z_cwo hg_g_1455 (k := 1460) (by omega) (by omega)
                          have hs_1456 : zNw g_1455 g_isOn := (zNw_fr hs_1366 hg_g_1455 (a := 1477) (b := 1519) (by decide +kernel) (by omega) (by omega))
                          obtain ⟨x_1457, he_x_1457⟩ : ∃ z : Int32, z = v_1135 + 1 := ⟨_, rfl⟩
                          have hq_x_1457 := z_addq he_x_1457 (rfl : v_1135.toInt = _) hk_1 (by omega) (by omega)
                          refine lv_iinc (v := x_1457) (lv' := [(3, .int x_1457), (4, .int x_1409), (0, .ref h0), (1, .int r_13), (2, .int x_41), (5, .int v_1137)]) hx hb dX12_readFeels_237 hl (k := 4) rfl ((z_ofi (by decide +kernel)).trans he_x_1457.symm) (by decide) rfl (fun ls hl => ?_)
                          refine lv_aload_n hx hb dX12_readFeels_240 rfl (lv_at hl 2 rfl) ?_
                          refine z_callVv (As := []) (rest := []) (wr := [(a_hasFeels, .inl (cA.1 3, 3, .inl g_29)), (a_isOn, .inl (cA.1 3, 10, .inl g_isOn)), (a_c, .inl (cA.1 0, 1825, .inl g_1455)), (a_words, .inl (cA.1 1, 105, .inr (.inl g_words)))]) ⟨hx, hb, hml, hown, hts⟩ hK hE hT hP hD hS hA (r_next2 l G cA h0 m_status m_thrown m_above m_under a_traySort a_trayMany a_numbers a_tape m_taped m_textEnd m_faultKind m_faultAt n_11 n_12 v_1139 v_1140 v_1141 v_1142 v_1143 v_1144 a_c a_words m_markMany a_there a_tried a_best a_found m_thereMany m_foundMany m_orderHow m_orderRing m_orderMany m_hasBest m_bestTop m_bestBy a_weights a_shared m_random m_truePlace m_trueWay m_seconds m_done m_feelings m_tries m_leftOver m_playDoor m_playRing m_isOpen m_isOver m_wasTried m_hasPlayed a_feltNow a_last a_kept m_hasSeconds m_hasTurned m_hasRound a_hasFeels a_isOn m_firstAct m_meanTop m_meanBy a_order m_rowMany m_newSteps g_tape hr_m_textEnd hr_v_1140 hr_v_1141 hr_v_1139 hr_v_1142 hr_v_1143) lk_RX12_184 ⟨rfl, rfl⟩ ⟨Nat.le_of_ble_eq_true rfl, Nat.le_of_ble_eq_true rfl⟩ 12 rfl rfl rfl [4, 5] [0, 1, 2, 3] rfl rfl (by decide) rfl hl.1 rfl (lv_room (Nat.le_of_ble_eq_true rfl)) dX12_readFeels_241 ⟨Nat.le_of_ble_eq_true rfl, Nat.le_of_ble_eq_true rfl⟩ (fun u_1465 H locs hw hP hD hS => ?_)
                          obtain ⟨n_1458, n_1459, n_1460, n_1461, n_1462, n_1463⟩ := u_1465
                          try dsimp only at hw
                          obtain ⟨hr_n_1458, hr_n_1459, hr_n_1460, hr_n_1461, hr_n_1462, hf_1466, hf_1467⟩ := hw
                          refine lv_aload_n hx hb dX12_readFeels_244 rfl (lv_at hl 2 rfl) ?_
                          refine va_get (D := G) (ci := 12) (v := .int n_1458) (C := RX12) (T := TX12) (N := 65) hx hb hts inT12 hown hK hP 4 rfl rfl 14 (by decide) (hts _ tw_1899) (fun _ h9 => h9) rfl dX12_readFeels_245 ?_
                          refine lv_iconst (v := 2) hx hb dX12_readFeels_248 (by decide) ?_
                          refine lv_icmp_ne (tgt := 256) hx hb dX12_readFeels_249 (by decide) (fun c_1468 => ?_) (fun c_1468 => ?_)
                          · have b_1469 := z_fneT c_1468
                            refine lv_iconst (v := 0) hx hb dX12_readFeels_256 (by decide) ?_
                            refine lv_istore (lv' := [(5, .int 0), (3, .int x_1457), (4, .int x_1409), (0, .ref h0), (1, .int r_13), (2, .int x_41)]) hx hb dX12_readFeels_257 hl (by decide) rfl (fun ls hl => ?_)
                            refine lv_goto (tgt := 74) hx hb dX12_readFeels_259 (by decide) ?_
                            exact ih_1374 x_1457 x_1409 0 g_1455 n_1458 n_1459 n_1460 n_1461 n_1462 n_1463 H locs ls (by omega) (by omega) (by omega) (by decide +kernel) hC_g_1455 hr_n_1458 hr_n_1459 hr_n_1460 hr_n_1461 hr_n_1462 hs_1456 (by rw [hq_x_1457]; exact zFl_step hi_1367 hg_g_1455 (by omega) (by omega) (by omega) (r := x_1450.toInt) (c := x_1453.toInt) (by rw [h_42]; omega) (by omega) (by omega) (by omega) (by omega) (by omega) (by omega) (by omega)) (by omega) (by omega) (by omega) (by omega) (by omega) hP hD hS (lv_sub hl [3, 4, 5, 1, 2, 0] rfl)
                          · have b_1470 := z_feqF c_1468
                            refine lv_iconst (v := 1) hx hb dX12_readFeels_252 (by decide) ?_
                            refine lv_goto (tgt := 257) hx hb dX12_readFeels_253 (by decide) ?_
                            refine lv_istore (lv' := [(5, .int 1), (3, .int x_1457), (4, .int x_1409), (0, .ref h0), (1, .int r_13), (2, .int x_41)]) hx hb dX12_readFeels_257 hl (by decide) rfl (fun ls hl => ?_)
                            refine lv_goto (tgt := 74) hx hb dX12_readFeels_259 (by decide) ?_
                            exact ih_1374 x_1457 x_1409 1 g_1455 n_1458 n_1459 n_1460 n_1461 n_1462 n_1463 H locs ls (by omega) (by omega) (by omega) (by decide +kernel) hC_g_1455 hr_n_1458 hr_n_1459 hr_n_1460 hr_n_1461 hr_n_1462 hs_1456 (by rw [hq_x_1457]; exact zFl_step hi_1367 hg_g_1455 (by omega) (by omega) (by omega) (r := x_1450.toInt) (c := x_1453.toInt) (by rw [h_42]; omega) (by omega) (by omega) (by omega) (by omega) (by omega) (by omega) (by omega)) (by omega) (by omega) (by omega) (by omega) (by omega) hP hD hS (lv_sub hl [3, 4, 5, 1, 2, 0] rfl)
                        · have b_1471 := z_fneF c_1443
                          refine lv_aload_n hx hb dX12_readFeels_192 rfl (lv_at hl 1 rfl) ?_
                          refine lv_bipush (v := 9) hx hb dX12_readFeels_193 (by decide) ?_
                          refine lv_aload_n hx hb dX12_readFeels_195 rfl (lv_at hl 1 rfl) ?_
                          refine va_get (D := G) (ci := 12) (v := .int v_1140) (C := RX12) (T := TX12) (N := 65) hx hb hts inT12 hown hK hP 4 rfl rfl 15 (by decide) (hts _ tw_1900) (fun _ h9 => h9) rfl dX12_readFeels_196 ?_
                          refine z_callVv (As := [.int 9, .int v_1140]) (rest := []) (wr := [(a_hasFeels, .inl (cA.1 3, 3, .inl g_29)), (a_isOn, .inl (cA.1 3, 10, .inl g_isOn)), (a_c, .inl (cA.1 0, 1825, .inl g_1138)), (a_words, .inl (cA.1 1, 105, .inr (.inl g_words))), (a_tape, .inl (cA.1 2, 900, .inl g_tape))]) ⟨hx, hb, hml, hown, hts⟩ hK hE hT hP hD hS hA (r_fail l G cA h0 m_status m_thrown m_above m_under a_traySort a_trayMany a_numbers a_tape m_taped m_textEnd m_faultKind m_faultAt n_11 n_12 v_1139 v_1140 v_1141 v_1142 v_1143 v_1144 a_c a_words m_markMany a_there a_tried a_best a_found m_thereMany m_foundMany m_orderHow m_orderRing m_orderMany m_hasBest m_bestTop m_bestBy a_weights a_shared m_random m_truePlace m_trueWay m_seconds m_done m_feelings m_tries m_leftOver m_playDoor m_playRing m_isOpen m_isOver m_wasTried m_hasPlayed a_feltNow a_last a_kept m_hasSeconds m_hasTurned m_hasRound a_hasFeels a_isOn m_firstAct m_meanTop m_meanBy a_order m_rowMany m_newSteps 9 v_1140 (by decide +kernel) hr_n_11) lk_RX12_180 ⟨rfl, rfl⟩ ⟨Nat.le_of_ble_eq_true rfl, Nat.le_of_ble_eq_true rfl⟩ 12 rfl rfl rfl [4] [0, 1, 2, 3, 5] rfl rfl (by decide) rfl hl.1 rfl (lv_room (Nat.le_of_ble_eq_true rfl)) dX12_readFeels_199 ⟨Nat.le_of_ble_eq_true rfl, Nat.le_of_ble_eq_true rfl⟩ (fun u_1475 H locs hw hP hD hS => ?_)
                          obtain ⟨n_1472, n_1473⟩ := u_1475
                          try dsimp only at hw
                          obtain ⟨hr_n_1472, hf_1476⟩ := hw
                          refine lv_aload_n hx hb dX12_readFeels_202 rfl (lv_at hl 1 rfl) ?_
                          refine va_get (D := G) (ci := 12) (v := .int n_1472) (C := RX12) (T := TX12) (N := 65) hx hb hts inT12 hown hK hP 5 rfl rfl 12 (by decide) (hts _ tw_1897) (fun _ h9 => h9) rfl dX12_readFeels_203 ?_
                          refine lv_if_le (tgt := 210) hx hb dX12_readFeels_206 (by decide) (fun h9 => (z_no (by have h8 := z_fleT h9; omega))) (fun c_1477 => ?_)
                          have b_1478 := z_fgtF c_1477
                          have hpost : (0 ≤ n_1472.toInt ∧ n_1472.toInt ≤ 9) ∧ (0 ≤ v_1139.toInt ∧ v_1139.toInt ≤ 4) ∧ (0 ≤ v_1140.toInt ∧ v_1140.toInt ≤ 900) ∧ (0 ≤ v_1141.toInt ∧ v_1141.toInt ≤ 900) ∧ (0 ≤ v_1142.toInt ∧ v_1142.toInt ≤ 9999) ∧ (0 ≤ v_1143.toInt ∧ v_1143.toInt ≤ 900) ∧ (zRg 3 0 1 g_29) ∧ (zC g_1138) ∧ (zNw g_1138 g_isOn) ∧ (m_behind.toInt ≤ v_1141.toInt) ∧ (0 < m_bad.toInt → 0 < n_1472.toInt) ∧ (n_1472.toInt ≤ 0 → v_1139.toInt = 0 ∨ m_behind.toInt < v_1141.toInt) ∧ (n_1472.toInt ≤ 0 → v_1139.toInt = 3 → v_1142.toInt = 59 → zNf g_1138) := ⟨(z_rgw hr_n_1472 (by decide) (by decide)), hr_v_1139, hr_v_1140, hr_v_1141, hr_v_1142, hr_v_1143, hC_g_29, hC_g_1138, hs_1366, (by omega), (by omega), (by omega), (fun h1 h2 h3 => z_no (by omega))⟩
                          exact hret _ _ _ _ _ (n_1472, n_1473, v_1139, v_1140, v_1141, v_1142, v_1143, v_1144, g_29, g_1138) [5, 4, 2, 3, 0, 1] hP hD hS rfl (by decide) dX12_readFeels_209 hpost
                    · have b_1479 := z_feqF c_1407
                      refine lv_aload_n hx hb dX12_readFeels_153 rfl (lv_at hl 0 rfl) ?_
                      refine va_get (D := G) (ci := 12) (v := .int v_1142) (C := RX12) (T := TX12) (N := 65) hx hb hts inT12 hown hK hP 4 rfl rfl 17 (by decide) (hts _ tw_1902) (fun _ h9 => h9) rfl dX12_readFeels_154 ?_
                      refine lv_goto (tgt := 167) hx hb dX12_readFeels_157 (by decide) ?_
                      refine lv_istore (lv' := [(4, .int v_1142), (0, .ref h0), (1, .int r_13), (2, .int x_41), (3, .int v_1135), (5, .int v_1137)]) hx hb dX12_readFeels_167 hl (by decide) rfl (fun ls hl => ?_)
                      refine lv_aload_n hx hb dX12_readFeels_169 rfl (lv_at hl 1 rfl) ?_
                      refine va_get (D := G) (ci := 12) (v := .int n_11) (C := RX12) (T := TX12) (N := 65) hx hb hts inT12 hown hK hP 4 rfl rfl 12 (by decide) (hts _ tw_1897) (fun _ h9 => h9) rfl dX12_readFeels_170 ?_
                      refine lv_if_ne (tgt := 202) hx hb dX12_readFeels_173 (by decide) (fun h9 => (z_no (by have h8 := z_fneT h9; omega))) (fun c_1480 => ?_)
                      have b_1481 := z_feqF c_1480
                      refine lv_iload_n hx hb dX12_readFeels_176 rfl (lv_at hl 4 rfl) ?_
                      refine lv_iload_n hx hb dX12_readFeels_177 rfl (lv_at hl 3 rfl) ?_
                      refine lv_irem hx hb dX12_readFeels_178 (z_nz (by omega)) ?_
                      refine lv_topi (fun x_1482 he_x_1482 => ?_)
                      have hq_x_1482 := z_remq he_x_1482 (rfl : v_1135.toInt = _) (by omega : x_41.toInt = 3) (by omega) (by decide)
                      refine lv_iload_n hx hb dX12_readFeels_179 rfl (lv_at hl 3 rfl) ?_
                      refine lv_iconst (v := 1) hx hb dX12_readFeels_180 (by decide) ?_
                      refine lv_isub hx hb dX12_readFeels_181 ?_
                      refine lv_topi (fun x_1483 he_x_1483 => ?_)
                      have hq_x_1483 := z_subq he_x_1483 (rfl : x_41.toInt = _) hk_1 (by omega) (by omega)
                      refine lv_icmp_ne (tgt := 202) hx hb dX12_readFeels_182 (by decide) (fun c_1484 => ?_) (fun c_1484 => ?_)
                      · have b_1485 := z_fneT c_1484
                        refine lv_aload_n hx hb dX12_readFeels_202 rfl (lv_at hl 1 rfl) ?_
                        refine va_get (D := G) (ci := 12) (v := .int n_11) (C := RX12) (T := TX12) (N := 65) hx hb hts inT12 hown hK hP 4 rfl rfl 12 (by decide) (hts _ tw_1897) (fun _ h9 => h9) rfl dX12_readFeels_203 ?_
                        refine lv_if_le (tgt := 210) hx hb dX12_readFeels_206 (by decide) (fun c_1486 => ?_) (fun h9 => (z_no (by have h8 := z_fgtF h9; omega)))
                        have b_1487 := z_fleT c_1486
                        have hn_k_1488 : 0 ≤ v_1135.toInt ∧ v_1135.toInt ≤ 8 := by omega
                        refine lv_aload_n hx hb dX12_readFeels_210 rfl (lv_at hl 1 rfl) ?_
                        refine va_get (D := G) (ci := 12) (v := .ref a_c) (C := RX12) (T := TX12) (N := 65) hx hb hts inT12 hown hK hP 4 rfl rfl 20 (by decide) (hts _ tw_1905) (fun _ h9 => h9) rfl dX12_readFeels_211 ?_
                        refine lv_sipush (v := 1477) hx hb dX12_readFeels_214 (by decide) ?_
                        refine lv_bipush (v := 16) hx hb dX12_readFeels_217 (by decide) ?_
                        refine lv_iload_n hx hb dX12_readFeels_219 rfl (lv_at hl 2 rfl) ?_
                        refine lv_imul hx hb dX12_readFeels_220 ?_
                        refine lv_topi (fun x_1489 he_x_1489 => ?_)
                        have hq_x_1489 := z_mulq he_x_1489 hk_16 (rfl : r_13.toInt = _) (by omega) (by omega)
                        refine lv_iadd hx hb dX12_readFeels_221 ?_
                        refine lv_topi (fun x_1490 he_x_1490 => ?_)
                        have hq_x_1490 := z_addq he_x_1490 hk_1477 (rfl : x_1489.toInt = _) (by omega) (by omega)
                        refine lv_iconst (v := 4) hx hb dX12_readFeels_222 (by decide) ?_
                        refine lv_iload_n hx hb dX12_readFeels_223 rfl (lv_at hl 4 rfl) ?_
                        refine lv_iload_n hx hb dX12_readFeels_224 rfl (lv_at hl 3 rfl) ?_
                        refine lv_idiv hx hb dX12_readFeels_225 (z_nz (by omega)) ?_
                        refine lv_topi (fun x_1491 he_x_1491 => ?_)
                        have hq_x_1491 := z_divq he_x_1491 (rfl : v_1135.toInt = _) (by omega : x_41.toInt = 3) (by omega) (by decide)
                        refine lv_imul hx hb dX12_readFeels_226 ?_
                        refine lv_topi (fun x_1492 he_x_1492 => ?_)
                        have hq_x_1492 := z_mulq he_x_1492 hk_4 (rfl : x_1491.toInt = _) (by omega) (by omega)
                        refine lv_iadd hx hb dX12_readFeels_227 ?_
                        refine lv_topi (fun x_1493 he_x_1493 => ?_)
                        have hq_x_1493 := z_addq he_x_1493 (rfl : x_1490.toInt = _) (rfl : x_1492.toInt = _) (by omega) (by omega)
                        refine lv_iload_n hx hb dX12_readFeels_228 rfl (lv_at hl 4 rfl) ?_
                        refine lv_iload_n hx hb dX12_readFeels_229 rfl (lv_at hl 3 rfl) ?_
                        refine lv_irem hx hb dX12_readFeels_230 (z_nz (by omega)) ?_
                        refine lv_topi (fun x_1494 he_x_1494 => ?_)
                        have hq_x_1494 := z_remq he_x_1494 (rfl : v_1135.toInt = _) (by omega : x_41.toInt = 3) (by omega) (by decide)
                        refine lv_iadd hx hb dX12_readFeels_231 ?_
                        refine lv_topi (fun x_1495 he_x_1495 => ?_)
                        have hq_x_1495 := z_addq he_x_1495 (rfl : x_1493.toInt = _) (rfl : x_1494.toInt = _) (by omega) (by omega)
                        refine lv_aload_n hx hb dX12_readFeels_232 rfl (lv_at hl 1 rfl) ?_
                        refine va_get (D := G) (ci := 12) (v := .int v_1142) (C := RX12) (T := TX12) (N := 65) hx hb hts inT12 hown hK hP 4 rfl rfl 17 (by decide) (hts _ tw_1902) (fun _ h9 => h9) rfl dX12_readFeels_233 ?_
                        refine z_iast hx hb hK hP hD hS 2 0 rfl rfl (z_inN (by omega) (by omega)) dX12_readFeels_236 (fun g_1496 hg_g_1496 H locs hP hD hS => ?_)
                        have hC_g_1496 := z_ctU hC_g_1138 hg_g_1496 (a := 1477) (b := 1519) (lo := 0) (hi := 16) (by decide +kernel) (by decide +kernel) (by omega) (by omega) (by omega)
                        have hw_g_1496_1460 := z_cwo hg_g_1496 (k := 1460) (by omega) (by omega)
                        have hs_1497 : zNw g_1496 g_isOn := (zNw_fr hs_1366 hg_g_1496 (a := 1477) (b := 1519) (by decide +kernel) (by omega) (by omega))
                        obtain ⟨x_1498, he_x_1498⟩ : ∃ z : Int32, z = v_1135 + 1 := ⟨_, rfl⟩
                        have hq_x_1498 := z_addq he_x_1498 (rfl : v_1135.toInt = _) hk_1 (by omega) (by omega)
                        refine lv_iinc (v := x_1498) (lv' := [(3, .int x_1498), (4, .int v_1142), (0, .ref h0), (1, .int r_13), (2, .int x_41), (5, .int v_1137)]) hx hb dX12_readFeels_237 hl (k := 4) rfl ((z_ofi (by decide +kernel)).trans he_x_1498.symm) (by decide) rfl (fun ls hl => ?_)
                        refine lv_aload_n hx hb dX12_readFeels_240 rfl (lv_at hl 2 rfl) ?_
                        refine z_callVv (As := []) (rest := []) (wr := [(a_hasFeels, .inl (cA.1 3, 3, .inl g_29)), (a_isOn, .inl (cA.1 3, 10, .inl g_isOn)), (a_c, .inl (cA.1 0, 1825, .inl g_1496)), (a_words, .inl (cA.1 1, 105, .inr (.inl g_words)))]) ⟨hx, hb, hml, hown, hts⟩ hK hE hT hP hD hS hA (r_next2 l G cA h0 m_status m_thrown m_above m_under a_traySort a_trayMany a_numbers a_tape m_taped m_textEnd m_faultKind m_faultAt n_11 n_12 v_1139 v_1140 v_1141 v_1142 v_1143 v_1144 a_c a_words m_markMany a_there a_tried a_best a_found m_thereMany m_foundMany m_orderHow m_orderRing m_orderMany m_hasBest m_bestTop m_bestBy a_weights a_shared m_random m_truePlace m_trueWay m_seconds m_done m_feelings m_tries m_leftOver m_playDoor m_playRing m_isOpen m_isOver m_wasTried m_hasPlayed a_feltNow a_last a_kept m_hasSeconds m_hasTurned m_hasRound a_hasFeels a_isOn m_firstAct m_meanTop m_meanBy a_order m_rowMany m_newSteps g_tape hr_m_textEnd hr_v_1140 hr_v_1141 hr_v_1139 hr_v_1142 hr_v_1143) lk_RX12_184 ⟨rfl, rfl⟩ ⟨Nat.le_of_ble_eq_true rfl, Nat.le_of_ble_eq_true rfl⟩ 12 rfl rfl rfl [4, 5] [0, 1, 2, 3] rfl rfl (by decide) rfl hl.1 rfl (lv_room (Nat.le_of_ble_eq_true rfl)) dX12_readFeels_241 ⟨Nat.le_of_ble_eq_true rfl, Nat.le_of_ble_eq_true rfl⟩ (fun u_1506 H locs hw hP hD hS => ?_)
                        obtain ⟨n_1499, n_1500, n_1501, n_1502, n_1503, n_1504⟩ := u_1506
                        try dsimp only at hw
                        obtain ⟨hr_n_1499, hr_n_1500, hr_n_1501, hr_n_1502, hr_n_1503, hf_1507, hf_1508⟩ := hw
                        refine lv_aload_n hx hb dX12_readFeels_244 rfl (lv_at hl 2 rfl) ?_
                        refine va_get (D := G) (ci := 12) (v := .int n_1499) (C := RX12) (T := TX12) (N := 65) hx hb hts inT12 hown hK hP 4 rfl rfl 14 (by decide) (hts _ tw_1899) (fun _ h9 => h9) rfl dX12_readFeels_245 ?_
                        refine lv_iconst (v := 2) hx hb dX12_readFeels_248 (by decide) ?_
                        refine lv_icmp_ne (tgt := 256) hx hb dX12_readFeels_249 (by decide) (fun c_1509 => ?_) (fun c_1509 => ?_)
                        · have b_1510 := z_fneT c_1509
                          refine lv_iconst (v := 0) hx hb dX12_readFeels_256 (by decide) ?_
                          refine lv_istore (lv' := [(5, .int 0), (3, .int x_1498), (4, .int v_1142), (0, .ref h0), (1, .int r_13), (2, .int x_41)]) hx hb dX12_readFeels_257 hl (by decide) rfl (fun ls hl => ?_)
                          refine lv_goto (tgt := 74) hx hb dX12_readFeels_259 (by decide) ?_
                          exact ih_1374 x_1498 v_1142 0 g_1496 n_1499 n_1500 n_1501 n_1502 n_1503 n_1504 H locs ls (by omega) (by omega) (by omega) (by decide +kernel) hC_g_1496 hr_n_1499 hr_n_1500 hr_n_1501 hr_n_1502 hr_n_1503 hs_1497 (by rw [hq_x_1498]; exact zFl_step hi_1367 hg_g_1496 (by omega) (by omega) (by omega) (r := x_1491.toInt) (c := x_1494.toInt) (by rw [h_42]; omega) (by omega) (by omega) (by omega) (by omega) (by omega) (by omega) (by omega)) (by omega) (by omega) (by omega) (by omega) (by omega) hP hD hS (lv_sub hl [3, 4, 5, 1, 2, 0] rfl)
                        · have b_1511 := z_feqF c_1509
                          refine lv_iconst (v := 1) hx hb dX12_readFeels_252 (by decide) ?_
                          refine lv_goto (tgt := 257) hx hb dX12_readFeels_253 (by decide) ?_
                          refine lv_istore (lv' := [(5, .int 1), (3, .int x_1498), (4, .int v_1142), (0, .ref h0), (1, .int r_13), (2, .int x_41)]) hx hb dX12_readFeels_257 hl (by decide) rfl (fun ls hl => ?_)
                          refine lv_goto (tgt := 74) hx hb dX12_readFeels_259 (by decide) ?_
                          exact ih_1374 x_1498 v_1142 1 g_1496 n_1499 n_1500 n_1501 n_1502 n_1503 n_1504 H locs ls (by omega) (by omega) (by omega) (by decide +kernel) hC_g_1496 hr_n_1499 hr_n_1500 hr_n_1501 hr_n_1502 hr_n_1503 hs_1497 (by rw [hq_x_1498]; exact zFl_step hi_1367 hg_g_1496 (by omega) (by omega) (by omega) (r := x_1491.toInt) (c := x_1494.toInt) (by rw [h_42]; omega) (by omega) (by omega) (by omega) (by omega) (by omega) (by omega) (by omega)) (by omega) (by omega) (by omega) (by omega) (by omega) hP hD hS (lv_sub hl [3, 4, 5, 1, 2, 0] rfl)
                      · have b_1512 := z_feqF c_1484
                        refine lv_iload hx hb dX12_readFeels_185 (lv_at hl 0 rfl) ?_
                        refine lv_bipush (v := 16) hx hb dX12_readFeels_187 (by decide) ?_
                        refine lv_icmp_eq (tgt := 202) hx hb dX12_readFeels_189 (by decide) (fun c_1513 => ?_) (fun c_1513 => ?_)
                        · have b_1514 := z_feqT c_1513
                          refine lv_aload_n hx hb dX12_readFeels_202 rfl (lv_at hl 1 rfl) ?_
                          refine va_get (D := G) (ci := 12) (v := .int n_11) (C := RX12) (T := TX12) (N := 65) hx hb hts inT12 hown hK hP 4 rfl rfl 12 (by decide) (hts _ tw_1897) (fun _ h9 => h9) rfl dX12_readFeels_203 ?_
                          refine lv_if_le (tgt := 210) hx hb dX12_readFeels_206 (by decide) (fun c_1515 => ?_) (fun h9 => (z_no (by have h8 := z_fgtF h9; omega)))
                          have b_1516 := z_fleT c_1515
                          have hn_k_1517 : 0 ≤ v_1135.toInt ∧ v_1135.toInt ≤ 8 := by omega
                          refine lv_aload_n hx hb dX12_readFeels_210 rfl (lv_at hl 1 rfl) ?_
                          refine va_get (D := G) (ci := 12) (v := .ref a_c) (C := RX12) (T := TX12) (N := 65) hx hb hts inT12 hown hK hP 4 rfl rfl 20 (by decide) (hts _ tw_1905) (fun _ h9 => h9) rfl dX12_readFeels_211 ?_
                          refine lv_sipush (v := 1477) hx hb dX12_readFeels_214 (by decide) ?_
                          refine lv_bipush (v := 16) hx hb dX12_readFeels_217 (by decide) ?_
                          refine lv_iload_n hx hb dX12_readFeels_219 rfl (lv_at hl 2 rfl) ?_
                          refine lv_imul hx hb dX12_readFeels_220 ?_
                          refine lv_topi (fun x_1518 he_x_1518 => ?_)
                          have hq_x_1518 := z_mulq he_x_1518 hk_16 (rfl : r_13.toInt = _) (by omega) (by omega)
                          refine lv_iadd hx hb dX12_readFeels_221 ?_
                          refine lv_topi (fun x_1519 he_x_1519 => ?_)
                          have hq_x_1519 := z_addq he_x_1519 hk_1477 (rfl : x_1518.toInt = _) (by omega) (by omega)
                          refine lv_iconst (v := 4) hx hb dX12_readFeels_222 (by decide) ?_
                          refine lv_iload_n hx hb dX12_readFeels_223 rfl (lv_at hl 4 rfl) ?_
                          refine lv_iload_n hx hb dX12_readFeels_224 rfl (lv_at hl 3 rfl) ?_
                          refine lv_idiv hx hb dX12_readFeels_225 (z_nz (by omega)) ?_
                          refine lv_topi (fun x_1520 he_x_1520 => ?_)
                          have hq_x_1520 := z_divq he_x_1520 (rfl : v_1135.toInt = _) (by omega : x_41.toInt = 3) (by omega) (by decide)
                          refine lv_imul hx hb dX12_readFeels_226 ?_
                          refine lv_topi (fun x_1521 he_x_1521 => ?_)
                          have hq_x_1521 := z_mulq he_x_1521 hk_4 (rfl : x_1520.toInt = _) (by omega) (by omega)
                          refine lv_iadd hx hb dX12_readFeels_227 ?_
                          refine lv_topi (fun x_1522 he_x_1522 => ?_)
                          have hq_x_1522 := z_addq he_x_1522 (rfl : x_1519.toInt = _) (rfl : x_1521.toInt = _) (by omega) (by omega)
                          refine lv_iload_n hx hb dX12_readFeels_228 rfl (lv_at hl 4 rfl) ?_
                          refine lv_iload_n hx hb dX12_readFeels_229 rfl (lv_at hl 3 rfl) ?_
                          refine lv_irem hx hb dX12_readFeels_230 (z_nz (by omega)) ?_
                          refine lv_topi (fun x_1523 he_x_1523 => ?_)
                          have hq_x_1523 := z_remq he_x_1523 (rfl : v_1135.toInt = _) (by omega : x_41.toInt = 3) (by omega) (by decide)
                          refine lv_iadd hx hb dX12_readFeels_231 ?_
                          refine lv_topi (fun x_1524 he_x_1524 => ?_)
                          have hq_x_1524 := z_addq he_x_1524 (rfl : x_1522.toInt = _) (rfl : x_1523.toInt = _) (by omega) (by omega)
                          refine lv_aload_n hx hb dX12_readFeels_232 rfl (lv_at hl 1 rfl) ?_
                          refine va_get (D := G) (ci := 12) (v := .int v_1142) (C := RX12) (T := TX12) (N := 65) hx hb hts inT12 hown hK hP 4 rfl rfl 17 (by decide) (hts _ tw_1902) (fun _ h9 => h9) rfl dX12_readFeels_233 ?_
                          refine z_iast hx hb hK hP hD hS 2 0 rfl rfl (z_inN (by omega) (by omega)) dX12_readFeels_236 (fun g_1525 hg_g_1525 H locs hP hD hS => ?_)
                          have hC_g_1525 := z_ctU hC_g_1138 hg_g_1525 (a := 1477) (b := 1519) (lo := 0) (hi := 16) (by decide +kernel) (by decide +kernel) (by omega) (by omega) (by omega)
                          have hw_g_1525_1460 := z_cwo hg_g_1525 (k := 1460) (by omega) (by omega)
                          have hs_1526 : zNw g_1525 g_isOn := (zNw_fr hs_1366 hg_g_1525 (a := 1477) (b := 1519) (by decide +kernel) (by omega) (by omega))
                          obtain ⟨x_1527, he_x_1527⟩ : ∃ z : Int32, z = v_1135 + 1 := ⟨_, rfl⟩
                          have hq_x_1527 := z_addq he_x_1527 (rfl : v_1135.toInt = _) hk_1 (by omega) (by omega)
                          refine lv_iinc (v := x_1527) (lv' := [(3, .int x_1527), (4, .int v_1142), (0, .ref h0), (1, .int r_13), (2, .int x_41), (5, .int v_1137)]) hx hb dX12_readFeels_237 hl (k := 4) rfl ((z_ofi (by decide +kernel)).trans he_x_1527.symm) (by decide) rfl (fun ls hl => ?_)
                          refine lv_aload_n hx hb dX12_readFeels_240 rfl (lv_at hl 2 rfl) ?_
                          refine z_callVv (As := []) (rest := []) (wr := [(a_hasFeels, .inl (cA.1 3, 3, .inl g_29)), (a_isOn, .inl (cA.1 3, 10, .inl g_isOn)), (a_c, .inl (cA.1 0, 1825, .inl g_1525)), (a_words, .inl (cA.1 1, 105, .inr (.inl g_words)))]) ⟨hx, hb, hml, hown, hts⟩ hK hE hT hP hD hS hA (r_next2 l G cA h0 m_status m_thrown m_above m_under a_traySort a_trayMany a_numbers a_tape m_taped m_textEnd m_faultKind m_faultAt n_11 n_12 v_1139 v_1140 v_1141 v_1142 v_1143 v_1144 a_c a_words m_markMany a_there a_tried a_best a_found m_thereMany m_foundMany m_orderHow m_orderRing m_orderMany m_hasBest m_bestTop m_bestBy a_weights a_shared m_random m_truePlace m_trueWay m_seconds m_done m_feelings m_tries m_leftOver m_playDoor m_playRing m_isOpen m_isOver m_wasTried m_hasPlayed a_feltNow a_last a_kept m_hasSeconds m_hasTurned m_hasRound a_hasFeels a_isOn m_firstAct m_meanTop m_meanBy a_order m_rowMany m_newSteps g_tape hr_m_textEnd hr_v_1140 hr_v_1141 hr_v_1139 hr_v_1142 hr_v_1143) lk_RX12_184 ⟨rfl, rfl⟩ ⟨Nat.le_of_ble_eq_true rfl, Nat.le_of_ble_eq_true rfl⟩ 12 rfl rfl rfl [4, 5] [0, 1, 2, 3] rfl rfl (by decide) rfl hl.1 rfl (lv_room (Nat.le_of_ble_eq_true rfl)) dX12_readFeels_241 ⟨Nat.le_of_ble_eq_true rfl, Nat.le_of_ble_eq_true rfl⟩ (fun u_1535 H locs hw hP hD hS => ?_)
                          obtain ⟨n_1528, n_1529, n_1530, n_1531, n_1532, n_1533⟩ := u_1535
                          try dsimp only at hw
                          obtain ⟨hr_n_1528, hr_n_1529, hr_n_1530, hr_n_1531, hr_n_1532, hf_1536, hf_1537⟩ := hw
                          refine lv_aload_n hx hb dX12_readFeels_244 rfl (lv_at hl 2 rfl) ?_
                          refine va_get (D := G) (ci := 12) (v := .int n_1528) (C := RX12) (T := TX12) (N := 65) hx hb hts inT12 hown hK hP 4 rfl rfl 14 (by decide) (hts _ tw_1899) (fun _ h9 => h9) rfl dX12_readFeels_245 ?_
                          refine lv_iconst (v := 2) hx hb dX12_readFeels_248 (by decide) ?_
                          refine lv_icmp_ne (tgt := 256) hx hb dX12_readFeels_249 (by decide) (fun c_1538 => ?_) (fun c_1538 => ?_)
                          · have b_1539 := z_fneT c_1538
                            refine lv_iconst (v := 0) hx hb dX12_readFeels_256 (by decide) ?_
                            refine lv_istore (lv' := [(5, .int 0), (3, .int x_1527), (4, .int v_1142), (0, .ref h0), (1, .int r_13), (2, .int x_41)]) hx hb dX12_readFeels_257 hl (by decide) rfl (fun ls hl => ?_)
                            refine lv_goto (tgt := 74) hx hb dX12_readFeels_259 (by decide) ?_
                            exact ih_1374 x_1527 v_1142 0 g_1525 n_1528 n_1529 n_1530 n_1531 n_1532 n_1533 H locs ls (by omega) (by omega) (by omega) (by decide +kernel) hC_g_1525 hr_n_1528 hr_n_1529 hr_n_1530 hr_n_1531 hr_n_1532 hs_1526 (by rw [hq_x_1527]; exact zFl_step hi_1367 hg_g_1525 (by omega) (by omega) (by omega) (r := x_1520.toInt) (c := x_1523.toInt) (by rw [h_42]; omega) (by omega) (by omega) (by omega) (by omega) (by omega) (by omega) (by omega)) (by omega) (by omega) (by omega) (by omega) (by omega) hP hD hS (lv_sub hl [3, 4, 5, 1, 2, 0] rfl)
                          · have b_1540 := z_feqF c_1538
                            refine lv_iconst (v := 1) hx hb dX12_readFeels_252 (by decide) ?_
                            refine lv_goto (tgt := 257) hx hb dX12_readFeels_253 (by decide) ?_
                            refine lv_istore (lv' := [(5, .int 1), (3, .int x_1527), (4, .int v_1142), (0, .ref h0), (1, .int r_13), (2, .int x_41)]) hx hb dX12_readFeels_257 hl (by decide) rfl (fun ls hl => ?_)
                            refine lv_goto (tgt := 74) hx hb dX12_readFeels_259 (by decide) ?_
                            exact ih_1374 x_1527 v_1142 1 g_1525 n_1528 n_1529 n_1530 n_1531 n_1532 n_1533 H locs ls (by omega) (by omega) (by omega) (by decide +kernel) hC_g_1525 hr_n_1528 hr_n_1529 hr_n_1530 hr_n_1531 hr_n_1532 hs_1526 (by rw [hq_x_1527]; exact zFl_step hi_1367 hg_g_1525 (by omega) (by omega) (by omega) (r := x_1520.toInt) (c := x_1523.toInt) (by rw [h_42]; omega) (by omega) (by omega) (by omega) (by omega) (by omega) (by omega) (by omega)) (by omega) (by omega) (by omega) (by omega) (by omega) hP hD hS (lv_sub hl [3, 4, 5, 1, 2, 0] rfl)
                        · have b_1541 := z_fneF c_1513
                          refine lv_aload_n hx hb dX12_readFeels_192 rfl (lv_at hl 1 rfl) ?_
                          refine lv_bipush (v := 9) hx hb dX12_readFeels_193 (by decide) ?_
                          refine lv_aload_n hx hb dX12_readFeels_195 rfl (lv_at hl 1 rfl) ?_
                          refine va_get (D := G) (ci := 12) (v := .int v_1140) (C := RX12) (T := TX12) (N := 65) hx hb hts inT12 hown hK hP 4 rfl rfl 15 (by decide) (hts _ tw_1900) (fun _ h9 => h9) rfl dX12_readFeels_196 ?_
                          refine z_callVv (As := [.int 9, .int v_1140]) (rest := []) (wr := [(a_hasFeels, .inl (cA.1 3, 3, .inl g_29)), (a_isOn, .inl (cA.1 3, 10, .inl g_isOn)), (a_c, .inl (cA.1 0, 1825, .inl g_1138)), (a_words, .inl (cA.1 1, 105, .inr (.inl g_words))), (a_tape, .inl (cA.1 2, 900, .inl g_tape))]) ⟨hx, hb, hml, hown, hts⟩ hK hE hT hP hD hS hA (r_fail l G cA h0 m_status m_thrown m_above m_under a_traySort a_trayMany a_numbers a_tape m_taped m_textEnd m_faultKind m_faultAt n_11 n_12 v_1139 v_1140 v_1141 v_1142 v_1143 v_1144 a_c a_words m_markMany a_there a_tried a_best a_found m_thereMany m_foundMany m_orderHow m_orderRing m_orderMany m_hasBest m_bestTop m_bestBy a_weights a_shared m_random m_truePlace m_trueWay m_seconds m_done m_feelings m_tries m_leftOver m_playDoor m_playRing m_isOpen m_isOver m_wasTried m_hasPlayed a_feltNow a_last a_kept m_hasSeconds m_hasTurned m_hasRound a_hasFeels a_isOn m_firstAct m_meanTop m_meanBy a_order m_rowMany m_newSteps 9 v_1140 (by decide +kernel) hr_n_11) lk_RX12_180 ⟨rfl, rfl⟩ ⟨Nat.le_of_ble_eq_true rfl, Nat.le_of_ble_eq_true rfl⟩ 12 rfl rfl rfl [4] [0, 1, 2, 3, 5] rfl rfl (by decide) rfl hl.1 rfl (lv_room (Nat.le_of_ble_eq_true rfl)) dX12_readFeels_199 ⟨Nat.le_of_ble_eq_true rfl, Nat.le_of_ble_eq_true rfl⟩ (fun u_1545 H locs hw hP hD hS => ?_)
                          obtain ⟨n_1542, n_1543⟩ := u_1545
                          try dsimp only at hw
                          obtain ⟨hr_n_1542, hf_1546⟩ := hw
                          refine lv_aload_n hx hb dX12_readFeels_202 rfl (lv_at hl 1 rfl) ?_
                          refine va_get (D := G) (ci := 12) (v := .int n_1542) (C := RX12) (T := TX12) (N := 65) hx hb hts inT12 hown hK hP 5 rfl rfl 12 (by decide) (hts _ tw_1897) (fun _ h9 => h9) rfl dX12_readFeels_203 ?_
                          refine lv_if_le (tgt := 210) hx hb dX12_readFeels_206 (by decide) (fun h9 => (z_no (by have h8 := z_fleT h9; omega))) (fun c_1547 => ?_)
                          have b_1548 := z_fgtF c_1547
                          have hpost : (0 ≤ n_1542.toInt ∧ n_1542.toInt ≤ 9) ∧ (0 ≤ v_1139.toInt ∧ v_1139.toInt ≤ 4) ∧ (0 ≤ v_1140.toInt ∧ v_1140.toInt ≤ 900) ∧ (0 ≤ v_1141.toInt ∧ v_1141.toInt ≤ 900) ∧ (0 ≤ v_1142.toInt ∧ v_1142.toInt ≤ 9999) ∧ (0 ≤ v_1143.toInt ∧ v_1143.toInt ≤ 900) ∧ (zRg 3 0 1 g_29) ∧ (zC g_1138) ∧ (zNw g_1138 g_isOn) ∧ (m_behind.toInt ≤ v_1141.toInt) ∧ (0 < m_bad.toInt → 0 < n_1542.toInt) ∧ (n_1542.toInt ≤ 0 → v_1139.toInt = 0 ∨ m_behind.toInt < v_1141.toInt) ∧ (n_1542.toInt ≤ 0 → v_1139.toInt = 3 → v_1142.toInt = 59 → zNf g_1138) := ⟨(z_rgw hr_n_1542 (by decide) (by decide)), hr_v_1139, hr_v_1140, hr_v_1141, hr_v_1142, hr_v_1143, hC_g_29, hC_g_1138, hs_1366, (by omega), (by omega), (by omega), (fun h1 h2 h3 => z_no (by omega))⟩
                          exact hret _ _ _ _ _ (n_1542, n_1543, v_1139, v_1140, v_1141, v_1142, v_1143, v_1144, g_29, g_1138) [5, 4, 2, 3, 0, 1] hP hD hS rfl (by decide) dX12_readFeels_209 hpost
                  · have b_1549 := z_feqF c_1404
                    refine lv_aload_n hx hb dX12_readFeels_137 rfl (lv_at hl 0 rfl) ?_
                    refine lv_bipush (v := 8) hx hb dX12_readFeels_138 (by decide) ?_
                    refine lv_aload_n hx hb dX12_readFeels_140 rfl (lv_at hl 0 rfl) ?_
                    refine va_get (D := G) (ci := 12) (v := .int v_1140) (C := RX12) (T := TX12) (N := 65) hx hb hts inT12 hown hK hP 4 rfl rfl 15 (by decide) (hts _ tw_1900) (fun _ h9 => h9) rfl dX12_readFeels_141 ?_
                    refine z_callVv (As := [.int 8, .int v_1140]) (rest := []) (wr := [(a_hasFeels, .inl (cA.1 3, 3, .inl g_29)), (a_isOn, .inl (cA.1 3, 10, .inl g_isOn)), (a_c, .inl (cA.1 0, 1825, .inl g_1138)), (a_words, .inl (cA.1 1, 105, .inr (.inl g_words))), (a_tape, .inl (cA.1 2, 900, .inl g_tape))]) ⟨hx, hb, hml, hown, hts⟩ hK hE hT hP hD hS hA (r_fail l G cA h0 m_status m_thrown m_above m_under a_traySort a_trayMany a_numbers a_tape m_taped m_textEnd m_faultKind m_faultAt n_11 n_12 v_1139 v_1140 v_1141 v_1142 v_1143 v_1144 a_c a_words m_markMany a_there a_tried a_best a_found m_thereMany m_foundMany m_orderHow m_orderRing m_orderMany m_hasBest m_bestTop m_bestBy a_weights a_shared m_random m_truePlace m_trueWay m_seconds m_done m_feelings m_tries m_leftOver m_playDoor m_playRing m_isOpen m_isOver m_wasTried m_hasPlayed a_feltNow a_last a_kept m_hasSeconds m_hasTurned m_hasRound a_hasFeels a_isOn m_firstAct m_meanTop m_meanBy a_order m_rowMany m_newSteps 8 v_1140 (by decide +kernel) hr_n_11) lk_RX12_180 ⟨rfl, rfl⟩ ⟨Nat.le_of_ble_eq_true rfl, Nat.le_of_ble_eq_true rfl⟩ 12 rfl rfl rfl [4] [0, 1, 2, 3, 5] rfl rfl (by decide) rfl hl.1 rfl (lv_room (Nat.le_of_ble_eq_true rfl)) dX12_readFeels_144 ⟨Nat.le_of_ble_eq_true rfl, Nat.le_of_ble_eq_true rfl⟩ (fun u_1553 H locs hw hP hD hS => ?_)
                    obtain ⟨n_1550, n_1551⟩ := u_1553
                    try dsimp only at hw
                    obtain ⟨hr_n_1550, hf_1554⟩ := hw
                    refine lv_iload_n hx hb dX12_readFeels_147 rfl (lv_at hl 3 rfl) ?_
                    refine lv_iload_n hx hb dX12_readFeels_148 rfl (lv_at hl 2 rfl) ?_
                    refine lv_irem hx hb dX12_readFeels_149 (z_nz (by omega)) ?_
                    refine lv_topi (fun x_1555 he_x_1555 => ?_)
                    have hq_x_1555 := z_remq he_x_1555 (rfl : v_1135.toInt = _) (by omega : x_41.toInt = 3) (by omega) (by decide)
                    refine lv_if_ne (tgt := 160) hx hb dX12_readFeels_150 (by decide) (fun c_1556 => ?_) (fun c_1556 => ?_)
                    · have b_1557 := z_fneT c_1556
                      refine lv_iload hx hb dX12_readFeels_160 (lv_at hl 4 rfl) ?_
                      refine lv_aload_n hx hb dX12_readFeels_162 rfl (lv_at hl 0 rfl) ?_
                      refine va_get (D := G) (ci := 12) (v := .int v_1142) (C := RX12) (T := TX12) (N := 65) hx hb hts inT12 hown hK hP 5 rfl rfl 17 (by decide) (hts _ tw_1902) (fun _ h9 => h9) rfl dX12_readFeels_163 ?_
                      refine lv_iadd hx hb dX12_readFeels_166 ?_
                      refine lv_topi (fun x_1558 he_x_1558 => ?_)
                      have hq_x_1558 := z_addq he_x_1558 (rfl : v_1136.toInt = _) (rfl : v_1142.toInt = _) (by omega) (by omega)
                      refine lv_istore (lv' := [(4, .int x_1558), (0, .ref h0), (1, .int r_13), (2, .int x_41), (3, .int v_1135), (5, .int v_1137)]) hx hb dX12_readFeels_167 hl (by decide) rfl (fun ls hl => ?_)
                      refine lv_aload_n hx hb dX12_readFeels_169 rfl (lv_at hl 1 rfl) ?_
                      refine va_get (D := G) (ci := 12) (v := .int n_1550) (C := RX12) (T := TX12) (N := 65) hx hb hts inT12 hown hK hP 5 rfl rfl 12 (by decide) (hts _ tw_1897) (fun _ h9 => h9) rfl dX12_readFeels_170 ?_
                      refine lv_if_ne (tgt := 202) hx hb dX12_readFeels_173 (by decide) (fun c_1559 => ?_) (fun h9 => (z_no (by have h8 := z_feqF h9; omega)))
                      have b_1560 := z_fneT c_1559
                      refine lv_aload_n hx hb dX12_readFeels_202 rfl (lv_at hl 1 rfl) ?_
                      refine va_get (D := G) (ci := 12) (v := .int n_1550) (C := RX12) (T := TX12) (N := 65) hx hb hts inT12 hown hK hP 5 rfl rfl 12 (by decide) (hts _ tw_1897) (fun _ h9 => h9) rfl dX12_readFeels_203 ?_
                      refine lv_if_le (tgt := 210) hx hb dX12_readFeels_206 (by decide) (fun h9 => (z_no (by have h8 := z_fleT h9; omega))) (fun c_1561 => ?_)
                      have b_1562 := z_fgtF c_1561
                      have hpost : (0 ≤ n_1550.toInt ∧ n_1550.toInt ≤ 9) ∧ (0 ≤ v_1139.toInt ∧ v_1139.toInt ≤ 4) ∧ (0 ≤ v_1140.toInt ∧ v_1140.toInt ≤ 900) ∧ (0 ≤ v_1141.toInt ∧ v_1141.toInt ≤ 900) ∧ (0 ≤ v_1142.toInt ∧ v_1142.toInt ≤ 9999) ∧ (0 ≤ v_1143.toInt ∧ v_1143.toInt ≤ 900) ∧ (zRg 3 0 1 g_29) ∧ (zC g_1138) ∧ (zNw g_1138 g_isOn) ∧ (m_behind.toInt ≤ v_1141.toInt) ∧ (0 < m_bad.toInt → 0 < n_1550.toInt) ∧ (n_1550.toInt ≤ 0 → v_1139.toInt = 0 ∨ m_behind.toInt < v_1141.toInt) ∧ (n_1550.toInt ≤ 0 → v_1139.toInt = 3 → v_1142.toInt = 59 → zNf g_1138) := ⟨(z_rgw hr_n_1550 (by decide) (by decide)), hr_v_1139, hr_v_1140, hr_v_1141, hr_v_1142, hr_v_1143, hC_g_29, hC_g_1138, hs_1366, (by omega), (by omega), (by omega), (fun h1 h2 h3 => z_no (by omega))⟩
                      exact hret _ _ _ _ _ (n_1550, n_1551, v_1139, v_1140, v_1141, v_1142, v_1143, v_1144, g_29, g_1138) [5, 4, 2, 3, 0, 1] hP hD hS rfl (by decide) dX12_readFeels_209 hpost
                    · have b_1563 := z_feqF c_1556
                      refine lv_aload_n hx hb dX12_readFeels_153 rfl (lv_at hl 0 rfl) ?_
                      refine va_get (D := G) (ci := 12) (v := .int v_1142) (C := RX12) (T := TX12) (N := 65) hx hb hts inT12 hown hK hP 5 rfl rfl 17 (by decide) (hts _ tw_1902) (fun _ h9 => h9) rfl dX12_readFeels_154 ?_
                      refine lv_goto (tgt := 167) hx hb dX12_readFeels_157 (by decide) ?_
                      refine lv_istore (lv' := [(4, .int v_1142), (0, .ref h0), (1, .int r_13), (2, .int x_41), (3, .int v_1135), (5, .int v_1137)]) hx hb dX12_readFeels_167 hl (by decide) rfl (fun ls hl => ?_)
                      refine lv_aload_n hx hb dX12_readFeels_169 rfl (lv_at hl 1 rfl) ?_
                      refine va_get (D := G) (ci := 12) (v := .int n_1550) (C := RX12) (T := TX12) (N := 65) hx hb hts inT12 hown hK hP 5 rfl rfl 12 (by decide) (hts _ tw_1897) (fun _ h9 => h9) rfl dX12_readFeels_170 ?_
                      refine lv_if_ne (tgt := 202) hx hb dX12_readFeels_173 (by decide) (fun c_1564 => ?_) (fun h9 => (z_no (by have h8 := z_feqF h9; omega)))
                      have b_1565 := z_fneT c_1564
                      refine lv_aload_n hx hb dX12_readFeels_202 rfl (lv_at hl 1 rfl) ?_
                      refine va_get (D := G) (ci := 12) (v := .int n_1550) (C := RX12) (T := TX12) (N := 65) hx hb hts inT12 hown hK hP 5 rfl rfl 12 (by decide) (hts _ tw_1897) (fun _ h9 => h9) rfl dX12_readFeels_203 ?_
                      refine lv_if_le (tgt := 210) hx hb dX12_readFeels_206 (by decide) (fun h9 => (z_no (by have h8 := z_fleT h9; omega))) (fun c_1566 => ?_)
                      have b_1567 := z_fgtF c_1566
                      have hpost : (0 ≤ n_1550.toInt ∧ n_1550.toInt ≤ 9) ∧ (0 ≤ v_1139.toInt ∧ v_1139.toInt ≤ 4) ∧ (0 ≤ v_1140.toInt ∧ v_1140.toInt ≤ 900) ∧ (0 ≤ v_1141.toInt ∧ v_1141.toInt ≤ 900) ∧ (0 ≤ v_1142.toInt ∧ v_1142.toInt ≤ 9999) ∧ (0 ≤ v_1143.toInt ∧ v_1143.toInt ≤ 900) ∧ (zRg 3 0 1 g_29) ∧ (zC g_1138) ∧ (zNw g_1138 g_isOn) ∧ (m_behind.toInt ≤ v_1141.toInt) ∧ (0 < m_bad.toInt → 0 < n_1550.toInt) ∧ (n_1550.toInt ≤ 0 → v_1139.toInt = 0 ∨ m_behind.toInt < v_1141.toInt) ∧ (n_1550.toInt ≤ 0 → v_1139.toInt = 3 → v_1142.toInt = 59 → zNf g_1138) := ⟨(z_rgw hr_n_1550 (by decide) (by decide)), hr_v_1139, hr_v_1140, hr_v_1141, hr_v_1142, hr_v_1143, hC_g_29, hC_g_1138, hs_1366, (by omega), (by omega), (by omega), (fun h1 h2 h3 => z_no (by omega))⟩
                      exact hret _ _ _ _ _ (n_1550, n_1551, v_1139, v_1140, v_1141, v_1142, v_1143, v_1144, g_29, g_1138) [5, 4, 2, 3, 0, 1] hP hD hS rfl (by decide) dX12_readFeels_209 hpost
                · have b_1568 := z_fgtF c_1399
                  refine lv_aload_n hx hb dX12_readFeels_114 rfl (lv_at hl 0 rfl) ?_
                  refine lv_iconst (v := 4) hx hb dX12_readFeels_115 (by decide) ?_
                  refine lv_aload_n hx hb dX12_readFeels_116 rfl (lv_at hl 0 rfl) ?_
                  refine va_get (D := G) (ci := 12) (v := .int v_1140) (C := RX12) (T := TX12) (N := 65) hx hb hts inT12 hown hK hP 4 rfl rfl 15 (by decide) (hts _ tw_1900) (fun _ h9 => h9) rfl dX12_readFeels_117 ?_
                  refine z_callVv (As := [.int 4, .int v_1140]) (rest := []) (wr := [(a_hasFeels, .inl (cA.1 3, 3, .inl g_29)), (a_isOn, .inl (cA.1 3, 10, .inl g_isOn)), (a_c, .inl (cA.1 0, 1825, .inl g_1138)), (a_words, .inl (cA.1 1, 105, .inr (.inl g_words))), (a_tape, .inl (cA.1 2, 900, .inl g_tape))]) ⟨hx, hb, hml, hown, hts⟩ hK hE hT hP hD hS hA (r_fail l G cA h0 m_status m_thrown m_above m_under a_traySort a_trayMany a_numbers a_tape m_taped m_textEnd m_faultKind m_faultAt n_11 n_12 v_1139 v_1140 v_1141 v_1142 v_1143 v_1144 a_c a_words m_markMany a_there a_tried a_best a_found m_thereMany m_foundMany m_orderHow m_orderRing m_orderMany m_hasBest m_bestTop m_bestBy a_weights a_shared m_random m_truePlace m_trueWay m_seconds m_done m_feelings m_tries m_leftOver m_playDoor m_playRing m_isOpen m_isOver m_wasTried m_hasPlayed a_feltNow a_last a_kept m_hasSeconds m_hasTurned m_hasRound a_hasFeels a_isOn m_firstAct m_meanTop m_meanBy a_order m_rowMany m_newSteps 4 v_1140 (by decide +kernel) hr_n_11) lk_RX12_180 ⟨rfl, rfl⟩ ⟨Nat.le_of_ble_eq_true rfl, Nat.le_of_ble_eq_true rfl⟩ 12 rfl rfl rfl [4] [0, 1, 2, 3, 5] rfl rfl (by decide) rfl hl.1 rfl (lv_room (Nat.le_of_ble_eq_true rfl)) dX12_readFeels_120 ⟨Nat.le_of_ble_eq_true rfl, Nat.le_of_ble_eq_true rfl⟩ (fun u_1572 H locs hw hP hD hS => ?_)
                  obtain ⟨n_1569, n_1570⟩ := u_1572
                  try dsimp only at hw
                  obtain ⟨hr_n_1569, hf_1573⟩ := hw
                  refine lv_aload_n hx hb dX12_readFeels_123 rfl (lv_at hl 0 rfl) ?_
                  refine va_get (D := G) (ci := 12) (v := .int n_1569) (C := RX12) (T := TX12) (N := 65) hx hb hts inT12 hown hK hP 5 rfl rfl 12 (by decide) (hts _ tw_1897) (fun _ h9 => h9) rfl dX12_readFeels_124 ?_
                  refine lv_if_ne (tgt := 147) hx hb dX12_readFeels_127 (by decide) (fun c_1574 => ?_) (fun h9 => (z_no (by have h8 := z_feqF h9; omega)))
                  have b_1575 := z_fneT c_1574
                  refine lv_iload_n hx hb dX12_readFeels_147 rfl (lv_at hl 3 rfl) ?_
                  refine lv_iload_n hx hb dX12_readFeels_148 rfl (lv_at hl 2 rfl) ?_
                  refine lv_irem hx hb dX12_readFeels_149 (z_nz (by omega)) ?_
                  refine lv_topi (fun x_1576 he_x_1576 => ?_)
                  have hq_x_1576 := z_remq he_x_1576 (rfl : v_1135.toInt = _) (by omega : x_41.toInt = 3) (by omega) (by decide)
                  refine lv_if_ne (tgt := 160) hx hb dX12_readFeels_150 (by decide) (fun c_1577 => ?_) (fun c_1577 => ?_)
                  · have b_1578 := z_fneT c_1577
                    refine lv_iload hx hb dX12_readFeels_160 (lv_at hl 4 rfl) ?_
                    refine lv_aload_n hx hb dX12_readFeels_162 rfl (lv_at hl 0 rfl) ?_
                    refine va_get (D := G) (ci := 12) (v := .int v_1142) (C := RX12) (T := TX12) (N := 65) hx hb hts inT12 hown hK hP 5 rfl rfl 17 (by decide) (hts _ tw_1902) (fun _ h9 => h9) rfl dX12_readFeels_163 ?_
                    refine lv_iadd hx hb dX12_readFeels_166 ?_
                    refine lv_topi (fun x_1579 he_x_1579 => ?_)
                    have hq_x_1579 := z_addq he_x_1579 (rfl : v_1136.toInt = _) (rfl : v_1142.toInt = _) (by omega) (by omega)
                    refine lv_istore (lv' := [(4, .int x_1579), (0, .ref h0), (1, .int r_13), (2, .int x_41), (3, .int v_1135), (5, .int v_1137)]) hx hb dX12_readFeels_167 hl (by decide) rfl (fun ls hl => ?_)
                    refine lv_aload_n hx hb dX12_readFeels_169 rfl (lv_at hl 1 rfl) ?_
                    refine va_get (D := G) (ci := 12) (v := .int n_1569) (C := RX12) (T := TX12) (N := 65) hx hb hts inT12 hown hK hP 5 rfl rfl 12 (by decide) (hts _ tw_1897) (fun _ h9 => h9) rfl dX12_readFeels_170 ?_
                    refine lv_if_ne (tgt := 202) hx hb dX12_readFeels_173 (by decide) (fun c_1580 => ?_) (fun h9 => (z_no (by have h8 := z_feqF h9; omega)))
                    have b_1581 := z_fneT c_1580
                    refine lv_aload_n hx hb dX12_readFeels_202 rfl (lv_at hl 1 rfl) ?_
                    refine va_get (D := G) (ci := 12) (v := .int n_1569) (C := RX12) (T := TX12) (N := 65) hx hb hts inT12 hown hK hP 5 rfl rfl 12 (by decide) (hts _ tw_1897) (fun _ h9 => h9) rfl dX12_readFeels_203 ?_
                    refine lv_if_le (tgt := 210) hx hb dX12_readFeels_206 (by decide) (fun h9 => (z_no (by have h8 := z_fleT h9; omega))) (fun c_1582 => ?_)
                    have b_1583 := z_fgtF c_1582
                    have hpost : (0 ≤ n_1569.toInt ∧ n_1569.toInt ≤ 9) ∧ (0 ≤ v_1139.toInt ∧ v_1139.toInt ≤ 4) ∧ (0 ≤ v_1140.toInt ∧ v_1140.toInt ≤ 900) ∧ (0 ≤ v_1141.toInt ∧ v_1141.toInt ≤ 900) ∧ (0 ≤ v_1142.toInt ∧ v_1142.toInt ≤ 9999) ∧ (0 ≤ v_1143.toInt ∧ v_1143.toInt ≤ 900) ∧ (zRg 3 0 1 g_29) ∧ (zC g_1138) ∧ (zNw g_1138 g_isOn) ∧ (m_behind.toInt ≤ v_1141.toInt) ∧ (0 < m_bad.toInt → 0 < n_1569.toInt) ∧ (n_1569.toInt ≤ 0 → v_1139.toInt = 0 ∨ m_behind.toInt < v_1141.toInt) ∧ (n_1569.toInt ≤ 0 → v_1139.toInt = 3 → v_1142.toInt = 59 → zNf g_1138) := ⟨(z_rgw hr_n_1569 (by decide) (by decide)), hr_v_1139, hr_v_1140, hr_v_1141, hr_v_1142, hr_v_1143, hC_g_29, hC_g_1138, hs_1366, (by omega), (by omega), (by omega), (fun h1 h2 h3 => z_no (by omega))⟩
                    exact hret _ _ _ _ _ (n_1569, n_1570, v_1139, v_1140, v_1141, v_1142, v_1143, v_1144, g_29, g_1138) [5, 4, 2, 3, 0, 1] hP hD hS rfl (by decide) dX12_readFeels_209 hpost
                  · have b_1584 := z_feqF c_1577
                    refine lv_aload_n hx hb dX12_readFeels_153 rfl (lv_at hl 0 rfl) ?_
                    refine va_get (D := G) (ci := 12) (v := .int v_1142) (C := RX12) (T := TX12) (N := 65) hx hb hts inT12 hown hK hP 5 rfl rfl 17 (by decide) (hts _ tw_1902) (fun _ h9 => h9) rfl dX12_readFeels_154 ?_
                    refine lv_goto (tgt := 167) hx hb dX12_readFeels_157 (by decide) ?_
                    refine lv_istore (lv' := [(4, .int v_1142), (0, .ref h0), (1, .int r_13), (2, .int x_41), (3, .int v_1135), (5, .int v_1137)]) hx hb dX12_readFeels_167 hl (by decide) rfl (fun ls hl => ?_)
                    refine lv_aload_n hx hb dX12_readFeels_169 rfl (lv_at hl 1 rfl) ?_
                    refine va_get (D := G) (ci := 12) (v := .int n_1569) (C := RX12) (T := TX12) (N := 65) hx hb hts inT12 hown hK hP 5 rfl rfl 12 (by decide) (hts _ tw_1897) (fun _ h9 => h9) rfl dX12_readFeels_170 ?_
                    refine lv_if_ne (tgt := 202) hx hb dX12_readFeels_173 (by decide) (fun c_1585 => ?_) (fun h9 => (z_no (by have h8 := z_feqF h9; omega)))
                    have b_1586 := z_fneT c_1585
                    refine lv_aload_n hx hb dX12_readFeels_202 rfl (lv_at hl 1 rfl) ?_
                    refine va_get (D := G) (ci := 12) (v := .int n_1569) (C := RX12) (T := TX12) (N := 65) hx hb hts inT12 hown hK hP 5 rfl rfl 12 (by decide) (hts _ tw_1897) (fun _ h9 => h9) rfl dX12_readFeels_203 ?_
                    refine lv_if_le (tgt := 210) hx hb dX12_readFeels_206 (by decide) (fun h9 => (z_no (by have h8 := z_fleT h9; omega))) (fun c_1587 => ?_)
                    have b_1588 := z_fgtF c_1587
                    have hpost : (0 ≤ n_1569.toInt ∧ n_1569.toInt ≤ 9) ∧ (0 ≤ v_1139.toInt ∧ v_1139.toInt ≤ 4) ∧ (0 ≤ v_1140.toInt ∧ v_1140.toInt ≤ 900) ∧ (0 ≤ v_1141.toInt ∧ v_1141.toInt ≤ 900) ∧ (0 ≤ v_1142.toInt ∧ v_1142.toInt ≤ 9999) ∧ (0 ≤ v_1143.toInt ∧ v_1143.toInt ≤ 900) ∧ (zRg 3 0 1 g_29) ∧ (zC g_1138) ∧ (zNw g_1138 g_isOn) ∧ (m_behind.toInt ≤ v_1141.toInt) ∧ (0 < m_bad.toInt → 0 < n_1569.toInt) ∧ (n_1569.toInt ≤ 0 → v_1139.toInt = 0 ∨ m_behind.toInt < v_1141.toInt) ∧ (n_1569.toInt ≤ 0 → v_1139.toInt = 3 → v_1142.toInt = 59 → zNf g_1138) := ⟨(z_rgw hr_n_1569 (by decide) (by decide)), hr_v_1139, hr_v_1140, hr_v_1141, hr_v_1142, hr_v_1143, hC_g_29, hC_g_1138, hs_1366, (by omega), (by omega), (by omega), (fun h1 h2 h3 => z_no (by omega))⟩
                    exact hret _ _ _ _ _ (n_1569, n_1570, v_1139, v_1140, v_1141, v_1142, v_1143, v_1144, g_29, g_1138) [5, 4, 2, 3, 0, 1] hP hD hS rfl (by decide) dX12_readFeels_209 hpost
              · have b_1589 := z_fneF c_1395
                refine lv_aload_n hx hb dX12_readFeels_94 rfl (lv_at hl 0 rfl) ?_
                refine z_callVv (As := []) (rest := []) (wr := [(a_hasFeels, .inl (cA.1 3, 3, .inl g_29)), (a_isOn, .inl (cA.1 3, 10, .inl g_isOn)), (a_c, .inl (cA.1 0, 1825, .inl g_1138)), (a_words, .inl (cA.1 1, 105, .inr (.inl g_words))), (a_tape, .inl (cA.1 2, 900, .inl g_tape))]) ⟨hx, hb, hml, hown, hts⟩ hK hE hT hP hD hS hA (r_wrong l G cA h0 m_status m_thrown m_above m_under a_traySort a_trayMany a_numbers a_tape m_taped m_textEnd m_faultKind m_faultAt n_11 n_12 v_1139 v_1140 v_1141 v_1142 v_1143 v_1144 a_c a_words m_markMany a_there a_tried a_best a_found m_thereMany m_foundMany m_orderHow m_orderRing m_orderMany m_hasBest m_bestTop m_bestBy a_weights a_shared m_random m_truePlace m_trueWay m_seconds m_done m_feelings m_tries m_leftOver m_playDoor m_playRing m_isOpen m_isOver m_wasTried m_hasPlayed a_feltNow a_last a_kept m_hasSeconds m_hasTurned m_hasRound a_hasFeels a_isOn m_firstAct m_meanTop m_meanBy a_order m_rowMany m_newSteps hr_v_1140 hr_n_11 hr_v_1139) lk_RX12_187 ⟨rfl, rfl⟩ ⟨Nat.le_of_ble_eq_true rfl, Nat.le_of_ble_eq_true rfl⟩ 12 rfl rfl rfl [4] [0, 1, 2, 3, 5] rfl rfl (by decide) rfl hl.1 rfl (lv_room (Nat.le_of_ble_eq_true rfl)) dX12_readFeels_95 ⟨Nat.le_of_ble_eq_true rfl, Nat.le_of_ble_eq_true rfl⟩ (fun u_1593 H locs hw hP hD hS => ?_)
                obtain ⟨n_1590, n_1591⟩ := u_1593
                try dsimp only at hw
                have hr_n_1590 := hw
                refine lv_aload_n hx hb dX12_readFeels_98 rfl (lv_at hl 0 rfl) ?_
                refine va_get (D := G) (ci := 12) (v := .int n_1590) (C := RX12) (T := TX12) (N := 65) hx hb hts inT12 hown hK hP 5 rfl rfl 12 (by decide) (hts _ tw_1897) (fun _ h9 => h9) rfl dX12_readFeels_99 ?_
                refine lv_if_ne (tgt := 123) hx hb dX12_readFeels_102 (by decide) (fun c_1594 => ?_) (fun h9 => (z_no (by have h8 := z_feqF h9; omega)))
                have b_1595 := z_fneT c_1594
                refine lv_aload_n hx hb dX12_readFeels_123 rfl (lv_at hl 0 rfl) ?_
                refine va_get (D := G) (ci := 12) (v := .int n_1590) (C := RX12) (T := TX12) (N := 65) hx hb hts inT12 hown hK hP 5 rfl rfl 12 (by decide) (hts _ tw_1897) (fun _ h9 => h9) rfl dX12_readFeels_124 ?_
                refine lv_if_ne (tgt := 147) hx hb dX12_readFeels_127 (by decide) (fun c_1596 => ?_) (fun h9 => (z_no (by have h8 := z_feqF h9; omega)))
                have b_1597 := z_fneT c_1596
                refine lv_iload_n hx hb dX12_readFeels_147 rfl (lv_at hl 3 rfl) ?_
                refine lv_iload_n hx hb dX12_readFeels_148 rfl (lv_at hl 2 rfl) ?_
                refine lv_irem hx hb dX12_readFeels_149 (z_nz (by omega)) ?_
                refine lv_topi (fun x_1598 he_x_1598 => ?_)
                have hq_x_1598 := z_remq he_x_1598 (rfl : v_1135.toInt = _) (by omega : x_41.toInt = 3) (by omega) (by decide)
                refine lv_if_ne (tgt := 160) hx hb dX12_readFeels_150 (by decide) (fun c_1599 => ?_) (fun c_1599 => ?_)
                · have b_1600 := z_fneT c_1599
                  refine lv_iload hx hb dX12_readFeels_160 (lv_at hl 4 rfl) ?_
                  refine lv_aload_n hx hb dX12_readFeels_162 rfl (lv_at hl 0 rfl) ?_
                  refine va_get (D := G) (ci := 12) (v := .int v_1142) (C := RX12) (T := TX12) (N := 65) hx hb hts inT12 hown hK hP 5 rfl rfl 17 (by decide) (hts _ tw_1902) (fun _ h9 => h9) rfl dX12_readFeels_163 ?_
                  refine lv_iadd hx hb dX12_readFeels_166 ?_
                  refine lv_topi (fun x_1601 he_x_1601 => ?_)
                  have hq_x_1601 := z_addq he_x_1601 (rfl : v_1136.toInt = _) (rfl : v_1142.toInt = _) (by omega) (by omega)
                  refine lv_istore (lv' := [(4, .int x_1601), (0, .ref h0), (1, .int r_13), (2, .int x_41), (3, .int v_1135), (5, .int v_1137)]) hx hb dX12_readFeels_167 hl (by decide) rfl (fun ls hl => ?_)
                  refine lv_aload_n hx hb dX12_readFeels_169 rfl (lv_at hl 1 rfl) ?_
                  refine va_get (D := G) (ci := 12) (v := .int n_1590) (C := RX12) (T := TX12) (N := 65) hx hb hts inT12 hown hK hP 5 rfl rfl 12 (by decide) (hts _ tw_1897) (fun _ h9 => h9) rfl dX12_readFeels_170 ?_
                  refine lv_if_ne (tgt := 202) hx hb dX12_readFeels_173 (by decide) (fun c_1602 => ?_) (fun h9 => (z_no (by have h8 := z_feqF h9; omega)))
                  have b_1603 := z_fneT c_1602
                  refine lv_aload_n hx hb dX12_readFeels_202 rfl (lv_at hl 1 rfl) ?_
                  refine va_get (D := G) (ci := 12) (v := .int n_1590) (C := RX12) (T := TX12) (N := 65) hx hb hts inT12 hown hK hP 5 rfl rfl 12 (by decide) (hts _ tw_1897) (fun _ h9 => h9) rfl dX12_readFeels_203 ?_
                  refine lv_if_le (tgt := 210) hx hb dX12_readFeels_206 (by decide) (fun h9 => (z_no (by have h8 := z_fleT h9; omega))) (fun c_1604 => ?_)
                  have b_1605 := z_fgtF c_1604
                  have hpost : (0 ≤ n_1590.toInt ∧ n_1590.toInt ≤ 9) ∧ (0 ≤ v_1139.toInt ∧ v_1139.toInt ≤ 4) ∧ (0 ≤ v_1140.toInt ∧ v_1140.toInt ≤ 900) ∧ (0 ≤ v_1141.toInt ∧ v_1141.toInt ≤ 900) ∧ (0 ≤ v_1142.toInt ∧ v_1142.toInt ≤ 9999) ∧ (0 ≤ v_1143.toInt ∧ v_1143.toInt ≤ 900) ∧ (zRg 3 0 1 g_29) ∧ (zC g_1138) ∧ (zNw g_1138 g_isOn) ∧ (m_behind.toInt ≤ v_1141.toInt) ∧ (0 < m_bad.toInt → 0 < n_1590.toInt) ∧ (n_1590.toInt ≤ 0 → v_1139.toInt = 0 ∨ m_behind.toInt < v_1141.toInt) ∧ (n_1590.toInt ≤ 0 → v_1139.toInt = 3 → v_1142.toInt = 59 → zNf g_1138) := ⟨(z_rgw hr_n_1590 (by decide) (by decide)), hr_v_1139, hr_v_1140, hr_v_1141, hr_v_1142, hr_v_1143, hC_g_29, hC_g_1138, hs_1366, (by omega), (by omega), (by omega), (fun h1 h2 h3 => z_no (by omega))⟩
                  exact hret _ _ _ _ _ (n_1590, n_1591, v_1139, v_1140, v_1141, v_1142, v_1143, v_1144, g_29, g_1138) [5, 4, 2, 3, 0, 1] hP hD hS rfl (by decide) dX12_readFeels_209 hpost
                · have b_1606 := z_feqF c_1599
                  refine lv_aload_n hx hb dX12_readFeels_153 rfl (lv_at hl 0 rfl) ?_
                  refine va_get (D := G) (ci := 12) (v := .int v_1142) (C := RX12) (T := TX12) (N := 65) hx hb hts inT12 hown hK hP 5 rfl rfl 17 (by decide) (hts _ tw_1902) (fun _ h9 => h9) rfl dX12_readFeels_154 ?_
                  refine lv_goto (tgt := 167) hx hb dX12_readFeels_157 (by decide) ?_
                  refine lv_istore (lv' := [(4, .int v_1142), (0, .ref h0), (1, .int r_13), (2, .int x_41), (3, .int v_1135), (5, .int v_1137)]) hx hb dX12_readFeels_167 hl (by decide) rfl (fun ls hl => ?_)
                  refine lv_aload_n hx hb dX12_readFeels_169 rfl (lv_at hl 1 rfl) ?_
                  refine va_get (D := G) (ci := 12) (v := .int n_1590) (C := RX12) (T := TX12) (N := 65) hx hb hts inT12 hown hK hP 5 rfl rfl 12 (by decide) (hts _ tw_1897) (fun _ h9 => h9) rfl dX12_readFeels_170 ?_
                  refine lv_if_ne (tgt := 202) hx hb dX12_readFeels_173 (by decide) (fun c_1607 => ?_) (fun h9 => (z_no (by have h8 := z_feqF h9; omega)))
                  have b_1608 := z_fneT c_1607
                  refine lv_aload_n hx hb dX12_readFeels_202 rfl (lv_at hl 1 rfl) ?_
                  refine va_get (D := G) (ci := 12) (v := .int n_1590) (C := RX12) (T := TX12) (N := 65) hx hb hts inT12 hown hK hP 5 rfl rfl 12 (by decide) (hts _ tw_1897) (fun _ h9 => h9) rfl dX12_readFeels_203 ?_
                  refine lv_if_le (tgt := 210) hx hb dX12_readFeels_206 (by decide) (fun h9 => (z_no (by have h8 := z_fleT h9; omega))) (fun c_1609 => ?_)
                  have b_1610 := z_fgtF c_1609
                  have hpost : (0 ≤ n_1590.toInt ∧ n_1590.toInt ≤ 9) ∧ (0 ≤ v_1139.toInt ∧ v_1139.toInt ≤ 4) ∧ (0 ≤ v_1140.toInt ∧ v_1140.toInt ≤ 900) ∧ (0 ≤ v_1141.toInt ∧ v_1141.toInt ≤ 900) ∧ (0 ≤ v_1142.toInt ∧ v_1142.toInt ≤ 9999) ∧ (0 ≤ v_1143.toInt ∧ v_1143.toInt ≤ 900) ∧ (zRg 3 0 1 g_29) ∧ (zC g_1138) ∧ (zNw g_1138 g_isOn) ∧ (m_behind.toInt ≤ v_1141.toInt) ∧ (0 < m_bad.toInt → 0 < n_1590.toInt) ∧ (n_1590.toInt ≤ 0 → v_1139.toInt = 0 ∨ m_behind.toInt < v_1141.toInt) ∧ (n_1590.toInt ≤ 0 → v_1139.toInt = 3 → v_1142.toInt = 59 → zNf g_1138) := ⟨(z_rgw hr_n_1590 (by decide) (by decide)), hr_v_1139, hr_v_1140, hr_v_1141, hr_v_1142, hr_v_1143, hC_g_29, hC_g_1138, hs_1366, (by omega), (by omega), (by omega), (fun h1 h2 h3 => z_no (by omega))⟩
                  exact hret _ _ _ _ _ (n_1590, n_1591, v_1139, v_1140, v_1141, v_1142, v_1143, v_1144, g_29, g_1138) [5, 4, 2, 3, 0, 1] hP hD hS rfl (by decide) dX12_readFeels_209 hpost
        exact hlp_1373 _ 0 0 1 g_c n_30 n_31 n_32 n_33 n_34 n_35 _ _ _ (Nat.lt_succ_self _) (by decide +kernel) (by decide +kernel) (by decide +kernel) hC_g_c hr_n_30 hr_n_31 hr_n_32 hr_n_33 hr_n_34 hNW0 (zFl_0 (by omega)) (by omega) (by omega) (by omega) (by omega) (by omega) hP hD hS (lv_sub hl [5, 4, 3, 2, 1, 0] rfl)
      · skip
        refine lv_iconst (v := 0) hx hb dX12_readFeels_66 (by decide) ?_
        refine lv_istore_n (lv' := [(3, .int 0), (2, .int x_41), (1, .int r_13), (0, .ref h0)]) hx hb dX12_readFeels_67 rfl hl (by decide) rfl (fun ls hl => ?_)
        refine lv_iconst (v := 0) hx hb dX12_readFeels_68 (by decide) ?_
        refine lv_istore (lv' := [(4, .int 0), (3, .int 0), (2, .int x_41), (1, .int r_13), (0, .ref h0)]) hx hb dX12_readFeels_69 hl (by decide) rfl (fun ls hl => ?_)
        refine lv_iconst (v := 1) hx hb dX12_readFeels_71 (by decide) ?_
        refine lv_istore (lv' := [(5, .int 1), (4, .int 0), (3, .int 0), (2, .int x_41), (1, .int r_13), (0, .ref h0)]) hx hb dX12_readFeels_72 hl (by decide) rfl (fun ls hl => ?_)
        have hlp_2157 : ∀ (n : Nat) (v_1919 : Int32) (v_1920 : Int32) (v_1921 : Int32) (g_1922 : Nat → Int32) (v_1923 : Int32) (v_1924 : Int32) (v_1925 : Int32) (v_1926 : Int32) (v_1927 : Int32) (v_1928 : Int64) (H : Heap) (locs : List Loc) (ls : Array Slot), (900 - v_1925.toInt + v_1921.toInt).toNat < n → (0 ≤ v_1919.toInt ∧ v_1919.toInt ≤ 16) → (0 ≤ v_1920.toInt ∧ v_1920.toInt ≤ 256) → (0 ≤ v_1921.toInt ∧ v_1921.toInt ≤ 1) → (zC g_1922) → (0 ≤ v_1923.toInt ∧ v_1923.toInt ≤ 4) → (0 ≤ v_1924.toInt ∧ v_1924.toInt ≤ 900) → (0 ≤ v_1925.toInt ∧ v_1925.toInt ≤ 900) → (0 ≤ v_1926.toInt ∧ v_1926.toInt ≤ 9999) → (0 ≤ v_1927.toInt ∧ v_1927.toInt ≤ 900) → (zNw g_1922 g_isOn) → (zFl g_c g_1922 r_13.toInt x_41.toInt v_1919.toInt v_1920.toInt) → (v_1919.toInt ≤ 16) → (v_1920.toInt ≤ 16 * v_1919.toInt) → ((g_1922 1460).toInt = (g_c 1460).toInt) → (m_behind.toInt ≤ v_1925.toInt) → (n_11.toInt ≤ 0 → v_1923.toInt = 0 ∨ m_behind.toInt < v_1925.toInt) → va_P G vwCl [(a_hasFeels, .inl (cA.1 3, 3, .inl g_29)), (a_isOn, .inl (cA.1 3, 10, .inl g_isOn)), (a_c, .inl (cA.1 0, 1825, .inl g_1922)), (a_words, .inl (cA.1 1, 105, .inr (.inl g_words))), (h0, .inr (12, [.int m_status, .int m_thrown, .long m_above, .long m_under, .ref a_traySort, .ref a_trayMany, .ref a_numbers, .ref a_tape, .int m_taped, .int m_textEnd, .int m_faultKind, .int m_faultAt, .int n_11, .int n_12, .int v_1923, .int v_1924, .int v_1925, .int v_1926, .int v_1927, .long v_1928, .ref a_c, .ref a_words, .int m_markMany, .ref a_there, .ref a_tried, .ref a_best, .ref a_found, .int m_thereMany, .int m_foundMany, .int m_orderHow, .int m_orderRing, .int m_orderMany, .int m_hasBest, .long m_bestTop, .long m_bestBy, .ref a_weights, .ref a_shared, .int m_random, .int m_truePlace, .int m_trueWay, .int m_seconds, .int m_done, .int m_feelings, .int m_tries, .int m_leftOver, .int m_playDoor, .int m_playRing, .int m_isOpen, .int m_isOver, .int m_wasTried, .int m_hasPlayed, .ref a_feltNow, .ref a_last, .ref a_kept, .int m_hasSeconds, .int m_hasTurned, .int m_hasRound, .ref a_hasFeels, .ref a_isOn, .int m_firstAct, .long m_meanTop, .long m_meanBy, .ref a_order, .int m_rowMany, .int m_newSteps])), (a_tape, .inl (cA.1 2, 900, .inl g_tape))] H → va_D A [(a_hasFeels, .inl (cA.1 3, 3, .inl g_29)), (a_isOn, .inl (cA.1 3, 10, .inl g_isOn)), (a_c, .inl (cA.1 0, 1825, .inl g_1922)), (a_words, .inl (cA.1 1, 105, .inr (.inl g_words))), (h0, .inr (12, [.int m_status, .int m_thrown, .long m_above, .long m_under, .ref a_traySort, .ref a_trayMany, .ref a_numbers, .ref a_tape, .int m_taped, .int m_textEnd, .int m_faultKind, .int m_faultAt, .int n_11, .int n_12, .int v_1923, .int v_1924, .int v_1925, .int v_1926, .int v_1927, .long v_1928, .ref a_c, .ref a_words, .int m_markMany, .ref a_there, .ref a_tried, .ref a_best, .ref a_found, .int m_thereMany, .int m_foundMany, .int m_orderHow, .int m_orderRing, .int m_orderMany, .int m_hasBest, .long m_bestTop, .long m_bestBy, .ref a_weights, .ref a_shared, .int m_random, .int m_truePlace, .int m_trueWay, .int m_seconds, .int m_done, .int m_feelings, .int m_tries, .int m_leftOver, .int m_playDoor, .int m_playRing, .int m_isOpen, .int m_isOver, .int m_wasTried, .int m_hasPlayed, .ref a_feltNow, .ref a_last, .ref a_kept, .int m_hasSeconds, .int m_hasTurned, .int m_hasRound, .ref a_hasFeels, .ref a_isOn, .int m_firstAct, .long m_meanTop, .long m_meanBy, .ref a_order, .int m_rowMany, .int m_newSteps])), (a_tape, .inl (cA.1 2, 900, .inl g_tape))] → va_S A s.heap H locs → lv_has ls 6 [(0, .ref h0), (1, .int r_13), (2, .int x_41), (3, .int v_1919), (4, .int v_1920), (5, .int v_1921)] → W p l e ({ frames := 4, cells := 0, slots := 0, locals := 90 }) s m args below meth c H locs 0 0 Q (F0 m 74 ls []) := by
          intro n
          induction n with
          | zero =>
            intro v_1919 v_1920 v_1921 g_1922 v_1923 v_1924 v_1925 v_1926 v_1927 v_1928 H locs ls hmu_hlp_2157 hr_v_1919 hr_v_1920 hr_v_1921 hC_g_1922 hr_v_1923 hr_v_1924 hr_v_1925 hr_v_1926 hr_v_1927 hs_2150 hi_2151 hi_2152 hi_2153 hi_2154 hi_2155 hi_2156 hP hD hS hl
            exact absurd hmu_hlp_2157 (Nat.not_lt_zero _)
          | succ n ih_2158 =>
            intro v_1919 v_1920 v_1921 g_1922 v_1923 v_1924 v_1925 v_1926 v_1927 v_1928 H locs ls hmu_hlp_2157 hr_v_1919 hr_v_1920 hr_v_1921 hC_g_1922 hr_v_1923 hr_v_1924 hr_v_1925 hr_v_1926 hr_v_1927 hs_2150 hi_2151 hi_2152 hi_2153 hi_2154 hi_2155 hi_2156 hP hD hS hl
            refine lv_iload hx hb dX12_readFeels_74 (lv_at hl 5 rfl) ?_
            refine lv_if_eq (tgt := 262) hx hb dX12_readFeels_76 (by decide) (fun c_2159 => ?_) (fun c_2159 => ?_)
            · have b_2160 := z_feqT c_2159
              refine lv_aload_n hx hb dX12_readFeels_262 rfl (lv_at hl 0 rfl) ?_
              refine va_get (D := G) (ci := 12) (v := .int n_11) (C := RX12) (T := TX12) (N := 65) hx hb hts inT12 hown hK hP 4 rfl rfl 12 (by decide) (hts _ tw_1897) (fun _ h9 => h9) rfl dX12_readFeels_263 ?_
              refine lv_if_ne (tgt := 295) hx hb dX12_readFeels_266 (by decide) (fun h9 => (z_no (by have h8 := z_fneT h9; omega))) (fun c_2161 => ?_)
              have b_2162 := z_feqF c_2161
              refine lv_aload_n hx hb dX12_readFeels_269 rfl (lv_at hl 0 rfl) ?_
              refine lv_bipush (v := 59) hx hb dX12_readFeels_270 (by decide) ?_
              refine z_callVi (As := [.int 59]) (rest := []) (wr := [(a_hasFeels, .inl (cA.1 3, 3, .inl g_29)), (a_isOn, .inl (cA.1 3, 10, .inl g_isOn)), (a_c, .inl (cA.1 0, 1825, .inl g_1922)), (a_words, .inl (cA.1 1, 105, .inr (.inl g_words))), (a_tape, .inl (cA.1 2, 900, .inl g_tape))]) ⟨hx, hb, hml, hown, hts⟩ hK hE hT hP hD hS hA (r_isSign l G cA h0 m_status m_thrown m_above m_under a_traySort a_trayMany a_numbers a_tape m_taped m_textEnd m_faultKind m_faultAt n_11 n_12 v_1923 v_1924 v_1925 v_1926 v_1927 v_1928 a_c a_words m_markMany a_there a_tried a_best a_found m_thereMany m_foundMany m_orderHow m_orderRing m_orderMany m_hasBest m_bestTop m_bestBy a_weights a_shared m_random m_truePlace m_trueWay m_seconds m_done m_feelings m_tries m_leftOver m_playDoor m_playRing m_isOpen m_isOver m_wasTried m_hasPlayed a_feltNow a_last a_kept m_hasSeconds m_hasTurned m_hasRound a_hasFeels a_isOn m_firstAct m_meanTop m_meanBy a_order m_rowMany m_newSteps 59 hr_v_1923 hr_v_1926) lk_RX12_220 ⟨rfl, rfl⟩ ⟨Nat.le_of_ble_eq_true rfl, Nat.le_of_ble_eq_true rfl⟩ 12 rfl rfl rfl [4] [0, 1, 2, 3, 5] rfl rfl (by decide) rfl hl.1 rfl (lv_room (Nat.le_of_ble_eq_true rfl)) dX12_readFeels_272 ⟨Nat.le_of_ble_eq_true rfl, Nat.le_of_ble_eq_true rfl⟩ (fun r_2163 u_2164 H locs hw hP hD hS => ?_)
              rcases hw with ⟨rfl, hf_2165⟩ | ⟨rfl, hf_2166⟩
              · skip
                refine lv_if_eq (tgt := 295) hx hb dX12_readFeels_275 (by decide) (fun _ => ?_) (fun h9 => absurd (by decide +kernel) h9)
                have hpost : (0 ≤ n_11.toInt ∧ n_11.toInt ≤ 9) ∧ (0 ≤ v_1923.toInt ∧ v_1923.toInt ≤ 4) ∧ (0 ≤ v_1924.toInt ∧ v_1924.toInt ≤ 900) ∧ (0 ≤ v_1925.toInt ∧ v_1925.toInt ≤ 900) ∧ (0 ≤ v_1926.toInt ∧ v_1926.toInt ≤ 9999) ∧ (0 ≤ v_1927.toInt ∧ v_1927.toInt ≤ 900) ∧ (zRg 3 0 1 g_29) ∧ (zC g_1922) ∧ (zNw g_1922 g_isOn) ∧ (m_behind.toInt ≤ v_1925.toInt) ∧ (0 < m_bad.toInt → 0 < n_11.toInt) ∧ (n_11.toInt ≤ 0 → v_1923.toInt = 0 ∨ m_behind.toInt < v_1925.toInt) ∧ (n_11.toInt ≤ 0 → v_1923.toInt = 3 → v_1926.toInt = 59 → zNf g_1922) := ⟨hr_n_11, hr_v_1923, hr_v_1924, hr_v_1925, hr_v_1926, hr_v_1927, hC_g_29, hC_g_1922, hs_2150, (by omega), (by omega), (by omega), (fun h1 h2 h3 => (zFl_end hi_2151 hC_g_1922.1 hNF0 (by omega) (by omega) (by omega) (by rw [h_42]; omega)))⟩
                exact hret _ _ _ _ _ (n_11, n_12, v_1923, v_1924, v_1925, v_1926, v_1927, v_1928, g_29, g_1922) [5, 4, 2, 3, 0, 1] hP hD hS rfl (by decide) dX12_readFeels_295 hpost
              · skip
                refine lv_if_eq (tgt := 295) hx hb dX12_readFeels_275 (by decide) (fun h9 => absurd h9 (by decide +kernel)) (fun _ => ?_)
                refine lv_iload_n hx hb dX12_readFeels_278 rfl (lv_at hl 3 rfl) ?_
                refine lv_iload_n hx hb dX12_readFeels_279 rfl (lv_at hl 2 rfl) ?_
                refine lv_iload_n hx hb dX12_readFeels_280 rfl (lv_at hl 2 rfl) ?_
                refine lv_imul hx hb dX12_readFeels_281 ?_
                refine lv_topi (fun x_2167 he_x_2167 => ?_)
                have hq_x_2167 := z_mulq he_x_2167 (by omega : x_41.toInt = 4) (rfl : x_41.toInt = _) (by omega) (by omega)
                refine lv_icmp_ge (tgt := 295) hx hb dX12_readFeels_282 (by decide) (fun c_2168 => ?_) (fun c_2168 => ?_)
                · have b_2169 := z_fgeT c_2168
                  have hpost : (0 ≤ n_11.toInt ∧ n_11.toInt ≤ 9) ∧ (0 ≤ v_1923.toInt ∧ v_1923.toInt ≤ 4) ∧ (0 ≤ v_1924.toInt ∧ v_1924.toInt ≤ 900) ∧ (0 ≤ v_1925.toInt ∧ v_1925.toInt ≤ 900) ∧ (0 ≤ v_1926.toInt ∧ v_1926.toInt ≤ 9999) ∧ (0 ≤ v_1927.toInt ∧ v_1927.toInt ≤ 900) ∧ (zRg 3 0 1 g_29) ∧ (zC g_1922) ∧ (zNw g_1922 g_isOn) ∧ (m_behind.toInt ≤ v_1925.toInt) ∧ (0 < m_bad.toInt → 0 < n_11.toInt) ∧ (n_11.toInt ≤ 0 → v_1923.toInt = 0 ∨ m_behind.toInt < v_1925.toInt) ∧ (n_11.toInt ≤ 0 → v_1923.toInt = 3 → v_1926.toInt = 59 → zNf g_1922) := ⟨hr_n_11, hr_v_1923, hr_v_1924, hr_v_1925, hr_v_1926, hr_v_1927, hC_g_29, hC_g_1922, hs_2150, (by omega), (by omega), (by omega), (fun h1 h2 h3 => (zFl_end hi_2151 hC_g_1922.1 hNF0 (by omega) (by omega) (by omega) (by rw [h_42]; omega)))⟩
                  exact hret _ _ _ _ _ (n_11, n_12, v_1923, v_1924, v_1925, v_1926, v_1927, v_1928, g_29, g_1922) [5, 4, 2, 3, 0, 1] hP hD hS rfl (by decide) dX12_readFeels_295 hpost
                · have b_2170 := z_fltF c_2168
                  refine lv_aload_n hx hb dX12_readFeels_285 rfl (lv_at hl 0 rfl) ?_
                  refine lv_bipush (v := 8) hx hb dX12_readFeels_286 (by decide) ?_
                  refine lv_aload_n hx hb dX12_readFeels_288 rfl (lv_at hl 0 rfl) ?_
                  refine va_get (D := G) (ci := 12) (v := .int v_1924) (C := RX12) (T := TX12) (N := 65) hx hb hts inT12 hown hK hP 5 rfl rfl 15 (by decide) (hts _ tw_1900) (fun _ h9 => h9) rfl dX12_readFeels_289 ?_
                  refine z_callVv (As := [.int 8, .int v_1924]) (rest := []) (wr := [(a_hasFeels, .inl (cA.1 3, 3, .inl g_29)), (a_isOn, .inl (cA.1 3, 10, .inl g_isOn)), (a_c, .inl (cA.1 0, 1825, .inl g_1922)), (a_words, .inl (cA.1 1, 105, .inr (.inl g_words))), (a_tape, .inl (cA.1 2, 900, .inl g_tape))]) ⟨hx, hb, hml, hown, hts⟩ hK hE hT hP hD hS hA (r_fail l G cA h0 m_status m_thrown m_above m_under a_traySort a_trayMany a_numbers a_tape m_taped m_textEnd m_faultKind m_faultAt n_11 n_12 v_1923 v_1924 v_1925 v_1926 v_1927 v_1928 a_c a_words m_markMany a_there a_tried a_best a_found m_thereMany m_foundMany m_orderHow m_orderRing m_orderMany m_hasBest m_bestTop m_bestBy a_weights a_shared m_random m_truePlace m_trueWay m_seconds m_done m_feelings m_tries m_leftOver m_playDoor m_playRing m_isOpen m_isOver m_wasTried m_hasPlayed a_feltNow a_last a_kept m_hasSeconds m_hasTurned m_hasRound a_hasFeels a_isOn m_firstAct m_meanTop m_meanBy a_order m_rowMany m_newSteps 8 v_1924 (by decide +kernel) hr_n_11) lk_RX12_180 ⟨rfl, rfl⟩ ⟨Nat.le_of_ble_eq_true rfl, Nat.le_of_ble_eq_true rfl⟩ 12 rfl rfl rfl [5] [0, 1, 2, 3, 4] rfl rfl (by decide) rfl hl.1 rfl (lv_room (Nat.le_of_ble_eq_true rfl)) dX12_readFeels_292 ⟨Nat.le_of_ble_eq_true rfl, Nat.le_of_ble_eq_true rfl⟩ (fun u_2174 H locs hw hP hD hS => ?_)
                  obtain ⟨n_2171, n_2172⟩ := u_2174
                  try dsimp only at hw
                  obtain ⟨hr_n_2171, hf_2175⟩ := hw
                  have hpost : (0 ≤ n_2171.toInt ∧ n_2171.toInt ≤ 9) ∧ (0 ≤ v_1923.toInt ∧ v_1923.toInt ≤ 4) ∧ (0 ≤ v_1924.toInt ∧ v_1924.toInt ≤ 900) ∧ (0 ≤ v_1925.toInt ∧ v_1925.toInt ≤ 900) ∧ (0 ≤ v_1926.toInt ∧ v_1926.toInt ≤ 9999) ∧ (0 ≤ v_1927.toInt ∧ v_1927.toInt ≤ 900) ∧ (zRg 3 0 1 g_29) ∧ (zC g_1922) ∧ (zNw g_1922 g_isOn) ∧ (m_behind.toInt ≤ v_1925.toInt) ∧ (0 < m_bad.toInt → 0 < n_2171.toInt) ∧ (n_2171.toInt ≤ 0 → v_1923.toInt = 0 ∨ m_behind.toInt < v_1925.toInt) ∧ (n_2171.toInt ≤ 0 → v_1923.toInt = 3 → v_1926.toInt = 59 → zNf g_1922) := ⟨(z_rgw hr_n_2171 (by decide) (by decide)), hr_v_1923, hr_v_1924, hr_v_1925, hr_v_1926, hr_v_1927, hC_g_29, hC_g_1922, hs_2150, (by omega), (by omega), (by omega), (fun h1 h2 h3 => (zFl_end hi_2151 hC_g_1922.1 hNF0 (by omega) (by omega) (by omega) (by rw [h_42]; omega)))⟩
                  exact hret _ _ _ _ _ (n_2171, n_2172, v_1923, v_1924, v_1925, v_1926, v_1927, v_1928, g_29, g_1922) [5, 4, 2, 3, 0, 1] hP hD hS rfl (by decide) dX12_readFeels_295 hpost
            · have b_2176 := z_fneF c_2159
              refine lv_aload_n hx hb dX12_readFeels_79 rfl (lv_at hl 0 rfl) ?_
              refine va_get (D := G) (ci := 12) (v := .int n_11) (C := RX12) (T := TX12) (N := 65) hx hb hts inT12 hown hK hP 4 rfl rfl 12 (by decide) (hts _ tw_1897) (fun _ h9 => h9) rfl dX12_readFeels_80 ?_
              refine lv_if_ne (tgt := 262) hx hb dX12_readFeels_83 (by decide) (fun h9 => (z_no (by have h8 := z_fneT h9; omega))) (fun c_2177 => ?_)
              have b_2178 := z_feqF c_2177
              refine lv_aload_n hx hb dX12_readFeels_86 rfl (lv_at hl 0 rfl) ?_
              refine va_get (D := G) (ci := 12) (v := .int v_1923) (C := RX12) (T := TX12) (N := 65) hx hb hts inT12 hown hK hP 4 rfl rfl 14 (by decide) (hts _ tw_1899) (fun _ h9 => h9) rfl dX12_readFeels_87 ?_
              refine lv_iconst (v := 2) hx hb dX12_readFeels_90 (by decide) ?_
              refine lv_icmp_eq (tgt := 98) hx hb dX12_readFeels_91 (by decide) (fun c_2179 => ?_) (fun c_2179 => ?_)
              · have b_2180 := z_feqT c_2179
                refine lv_aload_n hx hb dX12_readFeels_98 rfl (lv_at hl 0 rfl) ?_
                refine va_get (D := G) (ci := 12) (v := .int n_11) (C := RX12) (T := TX12) (N := 65) hx hb hts inT12 hown hK hP 4 rfl rfl 12 (by decide) (hts _ tw_1897) (fun _ h9 => h9) rfl dX12_readFeels_99 ?_
                refine lv_if_ne (tgt := 123) hx hb dX12_readFeels_102 (by decide) (fun h9 => (z_no (by have h8 := z_fneT h9; omega))) (fun c_2181 => ?_)
                have b_2182 := z_feqF c_2181
                refine lv_aload_n hx hb dX12_readFeels_105 rfl (lv_at hl 0 rfl) ?_
                refine va_get (D := G) (ci := 12) (v := .int v_1926) (C := RX12) (T := TX12) (N := 65) hx hb hts inT12 hown hK hP 4 rfl rfl 17 (by decide) (hts _ tw_1902) (fun _ h9 => h9) rfl dX12_readFeels_106 ?_
                refine lv_bipush (v := 16) hx hb dX12_readFeels_109 (by decide) ?_
                refine lv_icmp_le (tgt := 123) hx hb dX12_readFeels_111 (by decide) (fun c_2183 => ?_) (fun c_2183 => ?_)
                · have b_2184 := z_fleT c_2183
                  refine lv_aload_n hx hb dX12_readFeels_123 rfl (lv_at hl 0 rfl) ?_
                  refine va_get (D := G) (ci := 12) (v := .int n_11) (C := RX12) (T := TX12) (N := 65) hx hb hts inT12 hown hK hP 4 rfl rfl 12 (by decide) (hts _ tw_1897) (fun _ h9 => h9) rfl dX12_readFeels_124 ?_
                  refine lv_if_ne (tgt := 147) hx hb dX12_readFeels_127 (by decide) (fun h9 => (z_no (by have h8 := z_fneT h9; omega))) (fun c_2185 => ?_)
                  have b_2186 := z_feqF c_2185
                  refine lv_iload_n hx hb dX12_readFeels_130 rfl (lv_at hl 3 rfl) ?_
                  refine lv_iload_n hx hb dX12_readFeels_131 rfl (lv_at hl 2 rfl) ?_
                  refine lv_iload_n hx hb dX12_readFeels_132 rfl (lv_at hl 2 rfl) ?_
                  refine lv_imul hx hb dX12_readFeels_133 ?_
                  refine lv_topi (fun x_2187 he_x_2187 => ?_)
                  have hq_x_2187 := z_mulq he_x_2187 (by omega : x_41.toInt = 4) (rfl : x_41.toInt = _) (by omega) (by omega)
                  refine lv_icmp_ne (tgt := 147) hx hb dX12_readFeels_134 (by decide) (fun c_2188 => ?_) (fun c_2188 => ?_)
                  · have b_2189 := z_fneT c_2188
                    refine lv_iload_n hx hb dX12_readFeels_147 rfl (lv_at hl 3 rfl) ?_
                    refine lv_iload_n hx hb dX12_readFeels_148 rfl (lv_at hl 2 rfl) ?_
                    refine lv_irem hx hb dX12_readFeels_149 (z_nz (by omega)) ?_
                    refine lv_topi (fun x_2190 he_x_2190 => ?_)
                    have hq_x_2190 := z_remq he_x_2190 (rfl : v_1919.toInt = _) (by omega : x_41.toInt = 4) (by omega) (by decide)
                    refine lv_if_ne (tgt := 160) hx hb dX12_readFeels_150 (by decide) (fun c_2191 => ?_) (fun c_2191 => ?_)
                    · have b_2192 := z_fneT c_2191
                      refine lv_iload hx hb dX12_readFeels_160 (lv_at hl 4 rfl) ?_
                      refine lv_aload_n hx hb dX12_readFeels_162 rfl (lv_at hl 0 rfl) ?_
                      refine va_get (D := G) (ci := 12) (v := .int v_1926) (C := RX12) (T := TX12) (N := 65) hx hb hts inT12 hown hK hP 4 rfl rfl 17 (by decide) (hts _ tw_1902) (fun _ h9 => h9) rfl dX12_readFeels_163 ?_
                      refine lv_iadd hx hb dX12_readFeels_166 ?_
                      refine lv_topi (fun x_2193 he_x_2193 => ?_)
                      have hq_x_2193 := z_addq he_x_2193 (rfl : v_1920.toInt = _) (rfl : v_1926.toInt = _) (by omega) (by omega)
                      refine lv_istore (lv' := [(4, .int x_2193), (0, .ref h0), (1, .int r_13), (2, .int x_41), (3, .int v_1919), (5, .int v_1921)]) hx hb dX12_readFeels_167 hl (by decide) rfl (fun ls hl => ?_)
                      refine lv_aload_n hx hb dX12_readFeels_169 rfl (lv_at hl 1 rfl) ?_
                      refine va_get (D := G) (ci := 12) (v := .int n_11) (C := RX12) (T := TX12) (N := 65) hx hb hts inT12 hown hK hP 4 rfl rfl 12 (by decide) (hts _ tw_1897) (fun _ h9 => h9) rfl dX12_readFeels_170 ?_
                      refine lv_if_ne (tgt := 202) hx hb dX12_readFeels_173 (by decide) (fun h9 => (z_no (by have h8 := z_fneT h9; omega))) (fun c_2194 => ?_)
                      have b_2195 := z_feqF c_2194
                      refine lv_iload_n hx hb dX12_readFeels_176 rfl (lv_at hl 4 rfl) ?_
                      refine lv_iload_n hx hb dX12_readFeels_177 rfl (lv_at hl 3 rfl) ?_
                      refine lv_irem hx hb dX12_readFeels_178 (z_nz (by omega)) ?_
                      refine lv_topi (fun x_2196 he_x_2196 => ?_)
                      have hq_x_2196 := z_remq he_x_2196 (rfl : v_1919.toInt = _) (by omega : x_41.toInt = 4) (by omega) (by decide)
                      refine lv_iload_n hx hb dX12_readFeels_179 rfl (lv_at hl 3 rfl) ?_
                      refine lv_iconst (v := 1) hx hb dX12_readFeels_180 (by decide) ?_
                      refine lv_isub hx hb dX12_readFeels_181 ?_
                      refine lv_topi (fun x_2197 he_x_2197 => ?_)
                      have hq_x_2197 := z_subq he_x_2197 (rfl : x_41.toInt = _) hk_1 (by omega) (by omega)
                      refine lv_icmp_ne (tgt := 202) hx hb dX12_readFeels_182 (by decide) (fun c_2198 => ?_) (fun c_2198 => ?_)
                      · have b_2199 := z_fneT c_2198
                        refine lv_aload_n hx hb dX12_readFeels_202 rfl (lv_at hl 1 rfl) ?_
                        refine va_get (D := G) (ci := 12) (v := .int n_11) (C := RX12) (T := TX12) (N := 65) hx hb hts inT12 hown hK hP 4 rfl rfl 12 (by decide) (hts _ tw_1897) (fun _ h9 => h9) rfl dX12_readFeels_203 ?_
                        refine lv_if_le (tgt := 210) hx hb dX12_readFeels_206 (by decide) (fun c_2200 => ?_) (fun h9 => (z_no (by have h8 := z_fgtF h9; omega)))
                        have b_2201 := z_fleT c_2200
                        have hn_k_2202 : 0 ≤ v_1919.toInt ∧ v_1919.toInt ≤ 15 := by omega
                        refine lv_aload_n hx hb dX12_readFeels_210 rfl (lv_at hl 1 rfl) ?_
                        refine va_get (D := G) (ci := 12) (v := .ref a_c) (C := RX12) (T := TX12) (N := 65) hx hb hts inT12 hown hK hP 4 rfl rfl 20 (by decide) (hts _ tw_1905) (fun _ h9 => h9) rfl dX12_readFeels_211 ?_
                        refine lv_sipush (v := 1477) hx hb dX12_readFeels_214 (by decide) ?_
                        refine lv_bipush (v := 16) hx hb dX12_readFeels_217 (by decide) ?_
                        refine lv_iload_n hx hb dX12_readFeels_219 rfl (lv_at hl 2 rfl) ?_
                        refine lv_imul hx hb dX12_readFeels_220 ?_
                        refine lv_topi (fun x_2203 he_x_2203 => ?_)
                        have hq_x_2203 := z_mulq he_x_2203 hk_16 (rfl : r_13.toInt = _) (by omega) (by omega)
                        refine lv_iadd hx hb dX12_readFeels_221 ?_
                        refine lv_topi (fun x_2204 he_x_2204 => ?_)
                        have hq_x_2204 := z_addq he_x_2204 hk_1477 (rfl : x_2203.toInt = _) (by omega) (by omega)
                        refine lv_iconst (v := 4) hx hb dX12_readFeels_222 (by decide) ?_
                        refine lv_iload_n hx hb dX12_readFeels_223 rfl (lv_at hl 4 rfl) ?_
                        refine lv_iload_n hx hb dX12_readFeels_224 rfl (lv_at hl 3 rfl) ?_
                        refine lv_idiv hx hb dX12_readFeels_225 (z_nz (by omega)) ?_
                        refine lv_topi (fun x_2205 he_x_2205 => ?_)
                        have hq_x_2205 := z_divq he_x_2205 (rfl : v_1919.toInt = _) (by omega : x_41.toInt = 4) (by omega) (by decide)
                        refine lv_imul hx hb dX12_readFeels_226 ?_
                        refine lv_topi (fun x_2206 he_x_2206 => ?_)
                        have hq_x_2206 := z_mulq he_x_2206 hk_4 (rfl : x_2205.toInt = _) (by omega) (by omega)
                        refine lv_iadd hx hb dX12_readFeels_227 ?_
                        refine lv_topi (fun x_2207 he_x_2207 => ?_)
                        have hq_x_2207 := z_addq he_x_2207 (rfl : x_2204.toInt = _) (rfl : x_2206.toInt = _) (by omega) (by omega)
                        refine lv_iload_n hx hb dX12_readFeels_228 rfl (lv_at hl 4 rfl) ?_
                        refine lv_iload_n hx hb dX12_readFeels_229 rfl (lv_at hl 3 rfl) ?_
                        refine lv_irem hx hb dX12_readFeels_230 (z_nz (by omega)) ?_
                        refine lv_topi (fun x_2208 he_x_2208 => ?_)
                        have hq_x_2208 := z_remq he_x_2208 (rfl : v_1919.toInt = _) (by omega : x_41.toInt = 4) (by omega) (by decide)
                        refine lv_iadd hx hb dX12_readFeels_231 ?_
                        refine lv_topi (fun x_2209 he_x_2209 => ?_)
                        have hq_x_2209 := z_addq he_x_2209 (rfl : x_2207.toInt = _) (rfl : x_2208.toInt = _) (by omega) (by omega)
                        refine lv_aload_n hx hb dX12_readFeels_232 rfl (lv_at hl 1 rfl) ?_
                        refine va_get (D := G) (ci := 12) (v := .int v_1926) (C := RX12) (T := TX12) (N := 65) hx hb hts inT12 hown hK hP 4 rfl rfl 17 (by decide) (hts _ tw_1902) (fun _ h9 => h9) rfl dX12_readFeels_233 ?_
                        refine z_iast hx hb hK hP hD hS 2 0 rfl rfl (z_inN (by omega) (by omega)) dX12_readFeels_236 (fun g_2210 hg_g_2210 H locs hP hD hS => ?_)
                        have hC_g_2210 := z_ctU hC_g_1922 hg_g_2210 (a := 1477) (b := 1524) (lo := 0) (hi := 16) (by decide +kernel) (by decide +kernel) (by omega) (by omega) (by omega)
                        have hw_g_2210_1460 := z_cwo hg_g_2210 (k := 1460) (by omega) (by omega)
                        have hs_2211 : zNw g_2210 g_isOn := (zNw_fr hs_2150 hg_g_2210 (a := 1477) (b := 1524) (by decide +kernel) (by omega) (by omega))
                        obtain ⟨x_2212, he_x_2212⟩ : ∃ z : Int32, z = v_1919 + 1 := ⟨_, rfl⟩
                        have hq_x_2212 := z_addq he_x_2212 (rfl : v_1919.toInt = _) hk_1 (by omega) (by omega)
                        refine lv_iinc (v := x_2212) (lv' := [(3, .int x_2212), (4, .int x_2193), (0, .ref h0), (1, .int r_13), (2, .int x_41), (5, .int v_1921)]) hx hb dX12_readFeels_237 hl (k := 4) rfl ((z_ofi (by decide +kernel)).trans he_x_2212.symm) (by decide) rfl (fun ls hl => ?_)
                        refine lv_aload_n hx hb dX12_readFeels_240 rfl (lv_at hl 2 rfl) ?_
                        refine z_callVv (As := []) (rest := []) (wr := [(a_hasFeels, .inl (cA.1 3, 3, .inl g_29)), (a_isOn, .inl (cA.1 3, 10, .inl g_isOn)), (a_c, .inl (cA.1 0, 1825, .inl g_2210)), (a_words, .inl (cA.1 1, 105, .inr (.inl g_words)))]) ⟨hx, hb, hml, hown, hts⟩ hK hE hT hP hD hS hA (r_next2 l G cA h0 m_status m_thrown m_above m_under a_traySort a_trayMany a_numbers a_tape m_taped m_textEnd m_faultKind m_faultAt n_11 n_12 v_1923 v_1924 v_1925 v_1926 v_1927 v_1928 a_c a_words m_markMany a_there a_tried a_best a_found m_thereMany m_foundMany m_orderHow m_orderRing m_orderMany m_hasBest m_bestTop m_bestBy a_weights a_shared m_random m_truePlace m_trueWay m_seconds m_done m_feelings m_tries m_leftOver m_playDoor m_playRing m_isOpen m_isOver m_wasTried m_hasPlayed a_feltNow a_last a_kept m_hasSeconds m_hasTurned m_hasRound a_hasFeels a_isOn m_firstAct m_meanTop m_meanBy a_order m_rowMany m_newSteps g_tape hr_m_textEnd hr_v_1924 hr_v_1925 hr_v_1923 hr_v_1926 hr_v_1927) lk_RX12_184 ⟨rfl, rfl⟩ ⟨Nat.le_of_ble_eq_true rfl, Nat.le_of_ble_eq_true rfl⟩ 12 rfl rfl rfl [4, 5] [0, 1, 2, 3] rfl rfl (by decide) rfl hl.1 rfl (lv_room (Nat.le_of_ble_eq_true rfl)) dX12_readFeels_241 ⟨Nat.le_of_ble_eq_true rfl, Nat.le_of_ble_eq_true rfl⟩ (fun u_2220 H locs hw hP hD hS => ?_)
                        obtain ⟨n_2213, n_2214, n_2215, n_2216, n_2217, n_2218⟩ := u_2220
                        try dsimp only at hw
                        obtain ⟨hr_n_2213, hr_n_2214, hr_n_2215, hr_n_2216, hr_n_2217, hf_2221, hf_2222⟩ := hw
                        refine lv_aload_n hx hb dX12_readFeels_244 rfl (lv_at hl 2 rfl) ?_
                        refine va_get (D := G) (ci := 12) (v := .int n_2213) (C := RX12) (T := TX12) (N := 65) hx hb hts inT12 hown hK hP 4 rfl rfl 14 (by decide) (hts _ tw_1899) (fun _ h9 => h9) rfl dX12_readFeels_245 ?_
                        refine lv_iconst (v := 2) hx hb dX12_readFeels_248 (by decide) ?_
                        refine lv_icmp_ne (tgt := 256) hx hb dX12_readFeels_249 (by decide) (fun c_2223 => ?_) (fun c_2223 => ?_)
                        · have b_2224 := z_fneT c_2223
                          refine lv_iconst (v := 0) hx hb dX12_readFeels_256 (by decide) ?_
                          refine lv_istore (lv' := [(5, .int 0), (3, .int x_2212), (4, .int x_2193), (0, .ref h0), (1, .int r_13), (2, .int x_41)]) hx hb dX12_readFeels_257 hl (by decide) rfl (fun ls hl => ?_)
                          refine lv_goto (tgt := 74) hx hb dX12_readFeels_259 (by decide) ?_
                          exact ih_2158 x_2212 x_2193 0 g_2210 n_2213 n_2214 n_2215 n_2216 n_2217 n_2218 H locs ls (by omega) (by omega) (by omega) (by decide +kernel) hC_g_2210 hr_n_2213 hr_n_2214 hr_n_2215 hr_n_2216 hr_n_2217 hs_2211 (by rw [hq_x_2212]; exact zFl_step hi_2151 hg_g_2210 (by omega) (by omega) (by omega) (r := x_2205.toInt) (c := x_2208.toInt) (by rw [h_42]; omega) (by omega) (by omega) (by omega) (by omega) (by omega) (by omega) (by omega)) (by omega) (by omega) (by omega) (by omega) (by omega) hP hD hS (lv_sub hl [3, 4, 5, 1, 2, 0] rfl)
                        · have b_2225 := z_feqF c_2223
                          refine lv_iconst (v := 1) hx hb dX12_readFeels_252 (by decide) ?_
                          refine lv_goto (tgt := 257) hx hb dX12_readFeels_253 (by decide) ?_
                          refine lv_istore (lv' := [(5, .int 1), (3, .int x_2212), (4, .int x_2193), (0, .ref h0), (1, .int r_13), (2, .int x_41)]) hx hb dX12_readFeels_257 hl (by decide) rfl (fun ls hl => ?_)
                          refine lv_goto (tgt := 74) hx hb dX12_readFeels_259 (by decide) ?_
                          exact ih_2158 x_2212 x_2193 1 g_2210 n_2213 n_2214 n_2215 n_2216 n_2217 n_2218 H locs ls (by omega) (by omega) (by omega) (by decide +kernel) hC_g_2210 hr_n_2213 hr_n_2214 hr_n_2215 hr_n_2216 hr_n_2217 hs_2211 (by rw [hq_x_2212]; exact zFl_step hi_2151 hg_g_2210 (by omega) (by omega) (by omega) (r := x_2205.toInt) (c := x_2208.toInt) (by rw [h_42]; omega) (by omega) (by omega) (by omega) (by omega) (by omega) (by omega) (by omega)) (by omega) (by omega) (by omega) (by omega) (by omega) hP hD hS (lv_sub hl [3, 4, 5, 1, 2, 0] rfl)
                      · have b_2226 := z_feqF c_2198
                        refine lv_iload hx hb dX12_readFeels_185 (lv_at hl 0 rfl) ?_
                        refine lv_bipush (v := 16) hx hb dX12_readFeels_187 (by decide) ?_
                        refine lv_icmp_eq (tgt := 202) hx hb dX12_readFeels_189 (by decide) (fun c_2227 => ?_) (fun c_2227 => ?_)
                        · have b_2228 := z_feqT c_2227
                          refine lv_aload_n hx hb dX12_readFeels_202 rfl (lv_at hl 1 rfl) ?_
                          refine va_get (D := G) (ci := 12) (v := .int n_11) (C := RX12) (T := TX12) (N := 65) hx hb hts inT12 hown hK hP 4 rfl rfl 12 (by decide) (hts _ tw_1897) (fun _ h9 => h9) rfl dX12_readFeels_203 ?_
                          refine lv_if_le (tgt := 210) hx hb dX12_readFeels_206 (by decide) (fun c_2229 => ?_) (fun h9 => (z_no (by have h8 := z_fgtF h9; omega)))
                          have b_2230 := z_fleT c_2229
                          have hn_k_2231 : 0 ≤ v_1919.toInt ∧ v_1919.toInt ≤ 15 := by omega
                          refine lv_aload_n hx hb dX12_readFeels_210 rfl (lv_at hl 1 rfl) ?_
                          refine va_get (D := G) (ci := 12) (v := .ref a_c) (C := RX12) (T := TX12) (N := 65) hx hb hts inT12 hown hK hP 4 rfl rfl 20 (by decide) (hts _ tw_1905) (fun _ h9 => h9) rfl dX12_readFeels_211 ?_
                          refine lv_sipush (v := 1477) hx hb dX12_readFeels_214 (by decide) ?_
                          refine lv_bipush (v := 16) hx hb dX12_readFeels_217 (by decide) ?_
                          refine lv_iload_n hx hb dX12_readFeels_219 rfl (lv_at hl 2 rfl) ?_
                          refine lv_imul hx hb dX12_readFeels_220 ?_
                          refine lv_topi (fun x_2232 he_x_2232 => ?_)
                          have hq_x_2232 := z_mulq he_x_2232 hk_16 (rfl : r_13.toInt = _) (by omega) (by omega)
                          refine lv_iadd hx hb dX12_readFeels_221 ?_
                          refine lv_topi (fun x_2233 he_x_2233 => ?_)
                          have hq_x_2233 := z_addq he_x_2233 hk_1477 (rfl : x_2232.toInt = _) (by omega) (by omega)
                          refine lv_iconst (v := 4) hx hb dX12_readFeels_222 (by decide) ?_
                          refine lv_iload_n hx hb dX12_readFeels_223 rfl (lv_at hl 4 rfl) ?_
                          refine lv_iload_n hx hb dX12_readFeels_224 rfl (lv_at hl 3 rfl) ?_
                          refine lv_idiv hx hb dX12_readFeels_225 (z_nz (by omega)) ?_
                          refine lv_topi (fun x_2234 he_x_2234 => ?_)
                          have hq_x_2234 := z_divq he_x_2234 (rfl : v_1919.toInt = _) (by omega : x_41.toInt = 4) (by omega) (by decide)
                          refine lv_imul hx hb dX12_readFeels_226 ?_
                          refine lv_topi (fun x_2235 he_x_2235 => ?_)
                          have hq_x_2235 := z_mulq he_x_2235 hk_4 (rfl : x_2234.toInt = _) (by omega) (by omega)
                          refine lv_iadd hx hb dX12_readFeels_227 ?_
                          refine lv_topi (fun x_2236 he_x_2236 => ?_)
                          have hq_x_2236 := z_addq he_x_2236 (rfl : x_2233.toInt = _) (rfl : x_2235.toInt = _) (by omega) (by omega)
                          refine lv_iload_n hx hb dX12_readFeels_228 rfl (lv_at hl 4 rfl) ?_
                          refine lv_iload_n hx hb dX12_readFeels_229 rfl (lv_at hl 3 rfl) ?_
                          refine lv_irem hx hb dX12_readFeels_230 (z_nz (by omega)) ?_
                          refine lv_topi (fun x_2237 he_x_2237 => ?_)
                          have hq_x_2237 := z_remq he_x_2237 (rfl : v_1919.toInt = _) (by omega : x_41.toInt = 4) (by omega) (by decide)
                          refine lv_iadd hx hb dX12_readFeels_231 ?_
                          refine lv_topi (fun x_2238 he_x_2238 => ?_)
                          have hq_x_2238 := z_addq he_x_2238 (rfl : x_2236.toInt = _) (rfl : x_2237.toInt = _) (by omega) (by omega)
                          refine lv_aload_n hx hb dX12_readFeels_232 rfl (lv_at hl 1 rfl) ?_
                          refine va_get (D := G) (ci := 12) (v := .int v_1926) (C := RX12) (T := TX12) (N := 65) hx hb hts inT12 hown hK hP 4 rfl rfl 17 (by decide) (hts _ tw_1902) (fun _ h9 => h9) rfl dX12_readFeels_233 ?_
                          refine z_iast hx hb hK hP hD hS 2 0 rfl rfl (z_inN (by omega) (by omega)) dX12_readFeels_236 (fun g_2239 hg_g_2239 H locs hP hD hS => ?_)
                          have hC_g_2239 := z_ctU hC_g_1922 hg_g_2239 (a := 1477) (b := 1524) (lo := 0) (hi := 16) (by decide +kernel) (by decide +kernel) (by omega) (by omega) (by omega)
                          have hw_g_2239_1460 := z_cwo hg_g_2239 (k := 1460) (by omega) (by omega)
                          have hs_2240 : zNw g_2239 g_isOn := (zNw_fr hs_2150 hg_g_2239 (a := 1477) (b := 1524) (by decide +kernel) (by omega) (by omega))
                          obtain ⟨x_2241, he_x_2241⟩ : ∃ z : Int32, z = v_1919 + 1 := ⟨_, rfl⟩
                          have hq_x_2241 := z_addq he_x_2241 (rfl : v_1919.toInt = _) hk_1 (by omega) (by omega)
                          refine lv_iinc (v := x_2241) (lv' := [(3, .int x_2241), (4, .int x_2193), (0, .ref h0), (1, .int r_13), (2, .int x_41), (5, .int v_1921)]) hx hb dX12_readFeels_237 hl (k := 4) rfl ((z_ofi (by decide +kernel)).trans he_x_2241.symm) (by decide) rfl (fun ls hl => ?_)
                          refine lv_aload_n hx hb dX12_readFeels_240 rfl (lv_at hl 2 rfl) ?_
                          refine z_callVv (As := []) (rest := []) (wr := [(a_hasFeels, .inl (cA.1 3, 3, .inl g_29)), (a_isOn, .inl (cA.1 3, 10, .inl g_isOn)), (a_c, .inl (cA.1 0, 1825, .inl g_2239)), (a_words, .inl (cA.1 1, 105, .inr (.inl g_words)))]) ⟨hx, hb, hml, hown, hts⟩ hK hE hT hP hD hS hA (r_next2 l G cA h0 m_status m_thrown m_above m_under a_traySort a_trayMany a_numbers a_tape m_taped m_textEnd m_faultKind m_faultAt n_11 n_12 v_1923 v_1924 v_1925 v_1926 v_1927 v_1928 a_c a_words m_markMany a_there a_tried a_best a_found m_thereMany m_foundMany m_orderHow m_orderRing m_orderMany m_hasBest m_bestTop m_bestBy a_weights a_shared m_random m_truePlace m_trueWay m_seconds m_done m_feelings m_tries m_leftOver m_playDoor m_playRing m_isOpen m_isOver m_wasTried m_hasPlayed a_feltNow a_last a_kept m_hasSeconds m_hasTurned m_hasRound a_hasFeels a_isOn m_firstAct m_meanTop m_meanBy a_order m_rowMany m_newSteps g_tape hr_m_textEnd hr_v_1924 hr_v_1925 hr_v_1923 hr_v_1926 hr_v_1927) lk_RX12_184 ⟨rfl, rfl⟩ ⟨Nat.le_of_ble_eq_true rfl, Nat.le_of_ble_eq_true rfl⟩ 12 rfl rfl rfl [4, 5] [0, 1, 2, 3] rfl rfl (by decide) rfl hl.1 rfl (lv_room (Nat.le_of_ble_eq_true rfl)) dX12_readFeels_241 ⟨Nat.le_of_ble_eq_true rfl, Nat.le_of_ble_eq_true rfl⟩ (fun u_2249 H locs hw hP hD hS => ?_)
                          obtain ⟨n_2242, n_2243, n_2244, n_2245, n_2246, n_2247⟩ := u_2249
                          try dsimp only at hw
                          obtain ⟨hr_n_2242, hr_n_2243, hr_n_2244, hr_n_2245, hr_n_2246, hf_2250, hf_2251⟩ := hw
                          refine lv_aload_n hx hb dX12_readFeels_244 rfl (lv_at hl 2 rfl) ?_
                          refine va_get (D := G) (ci := 12) (v := .int n_2242) (C := RX12) (T := TX12) (N := 65) hx hb hts inT12 hown hK hP 4 rfl rfl 14 (by decide) (hts _ tw_1899) (fun _ h9 => h9) rfl dX12_readFeels_245 ?_
                          refine lv_iconst (v := 2) hx hb dX12_readFeels_248 (by decide) ?_
                          refine lv_icmp_ne (tgt := 256) hx hb dX12_readFeels_249 (by decide) (fun c_2252 => ?_) (fun c_2252 => ?_)
                          · have b_2253 := z_fneT c_2252
                            refine lv_iconst (v := 0) hx hb dX12_readFeels_256 (by decide) ?_
                            refine lv_istore (lv' := [(5, .int 0), (3, .int x_2241), (4, .int x_2193), (0, .ref h0), (1, .int r_13), (2, .int x_41)]) hx hb dX12_readFeels_257 hl (by decide) rfl (fun ls hl => ?_)
                            refine lv_goto (tgt := 74) hx hb dX12_readFeels_259 (by decide) ?_
                            exact ih_2158 x_2241 x_2193 0 g_2239 n_2242 n_2243 n_2244 n_2245 n_2246 n_2247 H locs ls (by omega) (by omega) (by omega) (by decide +kernel) hC_g_2239 hr_n_2242 hr_n_2243 hr_n_2244 hr_n_2245 hr_n_2246 hs_2240 (by rw [hq_x_2241]; exact zFl_step hi_2151 hg_g_2239 (by omega) (by omega) (by omega) (r := x_2234.toInt) (c := x_2237.toInt) (by rw [h_42]; omega) (by omega) (by omega) (by omega) (by omega) (by omega) (by omega) (by omega)) (by omega) (by omega) (by omega) (by omega) (by omega) hP hD hS (lv_sub hl [3, 4, 5, 1, 2, 0] rfl)
                          · have b_2254 := z_feqF c_2252
                            refine lv_iconst (v := 1) hx hb dX12_readFeels_252 (by decide) ?_
                            refine lv_goto (tgt := 257) hx hb dX12_readFeels_253 (by decide) ?_
                            refine lv_istore (lv' := [(5, .int 1), (3, .int x_2241), (4, .int x_2193), (0, .ref h0), (1, .int r_13), (2, .int x_41)]) hx hb dX12_readFeels_257 hl (by decide) rfl (fun ls hl => ?_)
                            refine lv_goto (tgt := 74) hx hb dX12_readFeels_259 (by decide) ?_
                            exact ih_2158 x_2241 x_2193 1 g_2239 n_2242 n_2243 n_2244 n_2245 n_2246 n_2247 H locs ls (by omega) (by omega) (by omega) (by decide +kernel) hC_g_2239 hr_n_2242 hr_n_2243 hr_n_2244 hr_n_2245 hr_n_2246 hs_2240 (by rw [hq_x_2241]; exact zFl_step hi_2151 hg_g_2239 (by omega) (by omega) (by omega) (r := x_2234.toInt) (c := x_2237.toInt) (by rw [h_42]; omega) (by omega) (by omega) (by omega) (by omega) (by omega) (by omega) (by omega)) (by omega) (by omega) (by omega) (by omega) (by omega) hP hD hS (lv_sub hl [3, 4, 5, 1, 2, 0] rfl)
                        · have b_2255 := z_fneF c_2227
                          refine lv_aload_n hx hb dX12_readFeels_192 rfl (lv_at hl 1 rfl) ?_
                          refine lv_bipush (v := 9) hx hb dX12_readFeels_193 (by decide) ?_
                          refine lv_aload_n hx hb dX12_readFeels_195 rfl (lv_at hl 1 rfl) ?_
                          refine va_get (D := G) (ci := 12) (v := .int v_1924) (C := RX12) (T := TX12) (N := 65) hx hb hts inT12 hown hK hP 4 rfl rfl 15 (by decide) (hts _ tw_1900) (fun _ h9 => h9) rfl dX12_readFeels_196 ?_
                          refine z_callVv (As := [.int 9, .int v_1924]) (rest := []) (wr := [(a_hasFeels, .inl (cA.1 3, 3, .inl g_29)), (a_isOn, .inl (cA.1 3, 10, .inl g_isOn)), (a_c, .inl (cA.1 0, 1825, .inl g_1922)), (a_words, .inl (cA.1 1, 105, .inr (.inl g_words))), (a_tape, .inl (cA.1 2, 900, .inl g_tape))]) ⟨hx, hb, hml, hown, hts⟩ hK hE hT hP hD hS hA (r_fail l G cA h0 m_status m_thrown m_above m_under a_traySort a_trayMany a_numbers a_tape m_taped m_textEnd m_faultKind m_faultAt n_11 n_12 v_1923 v_1924 v_1925 v_1926 v_1927 v_1928 a_c a_words m_markMany a_there a_tried a_best a_found m_thereMany m_foundMany m_orderHow m_orderRing m_orderMany m_hasBest m_bestTop m_bestBy a_weights a_shared m_random m_truePlace m_trueWay m_seconds m_done m_feelings m_tries m_leftOver m_playDoor m_playRing m_isOpen m_isOver m_wasTried m_hasPlayed a_feltNow a_last a_kept m_hasSeconds m_hasTurned m_hasRound a_hasFeels a_isOn m_firstAct m_meanTop m_meanBy a_order m_rowMany m_newSteps 9 v_1924 (by decide +kernel) hr_n_11) lk_RX12_180 ⟨rfl, rfl⟩ ⟨Nat.le_of_ble_eq_true rfl, Nat.le_of_ble_eq_true rfl⟩ 12 rfl rfl rfl [4] [0, 1, 2, 3, 5] rfl rfl (by decide) rfl hl.1 rfl (lv_room (Nat.le_of_ble_eq_true rfl)) dX12_readFeels_199 ⟨Nat.le_of_ble_eq_true rfl, Nat.le_of_ble_eq_true rfl⟩ (fun u_2259 H locs hw hP hD hS => ?_)
                          obtain ⟨n_2256, n_2257⟩ := u_2259
                          try dsimp only at hw
                          obtain ⟨hr_n_2256, hf_2260⟩ := hw
                          refine lv_aload_n hx hb dX12_readFeels_202 rfl (lv_at hl 1 rfl) ?_
                          refine va_get (D := G) (ci := 12) (v := .int n_2256) (C := RX12) (T := TX12) (N := 65) hx hb hts inT12 hown hK hP 5 rfl rfl 12 (by decide) (hts _ tw_1897) (fun _ h9 => h9) rfl dX12_readFeels_203 ?_
                          refine lv_if_le (tgt := 210) hx hb dX12_readFeels_206 (by decide) (fun h9 => (z_no (by have h8 := z_fleT h9; omega))) (fun c_2261 => ?_)
                          have b_2262 := z_fgtF c_2261
                          have hpost : (0 ≤ n_2256.toInt ∧ n_2256.toInt ≤ 9) ∧ (0 ≤ v_1923.toInt ∧ v_1923.toInt ≤ 4) ∧ (0 ≤ v_1924.toInt ∧ v_1924.toInt ≤ 900) ∧ (0 ≤ v_1925.toInt ∧ v_1925.toInt ≤ 900) ∧ (0 ≤ v_1926.toInt ∧ v_1926.toInt ≤ 9999) ∧ (0 ≤ v_1927.toInt ∧ v_1927.toInt ≤ 900) ∧ (zRg 3 0 1 g_29) ∧ (zC g_1922) ∧ (zNw g_1922 g_isOn) ∧ (m_behind.toInt ≤ v_1925.toInt) ∧ (0 < m_bad.toInt → 0 < n_2256.toInt) ∧ (n_2256.toInt ≤ 0 → v_1923.toInt = 0 ∨ m_behind.toInt < v_1925.toInt) ∧ (n_2256.toInt ≤ 0 → v_1923.toInt = 3 → v_1926.toInt = 59 → zNf g_1922) := ⟨(z_rgw hr_n_2256 (by decide) (by decide)), hr_v_1923, hr_v_1924, hr_v_1925, hr_v_1926, hr_v_1927, hC_g_29, hC_g_1922, hs_2150, (by omega), (by omega), (by omega), (fun h1 h2 h3 => z_no (by omega))⟩
                          exact hret _ _ _ _ _ (n_2256, n_2257, v_1923, v_1924, v_1925, v_1926, v_1927, v_1928, g_29, g_1922) [5, 4, 2, 3, 0, 1] hP hD hS rfl (by decide) dX12_readFeels_209 hpost
                    · have b_2263 := z_feqF c_2191
                      refine lv_aload_n hx hb dX12_readFeels_153 rfl (lv_at hl 0 rfl) ?_
                      refine va_get (D := G) (ci := 12) (v := .int v_1926) (C := RX12) (T := TX12) (N := 65) hx hb hts inT12 hown hK hP 4 rfl rfl 17 (by decide) (hts _ tw_1902) (fun _ h9 => h9) rfl dX12_readFeels_154 ?_
                      refine lv_goto (tgt := 167) hx hb dX12_readFeels_157 (by decide) ?_
                      refine lv_istore (lv' := [(4, .int v_1926), (0, .ref h0), (1, .int r_13), (2, .int x_41), (3, .int v_1919), (5, .int v_1921)]) hx hb dX12_readFeels_167 hl (by decide) rfl (fun ls hl => ?_)
                      refine lv_aload_n hx hb dX12_readFeels_169 rfl (lv_at hl 1 rfl) ?_
                      refine va_get (D := G) (ci := 12) (v := .int n_11) (C := RX12) (T := TX12) (N := 65) hx hb hts inT12 hown hK hP 4 rfl rfl 12 (by decide) (hts _ tw_1897) (fun _ h9 => h9) rfl dX12_readFeels_170 ?_
                      refine lv_if_ne (tgt := 202) hx hb dX12_readFeels_173 (by decide) (fun h9 => (z_no (by have h8 := z_fneT h9; omega))) (fun c_2264 => ?_)
                      have b_2265 := z_feqF c_2264
                      refine lv_iload_n hx hb dX12_readFeels_176 rfl (lv_at hl 4 rfl) ?_
                      refine lv_iload_n hx hb dX12_readFeels_177 rfl (lv_at hl 3 rfl) ?_
                      refine lv_irem hx hb dX12_readFeels_178 (z_nz (by omega)) ?_
                      refine lv_topi (fun x_2266 he_x_2266 => ?_)
                      have hq_x_2266 := z_remq he_x_2266 (rfl : v_1919.toInt = _) (by omega : x_41.toInt = 4) (by omega) (by decide)
                      refine lv_iload_n hx hb dX12_readFeels_179 rfl (lv_at hl 3 rfl) ?_
                      refine lv_iconst (v := 1) hx hb dX12_readFeels_180 (by decide) ?_
                      refine lv_isub hx hb dX12_readFeels_181 ?_
                      refine lv_topi (fun x_2267 he_x_2267 => ?_)
                      have hq_x_2267 := z_subq he_x_2267 (rfl : x_41.toInt = _) hk_1 (by omega) (by omega)
                      refine lv_icmp_ne (tgt := 202) hx hb dX12_readFeels_182 (by decide) (fun c_2268 => ?_) (fun c_2268 => ?_)
                      · have b_2269 := z_fneT c_2268
                        refine lv_aload_n hx hb dX12_readFeels_202 rfl (lv_at hl 1 rfl) ?_
                        refine va_get (D := G) (ci := 12) (v := .int n_11) (C := RX12) (T := TX12) (N := 65) hx hb hts inT12 hown hK hP 4 rfl rfl 12 (by decide) (hts _ tw_1897) (fun _ h9 => h9) rfl dX12_readFeels_203 ?_
                        refine lv_if_le (tgt := 210) hx hb dX12_readFeels_206 (by decide) (fun c_2270 => ?_) (fun h9 => (z_no (by have h8 := z_fgtF h9; omega)))
                        have b_2271 := z_fleT c_2270
                        have hn_k_2272 : 0 ≤ v_1919.toInt ∧ v_1919.toInt ≤ 15 := by omega
                        refine lv_aload_n hx hb dX12_readFeels_210 rfl (lv_at hl 1 rfl) ?_
                        refine va_get (D := G) (ci := 12) (v := .ref a_c) (C := RX12) (T := TX12) (N := 65) hx hb hts inT12 hown hK hP 4 rfl rfl 20 (by decide) (hts _ tw_1905) (fun _ h9 => h9) rfl dX12_readFeels_211 ?_
                        refine lv_sipush (v := 1477) hx hb dX12_readFeels_214 (by decide) ?_
                        refine lv_bipush (v := 16) hx hb dX12_readFeels_217 (by decide) ?_
                        refine lv_iload_n hx hb dX12_readFeels_219 rfl (lv_at hl 2 rfl) ?_
                        refine lv_imul hx hb dX12_readFeels_220 ?_
                        refine lv_topi (fun x_2273 he_x_2273 => ?_)
                        have hq_x_2273 := z_mulq he_x_2273 hk_16 (rfl : r_13.toInt = _) (by omega) (by omega)
                        refine lv_iadd hx hb dX12_readFeels_221 ?_
                        refine lv_topi (fun x_2274 he_x_2274 => ?_)
                        have hq_x_2274 := z_addq he_x_2274 hk_1477 (rfl : x_2273.toInt = _) (by omega) (by omega)
                        refine lv_iconst (v := 4) hx hb dX12_readFeels_222 (by decide) ?_
                        refine lv_iload_n hx hb dX12_readFeels_223 rfl (lv_at hl 4 rfl) ?_
                        refine lv_iload_n hx hb dX12_readFeels_224 rfl (lv_at hl 3 rfl) ?_
                        refine lv_idiv hx hb dX12_readFeels_225 (z_nz (by omega)) ?_
                        refine lv_topi (fun x_2275 he_x_2275 => ?_)
                        have hq_x_2275 := z_divq he_x_2275 (rfl : v_1919.toInt = _) (by omega : x_41.toInt = 4) (by omega) (by decide)
                        refine lv_imul hx hb dX12_readFeels_226 ?_
                        refine lv_topi (fun x_2276 he_x_2276 => ?_)
                        have hq_x_2276 := z_mulq he_x_2276 hk_4 (rfl : x_2275.toInt = _) (by omega) (by omega)
                        refine lv_iadd hx hb dX12_readFeels_227 ?_
                        refine lv_topi (fun x_2277 he_x_2277 => ?_)
                        have hq_x_2277 := z_addq he_x_2277 (rfl : x_2274.toInt = _) (rfl : x_2276.toInt = _) (by omega) (by omega)
                        refine lv_iload_n hx hb dX12_readFeels_228 rfl (lv_at hl 4 rfl) ?_
                        refine lv_iload_n hx hb dX12_readFeels_229 rfl (lv_at hl 3 rfl) ?_
                        refine lv_irem hx hb dX12_readFeels_230 (z_nz (by omega)) ?_
                        refine lv_topi (fun x_2278 he_x_2278 => ?_)
                        have hq_x_2278 := z_remq he_x_2278 (rfl : v_1919.toInt = _) (by omega : x_41.toInt = 4) (by omega) (by decide)
                        refine lv_iadd hx hb dX12_readFeels_231 ?_
                        refine lv_topi (fun x_2279 he_x_2279 => ?_)
                        have hq_x_2279 := z_addq he_x_2279 (rfl : x_2277.toInt = _) (rfl : x_2278.toInt = _) (by omega) (by omega)
                        refine lv_aload_n hx hb dX12_readFeels_232 rfl (lv_at hl 1 rfl) ?_
                        refine va_get (D := G) (ci := 12) (v := .int v_1926) (C := RX12) (T := TX12) (N := 65) hx hb hts inT12 hown hK hP 4 rfl rfl 17 (by decide) (hts _ tw_1902) (fun _ h9 => h9) rfl dX12_readFeels_233 ?_
                        refine z_iast hx hb hK hP hD hS 2 0 rfl rfl (z_inN (by omega) (by omega)) dX12_readFeels_236 (fun g_2280 hg_g_2280 H locs hP hD hS => ?_)
                        have hC_g_2280 := z_ctU hC_g_1922 hg_g_2280 (a := 1477) (b := 1524) (lo := 0) (hi := 16) (by decide +kernel) (by decide +kernel) (by omega) (by omega) (by omega)
                        have hw_g_2280_1460 := z_cwo hg_g_2280 (k := 1460) (by omega) (by omega)
                        have hs_2281 : zNw g_2280 g_isOn := (zNw_fr hs_2150 hg_g_2280 (a := 1477) (b := 1524) (by decide +kernel) (by omega) (by omega))
                        obtain ⟨x_2282, he_x_2282⟩ : ∃ z : Int32, z = v_1919 + 1 := ⟨_, rfl⟩
                        have hq_x_2282 := z_addq he_x_2282 (rfl : v_1919.toInt = _) hk_1 (by omega) (by omega)
                        refine lv_iinc (v := x_2282) (lv' := [(3, .int x_2282), (4, .int v_1926), (0, .ref h0), (1, .int r_13), (2, .int x_41), (5, .int v_1921)]) hx hb dX12_readFeels_237 hl (k := 4) rfl ((z_ofi (by decide +kernel)).trans he_x_2282.symm) (by decide) rfl (fun ls hl => ?_)
                        refine lv_aload_n hx hb dX12_readFeels_240 rfl (lv_at hl 2 rfl) ?_
                        refine z_callVv (As := []) (rest := []) (wr := [(a_hasFeels, .inl (cA.1 3, 3, .inl g_29)), (a_isOn, .inl (cA.1 3, 10, .inl g_isOn)), (a_c, .inl (cA.1 0, 1825, .inl g_2280)), (a_words, .inl (cA.1 1, 105, .inr (.inl g_words)))]) ⟨hx, hb, hml, hown, hts⟩ hK hE hT hP hD hS hA (r_next2 l G cA h0 m_status m_thrown m_above m_under a_traySort a_trayMany a_numbers a_tape m_taped m_textEnd m_faultKind m_faultAt n_11 n_12 v_1923 v_1924 v_1925 v_1926 v_1927 v_1928 a_c a_words m_markMany a_there a_tried a_best a_found m_thereMany m_foundMany m_orderHow m_orderRing m_orderMany m_hasBest m_bestTop m_bestBy a_weights a_shared m_random m_truePlace m_trueWay m_seconds m_done m_feelings m_tries m_leftOver m_playDoor m_playRing m_isOpen m_isOver m_wasTried m_hasPlayed a_feltNow a_last a_kept m_hasSeconds m_hasTurned m_hasRound a_hasFeels a_isOn m_firstAct m_meanTop m_meanBy a_order m_rowMany m_newSteps g_tape hr_m_textEnd hr_v_1924 hr_v_1925 hr_v_1923 hr_v_1926 hr_v_1927) lk_RX12_184 ⟨rfl, rfl⟩ ⟨Nat.le_of_ble_eq_true rfl, Nat.le_of_ble_eq_true rfl⟩ 12 rfl rfl rfl [4, 5] [0, 1, 2, 3] rfl rfl (by decide) rfl hl.1 rfl (lv_room (Nat.le_of_ble_eq_true rfl)) dX12_readFeels_241 ⟨Nat.le_of_ble_eq_true rfl, Nat.le_of_ble_eq_true rfl⟩ (fun u_2290 H locs hw hP hD hS => ?_)
                        obtain ⟨n_2283, n_2284, n_2285, n_2286, n_2287, n_2288⟩ := u_2290
                        try dsimp only at hw
                        obtain ⟨hr_n_2283, hr_n_2284, hr_n_2285, hr_n_2286, hr_n_2287, hf_2291, hf_2292⟩ := hw
                        refine lv_aload_n hx hb dX12_readFeels_244 rfl (lv_at hl 2 rfl) ?_
                        refine va_get (D := G) (ci := 12) (v := .int n_2283) (C := RX12) (T := TX12) (N := 65) hx hb hts inT12 hown hK hP 4 rfl rfl 14 (by decide) (hts _ tw_1899) (fun _ h9 => h9) rfl dX12_readFeels_245 ?_
                        refine lv_iconst (v := 2) hx hb dX12_readFeels_248 (by decide) ?_
                        refine lv_icmp_ne (tgt := 256) hx hb dX12_readFeels_249 (by decide) (fun c_2293 => ?_) (fun c_2293 => ?_)
                        · have b_2294 := z_fneT c_2293
                          refine lv_iconst (v := 0) hx hb dX12_readFeels_256 (by decide) ?_
                          refine lv_istore (lv' := [(5, .int 0), (3, .int x_2282), (4, .int v_1926), (0, .ref h0), (1, .int r_13), (2, .int x_41)]) hx hb dX12_readFeels_257 hl (by decide) rfl (fun ls hl => ?_)
                          refine lv_goto (tgt := 74) hx hb dX12_readFeels_259 (by decide) ?_
                          exact ih_2158 x_2282 v_1926 0 g_2280 n_2283 n_2284 n_2285 n_2286 n_2287 n_2288 H locs ls (by omega) (by omega) (by omega) (by decide +kernel) hC_g_2280 hr_n_2283 hr_n_2284 hr_n_2285 hr_n_2286 hr_n_2287 hs_2281 (by rw [hq_x_2282]; exact zFl_step hi_2151 hg_g_2280 (by omega) (by omega) (by omega) (r := x_2275.toInt) (c := x_2278.toInt) (by rw [h_42]; omega) (by omega) (by omega) (by omega) (by omega) (by omega) (by omega) (by omega)) (by omega) (by omega) (by omega) (by omega) (by omega) hP hD hS (lv_sub hl [3, 4, 5, 1, 2, 0] rfl)
                        · have b_2295 := z_feqF c_2293
                          refine lv_iconst (v := 1) hx hb dX12_readFeels_252 (by decide) ?_
                          refine lv_goto (tgt := 257) hx hb dX12_readFeels_253 (by decide) ?_
                          refine lv_istore (lv' := [(5, .int 1), (3, .int x_2282), (4, .int v_1926), (0, .ref h0), (1, .int r_13), (2, .int x_41)]) hx hb dX12_readFeels_257 hl (by decide) rfl (fun ls hl => ?_)
                          refine lv_goto (tgt := 74) hx hb dX12_readFeels_259 (by decide) ?_
                          exact ih_2158 x_2282 v_1926 1 g_2280 n_2283 n_2284 n_2285 n_2286 n_2287 n_2288 H locs ls (by omega) (by omega) (by omega) (by decide +kernel) hC_g_2280 hr_n_2283 hr_n_2284 hr_n_2285 hr_n_2286 hr_n_2287 hs_2281 (by rw [hq_x_2282]; exact zFl_step hi_2151 hg_g_2280 (by omega) (by omega) (by omega) (r := x_2275.toInt) (c := x_2278.toInt) (by rw [h_42]; omega) (by omega) (by omega) (by omega) (by omega) (by omega) (by omega) (by omega)) (by omega) (by omega) (by omega) (by omega) (by omega) hP hD hS (lv_sub hl [3, 4, 5, 1, 2, 0] rfl)
                      · have b_2296 := z_feqF c_2268
                        refine lv_iload hx hb dX12_readFeels_185 (lv_at hl 0 rfl) ?_
                        refine lv_bipush (v := 16) hx hb dX12_readFeels_187 (by decide) ?_
                        refine lv_icmp_eq (tgt := 202) hx hb dX12_readFeels_189 (by decide) (fun c_2297 => ?_) (fun c_2297 => ?_)
                        · have b_2298 := z_feqT c_2297
                          refine lv_aload_n hx hb dX12_readFeels_202 rfl (lv_at hl 1 rfl) ?_
                          refine va_get (D := G) (ci := 12) (v := .int n_11) (C := RX12) (T := TX12) (N := 65) hx hb hts inT12 hown hK hP 4 rfl rfl 12 (by decide) (hts _ tw_1897) (fun _ h9 => h9) rfl dX12_readFeels_203 ?_
                          refine lv_if_le (tgt := 210) hx hb dX12_readFeels_206 (by decide) (fun c_2299 => ?_) (fun h9 => (z_no (by have h8 := z_fgtF h9; omega)))
                          have b_2300 := z_fleT c_2299
                          have hn_k_2301 : 0 ≤ v_1919.toInt ∧ v_1919.toInt ≤ 15 := by omega
                          refine lv_aload_n hx hb dX12_readFeels_210 rfl (lv_at hl 1 rfl) ?_
                          refine va_get (D := G) (ci := 12) (v := .ref a_c) (C := RX12) (T := TX12) (N := 65) hx hb hts inT12 hown hK hP 4 rfl rfl 20 (by decide) (hts _ tw_1905) (fun _ h9 => h9) rfl dX12_readFeels_211 ?_
                          refine lv_sipush (v := 1477) hx hb dX12_readFeels_214 (by decide) ?_
                          refine lv_bipush (v := 16) hx hb dX12_readFeels_217 (by decide) ?_
                          refine lv_iload_n hx hb dX12_readFeels_219 rfl (lv_at hl 2 rfl) ?_
                          refine lv_imul hx hb dX12_readFeels_220 ?_
                          refine lv_topi (fun x_2302 he_x_2302 => ?_)
                          have hq_x_2302 := z_mulq he_x_2302 hk_16 (rfl : r_13.toInt = _) (by omega) (by omega)
                          refine lv_iadd hx hb dX12_readFeels_221 ?_
                          refine lv_topi (fun x_2303 he_x_2303 => ?_)
                          have hq_x_2303 := z_addq he_x_2303 hk_1477 (rfl : x_2302.toInt = _) (by omega) (by omega)
                          refine lv_iconst (v := 4) hx hb dX12_readFeels_222 (by decide) ?_
                          refine lv_iload_n hx hb dX12_readFeels_223 rfl (lv_at hl 4 rfl) ?_
                          refine lv_iload_n hx hb dX12_readFeels_224 rfl (lv_at hl 3 rfl) ?_
                          refine lv_idiv hx hb dX12_readFeels_225 (z_nz (by omega)) ?_
                          refine lv_topi (fun x_2304 he_x_2304 => ?_)
                          have hq_x_2304 := z_divq he_x_2304 (rfl : v_1919.toInt = _) (by omega : x_41.toInt = 4) (by omega) (by decide)
                          refine lv_imul hx hb dX12_readFeels_226 ?_
                          refine lv_topi (fun x_2305 he_x_2305 => ?_)
                          have hq_x_2305 := z_mulq he_x_2305 hk_4 (rfl : x_2304.toInt = _) (by omega) (by omega)
                          refine lv_iadd hx hb dX12_readFeels_227 ?_
                          refine lv_topi (fun x_2306 he_x_2306 => ?_)
                          have hq_x_2306 := z_addq he_x_2306 (rfl : x_2303.toInt = _) (rfl : x_2305.toInt = _) (by omega) (by omega)
                          refine lv_iload_n hx hb dX12_readFeels_228 rfl (lv_at hl 4 rfl) ?_
                          refine lv_iload_n hx hb dX12_readFeels_229 rfl (lv_at hl 3 rfl) ?_
                          refine lv_irem hx hb dX12_readFeels_230 (z_nz (by omega)) ?_
                          refine lv_topi (fun x_2307 he_x_2307 => ?_)
                          have hq_x_2307 := z_remq he_x_2307 (rfl : v_1919.toInt = _) (by omega : x_41.toInt = 4) (by omega) (by decide)
                          refine lv_iadd hx hb dX12_readFeels_231 ?_
                          refine lv_topi (fun x_2308 he_x_2308 => ?_)
                          have hq_x_2308 := z_addq he_x_2308 (rfl : x_2306.toInt = _) (rfl : x_2307.toInt = _) (by omega) (by omega)
                          refine lv_aload_n hx hb dX12_readFeels_232 rfl (lv_at hl 1 rfl) ?_
                          refine va_get (D := G) (ci := 12) (v := .int v_1926) (C := RX12) (T := TX12) (N := 65) hx hb hts inT12 hown hK hP 4 rfl rfl 17 (by decide) (hts _ tw_1902) (fun _ h9 => h9) rfl dX12_readFeels_233 ?_
                          refine z_iast hx hb hK hP hD hS 2 0 rfl rfl (z_inN (by omega) (by omega)) dX12_readFeels_236 (fun g_2309 hg_g_2309 H locs hP hD hS => ?_)
                          have hC_g_2309 := z_ctU hC_g_1922 hg_g_2309 (a := 1477) (b := 1524) (lo := 0) (hi := 16) (by decide +kernel) (by decide +kernel) (by omega) (by omega) (by omega)
                          have hw_g_2309_1460 := z_cwo hg_g_2309 (k := 1460) (by omega) (by omega)
                          have hs_2310 : zNw g_2309 g_isOn := (zNw_fr hs_2150 hg_g_2309 (a := 1477) (b := 1524) (by decide +kernel) (by omega) (by omega))
                          obtain ⟨x_2311, he_x_2311⟩ : ∃ z : Int32, z = v_1919 + 1 := ⟨_, rfl⟩
                          have hq_x_2311 := z_addq he_x_2311 (rfl : v_1919.toInt = _) hk_1 (by omega) (by omega)
                          refine lv_iinc (v := x_2311) (lv' := [(3, .int x_2311), (4, .int v_1926), (0, .ref h0), (1, .int r_13), (2, .int x_41), (5, .int v_1921)]) hx hb dX12_readFeels_237 hl (k := 4) rfl ((z_ofi (by decide +kernel)).trans he_x_2311.symm) (by decide) rfl (fun ls hl => ?_)
                          refine lv_aload_n hx hb dX12_readFeels_240 rfl (lv_at hl 2 rfl) ?_
                          refine z_callVv (As := []) (rest := []) (wr := [(a_hasFeels, .inl (cA.1 3, 3, .inl g_29)), (a_isOn, .inl (cA.1 3, 10, .inl g_isOn)), (a_c, .inl (cA.1 0, 1825, .inl g_2309)), (a_words, .inl (cA.1 1, 105, .inr (.inl g_words)))]) ⟨hx, hb, hml, hown, hts⟩ hK hE hT hP hD hS hA (r_next2 l G cA h0 m_status m_thrown m_above m_under a_traySort a_trayMany a_numbers a_tape m_taped m_textEnd m_faultKind m_faultAt n_11 n_12 v_1923 v_1924 v_1925 v_1926 v_1927 v_1928 a_c a_words m_markMany a_there a_tried a_best a_found m_thereMany m_foundMany m_orderHow m_orderRing m_orderMany m_hasBest m_bestTop m_bestBy a_weights a_shared m_random m_truePlace m_trueWay m_seconds m_done m_feelings m_tries m_leftOver m_playDoor m_playRing m_isOpen m_isOver m_wasTried m_hasPlayed a_feltNow a_last a_kept m_hasSeconds m_hasTurned m_hasRound a_hasFeels a_isOn m_firstAct m_meanTop m_meanBy a_order m_rowMany m_newSteps g_tape hr_m_textEnd hr_v_1924 hr_v_1925 hr_v_1923 hr_v_1926 hr_v_1927) lk_RX12_184 ⟨rfl, rfl⟩ ⟨Nat.le_of_ble_eq_true rfl, Nat.le_of_ble_eq_true rfl⟩ 12 rfl rfl rfl [4, 5] [0, 1, 2, 3] rfl rfl (by decide) rfl hl.1 rfl (lv_room (Nat.le_of_ble_eq_true rfl)) dX12_readFeels_241 ⟨Nat.le_of_ble_eq_true rfl, Nat.le_of_ble_eq_true rfl⟩ (fun u_2319 H locs hw hP hD hS => ?_)
                          obtain ⟨n_2312, n_2313, n_2314, n_2315, n_2316, n_2317⟩ := u_2319
                          try dsimp only at hw
                          obtain ⟨hr_n_2312, hr_n_2313, hr_n_2314, hr_n_2315, hr_n_2316, hf_2320, hf_2321⟩ := hw
                          refine lv_aload_n hx hb dX12_readFeels_244 rfl (lv_at hl 2 rfl) ?_
                          refine va_get (D := G) (ci := 12) (v := .int n_2312) (C := RX12) (T := TX12) (N := 65) hx hb hts inT12 hown hK hP 4 rfl rfl 14 (by decide) (hts _ tw_1899) (fun _ h9 => h9) rfl dX12_readFeels_245 ?_
                          refine lv_iconst (v := 2) hx hb dX12_readFeels_248 (by decide) ?_
                          refine lv_icmp_ne (tgt := 256) hx hb dX12_readFeels_249 (by decide) (fun c_2322 => ?_) (fun c_2322 => ?_)
                          · have b_2323 := z_fneT c_2322
                            refine lv_iconst (v := 0) hx hb dX12_readFeels_256 (by decide) ?_
                            refine lv_istore (lv' := [(5, .int 0), (3, .int x_2311), (4, .int v_1926), (0, .ref h0), (1, .int r_13), (2, .int x_41)]) hx hb dX12_readFeels_257 hl (by decide) rfl (fun ls hl => ?_)
                            refine lv_goto (tgt := 74) hx hb dX12_readFeels_259 (by decide) ?_
                            exact ih_2158 x_2311 v_1926 0 g_2309 n_2312 n_2313 n_2314 n_2315 n_2316 n_2317 H locs ls (by omega) (by omega) (by omega) (by decide +kernel) hC_g_2309 hr_n_2312 hr_n_2313 hr_n_2314 hr_n_2315 hr_n_2316 hs_2310 (by rw [hq_x_2311]; exact zFl_step hi_2151 hg_g_2309 (by omega) (by omega) (by omega) (r := x_2304.toInt) (c := x_2307.toInt) (by rw [h_42]; omega) (by omega) (by omega) (by omega) (by omega) (by omega) (by omega) (by omega)) (by omega) (by omega) (by omega) (by omega) (by omega) hP hD hS (lv_sub hl [3, 4, 5, 1, 2, 0] rfl)
                          · have b_2324 := z_feqF c_2322
                            refine lv_iconst (v := 1) hx hb dX12_readFeels_252 (by decide) ?_
                            refine lv_goto (tgt := 257) hx hb dX12_readFeels_253 (by decide) ?_
                            refine lv_istore (lv' := [(5, .int 1), (3, .int x_2311), (4, .int v_1926), (0, .ref h0), (1, .int r_13), (2, .int x_41)]) hx hb dX12_readFeels_257 hl (by decide) rfl (fun ls hl => ?_)
                            refine lv_goto (tgt := 74) hx hb dX12_readFeels_259 (by decide) ?_
                            exact ih_2158 x_2311 v_1926 1 g_2309 n_2312 n_2313 n_2314 n_2315 n_2316 n_2317 H locs ls (by omega) (by omega) (by omega) (by decide +kernel) hC_g_2309 hr_n_2312 hr_n_2313 hr_n_2314 hr_n_2315 hr_n_2316 hs_2310 (by rw [hq_x_2311]; exact zFl_step hi_2151 hg_g_2309 (by omega) (by omega) (by omega) (r := x_2304.toInt) (c := x_2307.toInt) (by rw [h_42]; omega) (by omega) (by omega) (by omega) (by omega) (by omega) (by omega) (by omega)) (by omega) (by omega) (by omega) (by omega) (by omega) hP hD hS (lv_sub hl [3, 4, 5, 1, 2, 0] rfl)
                        · have b_2325 := z_fneF c_2297
                          refine lv_aload_n hx hb dX12_readFeels_192 rfl (lv_at hl 1 rfl) ?_
                          refine lv_bipush (v := 9) hx hb dX12_readFeels_193 (by decide) ?_
                          refine lv_aload_n hx hb dX12_readFeels_195 rfl (lv_at hl 1 rfl) ?_
                          refine va_get (D := G) (ci := 12) (v := .int v_1924) (C := RX12) (T := TX12) (N := 65) hx hb hts inT12 hown hK hP 4 rfl rfl 15 (by decide) (hts _ tw_1900) (fun _ h9 => h9) rfl dX12_readFeels_196 ?_
                          refine z_callVv (As := [.int 9, .int v_1924]) (rest := []) (wr := [(a_hasFeels, .inl (cA.1 3, 3, .inl g_29)), (a_isOn, .inl (cA.1 3, 10, .inl g_isOn)), (a_c, .inl (cA.1 0, 1825, .inl g_1922)), (a_words, .inl (cA.1 1, 105, .inr (.inl g_words))), (a_tape, .inl (cA.1 2, 900, .inl g_tape))]) ⟨hx, hb, hml, hown, hts⟩ hK hE hT hP hD hS hA (r_fail l G cA h0 m_status m_thrown m_above m_under a_traySort a_trayMany a_numbers a_tape m_taped m_textEnd m_faultKind m_faultAt n_11 n_12 v_1923 v_1924 v_1925 v_1926 v_1927 v_1928 a_c a_words m_markMany a_there a_tried a_best a_found m_thereMany m_foundMany m_orderHow m_orderRing m_orderMany m_hasBest m_bestTop m_bestBy a_weights a_shared m_random m_truePlace m_trueWay m_seconds m_done m_feelings m_tries m_leftOver m_playDoor m_playRing m_isOpen m_isOver m_wasTried m_hasPlayed a_feltNow a_last a_kept m_hasSeconds m_hasTurned m_hasRound a_hasFeels a_isOn m_firstAct m_meanTop m_meanBy a_order m_rowMany m_newSteps 9 v_1924 (by decide +kernel) hr_n_11) lk_RX12_180 ⟨rfl, rfl⟩ ⟨Nat.le_of_ble_eq_true rfl, Nat.le_of_ble_eq_true rfl⟩ 12 rfl rfl rfl [4] [0, 1, 2, 3, 5] rfl rfl (by decide) rfl hl.1 rfl (lv_room (Nat.le_of_ble_eq_true rfl)) dX12_readFeels_199 ⟨Nat.le_of_ble_eq_true rfl, Nat.le_of_ble_eq_true rfl⟩ (fun u_2329 H locs hw hP hD hS => ?_)
                          obtain ⟨n_2326, n_2327⟩ := u_2329
                          try dsimp only at hw
                          obtain ⟨hr_n_2326, hf_2330⟩ := hw
                          refine lv_aload_n hx hb dX12_readFeels_202 rfl (lv_at hl 1 rfl) ?_
                          refine va_get (D := G) (ci := 12) (v := .int n_2326) (C := RX12) (T := TX12) (N := 65) hx hb hts inT12 hown hK hP 5 rfl rfl 12 (by decide) (hts _ tw_1897) (fun _ h9 => h9) rfl dX12_readFeels_203 ?_
                          refine lv_if_le (tgt := 210) hx hb dX12_readFeels_206 (by decide) (fun h9 => (z_no (by have h8 := z_fleT h9; omega))) (fun c_2331 => ?_)
                          have b_2332 := z_fgtF c_2331
                          have hpost : (0 ≤ n_2326.toInt ∧ n_2326.toInt ≤ 9) ∧ (0 ≤ v_1923.toInt ∧ v_1923.toInt ≤ 4) ∧ (0 ≤ v_1924.toInt ∧ v_1924.toInt ≤ 900) ∧ (0 ≤ v_1925.toInt ∧ v_1925.toInt ≤ 900) ∧ (0 ≤ v_1926.toInt ∧ v_1926.toInt ≤ 9999) ∧ (0 ≤ v_1927.toInt ∧ v_1927.toInt ≤ 900) ∧ (zRg 3 0 1 g_29) ∧ (zC g_1922) ∧ (zNw g_1922 g_isOn) ∧ (m_behind.toInt ≤ v_1925.toInt) ∧ (0 < m_bad.toInt → 0 < n_2326.toInt) ∧ (n_2326.toInt ≤ 0 → v_1923.toInt = 0 ∨ m_behind.toInt < v_1925.toInt) ∧ (n_2326.toInt ≤ 0 → v_1923.toInt = 3 → v_1926.toInt = 59 → zNf g_1922) := ⟨(z_rgw hr_n_2326 (by decide) (by decide)), hr_v_1923, hr_v_1924, hr_v_1925, hr_v_1926, hr_v_1927, hC_g_29, hC_g_1922, hs_2150, (by omega), (by omega), (by omega), (fun h1 h2 h3 => z_no (by omega))⟩
                          exact hret _ _ _ _ _ (n_2326, n_2327, v_1923, v_1924, v_1925, v_1926, v_1927, v_1928, g_29, g_1922) [5, 4, 2, 3, 0, 1] hP hD hS rfl (by decide) dX12_readFeels_209 hpost
                  · have b_2333 := z_feqF c_2188
                    refine lv_aload_n hx hb dX12_readFeels_137 rfl (lv_at hl 0 rfl) ?_
                    refine lv_bipush (v := 8) hx hb dX12_readFeels_138 (by decide) ?_
                    refine lv_aload_n hx hb dX12_readFeels_140 rfl (lv_at hl 0 rfl) ?_
                    refine va_get (D := G) (ci := 12) (v := .int v_1924) (C := RX12) (T := TX12) (N := 65) hx hb hts inT12 hown hK hP 4 rfl rfl 15 (by decide) (hts _ tw_1900) (fun _ h9 => h9) rfl dX12_readFeels_141 ?_
                    refine z_callVv (As := [.int 8, .int v_1924]) (rest := []) (wr := [(a_hasFeels, .inl (cA.1 3, 3, .inl g_29)), (a_isOn, .inl (cA.1 3, 10, .inl g_isOn)), (a_c, .inl (cA.1 0, 1825, .inl g_1922)), (a_words, .inl (cA.1 1, 105, .inr (.inl g_words))), (a_tape, .inl (cA.1 2, 900, .inl g_tape))]) ⟨hx, hb, hml, hown, hts⟩ hK hE hT hP hD hS hA (r_fail l G cA h0 m_status m_thrown m_above m_under a_traySort a_trayMany a_numbers a_tape m_taped m_textEnd m_faultKind m_faultAt n_11 n_12 v_1923 v_1924 v_1925 v_1926 v_1927 v_1928 a_c a_words m_markMany a_there a_tried a_best a_found m_thereMany m_foundMany m_orderHow m_orderRing m_orderMany m_hasBest m_bestTop m_bestBy a_weights a_shared m_random m_truePlace m_trueWay m_seconds m_done m_feelings m_tries m_leftOver m_playDoor m_playRing m_isOpen m_isOver m_wasTried m_hasPlayed a_feltNow a_last a_kept m_hasSeconds m_hasTurned m_hasRound a_hasFeels a_isOn m_firstAct m_meanTop m_meanBy a_order m_rowMany m_newSteps 8 v_1924 (by decide +kernel) hr_n_11) lk_RX12_180 ⟨rfl, rfl⟩ ⟨Nat.le_of_ble_eq_true rfl, Nat.le_of_ble_eq_true rfl⟩ 12 rfl rfl rfl [4] [0, 1, 2, 3, 5] rfl rfl (by decide) rfl hl.1 rfl (lv_room (Nat.le_of_ble_eq_true rfl)) dX12_readFeels_144 ⟨Nat.le_of_ble_eq_true rfl, Nat.le_of_ble_eq_true rfl⟩ (fun u_2337 H locs hw hP hD hS => ?_)
                    obtain ⟨n_2334, n_2335⟩ := u_2337
                    try dsimp only at hw
                    obtain ⟨hr_n_2334, hf_2338⟩ := hw
                    refine lv_iload_n hx hb dX12_readFeels_147 rfl (lv_at hl 3 rfl) ?_
                    refine lv_iload_n hx hb dX12_readFeels_148 rfl (lv_at hl 2 rfl) ?_
                    refine lv_irem hx hb dX12_readFeels_149 (z_nz (by omega)) ?_
                    refine lv_topi (fun x_2339 he_x_2339 => ?_)
                    have hq_x_2339 := z_remq he_x_2339 (rfl : v_1919.toInt = _) (by omega : x_41.toInt = 4) (by omega) (by decide)
                    refine lv_if_ne (tgt := 160) hx hb dX12_readFeels_150 (by decide) (fun c_2340 => ?_) (fun c_2340 => ?_)
                    · have b_2341 := z_fneT c_2340
                      refine lv_iload hx hb dX12_readFeels_160 (lv_at hl 4 rfl) ?_
                      refine lv_aload_n hx hb dX12_readFeels_162 rfl (lv_at hl 0 rfl) ?_
                      refine va_get (D := G) (ci := 12) (v := .int v_1926) (C := RX12) (T := TX12) (N := 65) hx hb hts inT12 hown hK hP 5 rfl rfl 17 (by decide) (hts _ tw_1902) (fun _ h9 => h9) rfl dX12_readFeels_163 ?_
                      refine lv_iadd hx hb dX12_readFeels_166 ?_
                      refine lv_topi (fun x_2342 he_x_2342 => ?_)
                      have hq_x_2342 := z_addq he_x_2342 (rfl : v_1920.toInt = _) (rfl : v_1926.toInt = _) (by omega) (by omega)
                      refine lv_istore (lv' := [(4, .int x_2342), (0, .ref h0), (1, .int r_13), (2, .int x_41), (3, .int v_1919), (5, .int v_1921)]) hx hb dX12_readFeels_167 hl (by decide) rfl (fun ls hl => ?_)
                      refine lv_aload_n hx hb dX12_readFeels_169 rfl (lv_at hl 1 rfl) ?_
                      refine va_get (D := G) (ci := 12) (v := .int n_2334) (C := RX12) (T := TX12) (N := 65) hx hb hts inT12 hown hK hP 5 rfl rfl 12 (by decide) (hts _ tw_1897) (fun _ h9 => h9) rfl dX12_readFeels_170 ?_
                      refine lv_if_ne (tgt := 202) hx hb dX12_readFeels_173 (by decide) (fun c_2343 => ?_) (fun h9 => (z_no (by have h8 := z_feqF h9; omega)))
                      have b_2344 := z_fneT c_2343
                      refine lv_aload_n hx hb dX12_readFeels_202 rfl (lv_at hl 1 rfl) ?_
                      refine va_get (D := G) (ci := 12) (v := .int n_2334) (C := RX12) (T := TX12) (N := 65) hx hb hts inT12 hown hK hP 5 rfl rfl 12 (by decide) (hts _ tw_1897) (fun _ h9 => h9) rfl dX12_readFeels_203 ?_
                      refine lv_if_le (tgt := 210) hx hb dX12_readFeels_206 (by decide) (fun h9 => (z_no (by have h8 := z_fleT h9; omega))) (fun c_2345 => ?_)
                      have b_2346 := z_fgtF c_2345
                      have hpost : (0 ≤ n_2334.toInt ∧ n_2334.toInt ≤ 9) ∧ (0 ≤ v_1923.toInt ∧ v_1923.toInt ≤ 4) ∧ (0 ≤ v_1924.toInt ∧ v_1924.toInt ≤ 900) ∧ (0 ≤ v_1925.toInt ∧ v_1925.toInt ≤ 900) ∧ (0 ≤ v_1926.toInt ∧ v_1926.toInt ≤ 9999) ∧ (0 ≤ v_1927.toInt ∧ v_1927.toInt ≤ 900) ∧ (zRg 3 0 1 g_29) ∧ (zC g_1922) ∧ (zNw g_1922 g_isOn) ∧ (m_behind.toInt ≤ v_1925.toInt) ∧ (0 < m_bad.toInt → 0 < n_2334.toInt) ∧ (n_2334.toInt ≤ 0 → v_1923.toInt = 0 ∨ m_behind.toInt < v_1925.toInt) ∧ (n_2334.toInt ≤ 0 → v_1923.toInt = 3 → v_1926.toInt = 59 → zNf g_1922) := ⟨(z_rgw hr_n_2334 (by decide) (by decide)), hr_v_1923, hr_v_1924, hr_v_1925, hr_v_1926, hr_v_1927, hC_g_29, hC_g_1922, hs_2150, (by omega), (by omega), (by omega), (fun h1 h2 h3 => z_no (by omega))⟩
                      exact hret _ _ _ _ _ (n_2334, n_2335, v_1923, v_1924, v_1925, v_1926, v_1927, v_1928, g_29, g_1922) [5, 4, 2, 3, 0, 1] hP hD hS rfl (by decide) dX12_readFeels_209 hpost
                    · have b_2347 := z_feqF c_2340
                      refine lv_aload_n hx hb dX12_readFeels_153 rfl (lv_at hl 0 rfl) ?_
                      refine va_get (D := G) (ci := 12) (v := .int v_1926) (C := RX12) (T := TX12) (N := 65) hx hb hts inT12 hown hK hP 5 rfl rfl 17 (by decide) (hts _ tw_1902) (fun _ h9 => h9) rfl dX12_readFeels_154 ?_
                      refine lv_goto (tgt := 167) hx hb dX12_readFeels_157 (by decide) ?_
                      refine lv_istore (lv' := [(4, .int v_1926), (0, .ref h0), (1, .int r_13), (2, .int x_41), (3, .int v_1919), (5, .int v_1921)]) hx hb dX12_readFeels_167 hl (by decide) rfl (fun ls hl => ?_)
                      refine lv_aload_n hx hb dX12_readFeels_169 rfl (lv_at hl 1 rfl) ?_
                      refine va_get (D := G) (ci := 12) (v := .int n_2334) (C := RX12) (T := TX12) (N := 65) hx hb hts inT12 hown hK hP 5 rfl rfl 12 (by decide) (hts _ tw_1897) (fun _ h9 => h9) rfl dX12_readFeels_170 ?_
                      refine lv_if_ne (tgt := 202) hx hb dX12_readFeels_173 (by decide) (fun c_2348 => ?_) (fun h9 => (z_no (by have h8 := z_feqF h9; omega)))
                      have b_2349 := z_fneT c_2348
                      refine lv_aload_n hx hb dX12_readFeels_202 rfl (lv_at hl 1 rfl) ?_
                      refine va_get (D := G) (ci := 12) (v := .int n_2334) (C := RX12) (T := TX12) (N := 65) hx hb hts inT12 hown hK hP 5 rfl rfl 12 (by decide) (hts _ tw_1897) (fun _ h9 => h9) rfl dX12_readFeels_203 ?_
                      refine lv_if_le (tgt := 210) hx hb dX12_readFeels_206 (by decide) (fun h9 => (z_no (by have h8 := z_fleT h9; omega))) (fun c_2350 => ?_)
                      have b_2351 := z_fgtF c_2350
                      have hpost : (0 ≤ n_2334.toInt ∧ n_2334.toInt ≤ 9) ∧ (0 ≤ v_1923.toInt ∧ v_1923.toInt ≤ 4) ∧ (0 ≤ v_1924.toInt ∧ v_1924.toInt ≤ 900) ∧ (0 ≤ v_1925.toInt ∧ v_1925.toInt ≤ 900) ∧ (0 ≤ v_1926.toInt ∧ v_1926.toInt ≤ 9999) ∧ (0 ≤ v_1927.toInt ∧ v_1927.toInt ≤ 900) ∧ (zRg 3 0 1 g_29) ∧ (zC g_1922) ∧ (zNw g_1922 g_isOn) ∧ (m_behind.toInt ≤ v_1925.toInt) ∧ (0 < m_bad.toInt → 0 < n_2334.toInt) ∧ (n_2334.toInt ≤ 0 → v_1923.toInt = 0 ∨ m_behind.toInt < v_1925.toInt) ∧ (n_2334.toInt ≤ 0 → v_1923.toInt = 3 → v_1926.toInt = 59 → zNf g_1922) := ⟨(z_rgw hr_n_2334 (by decide) (by decide)), hr_v_1923, hr_v_1924, hr_v_1925, hr_v_1926, hr_v_1927, hC_g_29, hC_g_1922, hs_2150, (by omega), (by omega), (by omega), (fun h1 h2 h3 => z_no (by omega))⟩
                      exact hret _ _ _ _ _ (n_2334, n_2335, v_1923, v_1924, v_1925, v_1926, v_1927, v_1928, g_29, g_1922) [5, 4, 2, 3, 0, 1] hP hD hS rfl (by decide) dX12_readFeels_209 hpost
                · have b_2352 := z_fgtF c_2183
                  refine lv_aload_n hx hb dX12_readFeels_114 rfl (lv_at hl 0 rfl) ?_
                  refine lv_iconst (v := 4) hx hb dX12_readFeels_115 (by decide) ?_
                  refine lv_aload_n hx hb dX12_readFeels_116 rfl (lv_at hl 0 rfl) ?_
                  refine va_get (D := G) (ci := 12) (v := .int v_1924) (C := RX12) (T := TX12) (N := 65) hx hb hts inT12 hown hK hP 4 rfl rfl 15 (by decide) (hts _ tw_1900) (fun _ h9 => h9) rfl dX12_readFeels_117 ?_
                  refine z_callVv (As := [.int 4, .int v_1924]) (rest := []) (wr := [(a_hasFeels, .inl (cA.1 3, 3, .inl g_29)), (a_isOn, .inl (cA.1 3, 10, .inl g_isOn)), (a_c, .inl (cA.1 0, 1825, .inl g_1922)), (a_words, .inl (cA.1 1, 105, .inr (.inl g_words))), (a_tape, .inl (cA.1 2, 900, .inl g_tape))]) ⟨hx, hb, hml, hown, hts⟩ hK hE hT hP hD hS hA (r_fail l G cA h0 m_status m_thrown m_above m_under a_traySort a_trayMany a_numbers a_tape m_taped m_textEnd m_faultKind m_faultAt n_11 n_12 v_1923 v_1924 v_1925 v_1926 v_1927 v_1928 a_c a_words m_markMany a_there a_tried a_best a_found m_thereMany m_foundMany m_orderHow m_orderRing m_orderMany m_hasBest m_bestTop m_bestBy a_weights a_shared m_random m_truePlace m_trueWay m_seconds m_done m_feelings m_tries m_leftOver m_playDoor m_playRing m_isOpen m_isOver m_wasTried m_hasPlayed a_feltNow a_last a_kept m_hasSeconds m_hasTurned m_hasRound a_hasFeels a_isOn m_firstAct m_meanTop m_meanBy a_order m_rowMany m_newSteps 4 v_1924 (by decide +kernel) hr_n_11) lk_RX12_180 ⟨rfl, rfl⟩ ⟨Nat.le_of_ble_eq_true rfl, Nat.le_of_ble_eq_true rfl⟩ 12 rfl rfl rfl [4] [0, 1, 2, 3, 5] rfl rfl (by decide) rfl hl.1 rfl (lv_room (Nat.le_of_ble_eq_true rfl)) dX12_readFeels_120 ⟨Nat.le_of_ble_eq_true rfl, Nat.le_of_ble_eq_true rfl⟩ (fun u_2356 H locs hw hP hD hS => ?_)
                  obtain ⟨n_2353, n_2354⟩ := u_2356
                  try dsimp only at hw
                  obtain ⟨hr_n_2353, hf_2357⟩ := hw
                  refine lv_aload_n hx hb dX12_readFeels_123 rfl (lv_at hl 0 rfl) ?_
                  refine va_get (D := G) (ci := 12) (v := .int n_2353) (C := RX12) (T := TX12) (N := 65) hx hb hts inT12 hown hK hP 5 rfl rfl 12 (by decide) (hts _ tw_1897) (fun _ h9 => h9) rfl dX12_readFeels_124 ?_
                  refine lv_if_ne (tgt := 147) hx hb dX12_readFeels_127 (by decide) (fun c_2358 => ?_) (fun h9 => (z_no (by have h8 := z_feqF h9; omega)))
                  have b_2359 := z_fneT c_2358
                  refine lv_iload_n hx hb dX12_readFeels_147 rfl (lv_at hl 3 rfl) ?_
                  refine lv_iload_n hx hb dX12_readFeels_148 rfl (lv_at hl 2 rfl) ?_
                  refine lv_irem hx hb dX12_readFeels_149 (z_nz (by omega)) ?_
                  refine lv_topi (fun x_2360 he_x_2360 => ?_)
                  have hq_x_2360 := z_remq he_x_2360 (rfl : v_1919.toInt = _) (by omega : x_41.toInt = 4) (by omega) (by decide)
                  refine lv_if_ne (tgt := 160) hx hb dX12_readFeels_150 (by decide) (fun c_2361 => ?_) (fun c_2361 => ?_)
                  · have b_2362 := z_fneT c_2361
                    refine lv_iload hx hb dX12_readFeels_160 (lv_at hl 4 rfl) ?_
                    refine lv_aload_n hx hb dX12_readFeels_162 rfl (lv_at hl 0 rfl) ?_
                    refine va_get (D := G) (ci := 12) (v := .int v_1926) (C := RX12) (T := TX12) (N := 65) hx hb hts inT12 hown hK hP 5 rfl rfl 17 (by decide) (hts _ tw_1902) (fun _ h9 => h9) rfl dX12_readFeels_163 ?_
                    refine lv_iadd hx hb dX12_readFeels_166 ?_
                    refine lv_topi (fun x_2363 he_x_2363 => ?_)
                    have hq_x_2363 := z_addq he_x_2363 (rfl : v_1920.toInt = _) (rfl : v_1926.toInt = _) (by omega) (by omega)
                    refine lv_istore (lv' := [(4, .int x_2363), (0, .ref h0), (1, .int r_13), (2, .int x_41), (3, .int v_1919), (5, .int v_1921)]) hx hb dX12_readFeels_167 hl (by decide) rfl (fun ls hl => ?_)
                    refine lv_aload_n hx hb dX12_readFeels_169 rfl (lv_at hl 1 rfl) ?_
                    refine va_get (D := G) (ci := 12) (v := .int n_2353) (C := RX12) (T := TX12) (N := 65) hx hb hts inT12 hown hK hP 5 rfl rfl 12 (by decide) (hts _ tw_1897) (fun _ h9 => h9) rfl dX12_readFeels_170 ?_
                    refine lv_if_ne (tgt := 202) hx hb dX12_readFeels_173 (by decide) (fun c_2364 => ?_) (fun h9 => (z_no (by have h8 := z_feqF h9; omega)))
                    have b_2365 := z_fneT c_2364
                    refine lv_aload_n hx hb dX12_readFeels_202 rfl (lv_at hl 1 rfl) ?_
                    refine va_get (D := G) (ci := 12) (v := .int n_2353) (C := RX12) (T := TX12) (N := 65) hx hb hts inT12 hown hK hP 5 rfl rfl 12 (by decide) (hts _ tw_1897) (fun _ h9 => h9) rfl dX12_readFeels_203 ?_
                    refine lv_if_le (tgt := 210) hx hb dX12_readFeels_206 (by decide) (fun h9 => (z_no (by have h8 := z_fleT h9; omega))) (fun c_2366 => ?_)
                    have b_2367 := z_fgtF c_2366
                    have hpost : (0 ≤ n_2353.toInt ∧ n_2353.toInt ≤ 9) ∧ (0 ≤ v_1923.toInt ∧ v_1923.toInt ≤ 4) ∧ (0 ≤ v_1924.toInt ∧ v_1924.toInt ≤ 900) ∧ (0 ≤ v_1925.toInt ∧ v_1925.toInt ≤ 900) ∧ (0 ≤ v_1926.toInt ∧ v_1926.toInt ≤ 9999) ∧ (0 ≤ v_1927.toInt ∧ v_1927.toInt ≤ 900) ∧ (zRg 3 0 1 g_29) ∧ (zC g_1922) ∧ (zNw g_1922 g_isOn) ∧ (m_behind.toInt ≤ v_1925.toInt) ∧ (0 < m_bad.toInt → 0 < n_2353.toInt) ∧ (n_2353.toInt ≤ 0 → v_1923.toInt = 0 ∨ m_behind.toInt < v_1925.toInt) ∧ (n_2353.toInt ≤ 0 → v_1923.toInt = 3 → v_1926.toInt = 59 → zNf g_1922) := ⟨(z_rgw hr_n_2353 (by decide) (by decide)), hr_v_1923, hr_v_1924, hr_v_1925, hr_v_1926, hr_v_1927, hC_g_29, hC_g_1922, hs_2150, (by omega), (by omega), (by omega), (fun h1 h2 h3 => z_no (by omega))⟩
                    exact hret _ _ _ _ _ (n_2353, n_2354, v_1923, v_1924, v_1925, v_1926, v_1927, v_1928, g_29, g_1922) [5, 4, 2, 3, 0, 1] hP hD hS rfl (by decide) dX12_readFeels_209 hpost
                  · have b_2368 := z_feqF c_2361
                    refine lv_aload_n hx hb dX12_readFeels_153 rfl (lv_at hl 0 rfl) ?_
                    refine va_get (D := G) (ci := 12) (v := .int v_1926) (C := RX12) (T := TX12) (N := 65) hx hb hts inT12 hown hK hP 5 rfl rfl 17 (by decide) (hts _ tw_1902) (fun _ h9 => h9) rfl dX12_readFeels_154 ?_
                    refine lv_goto (tgt := 167) hx hb dX12_readFeels_157 (by decide) ?_
                    refine lv_istore (lv' := [(4, .int v_1926), (0, .ref h0), (1, .int r_13), (2, .int x_41), (3, .int v_1919), (5, .int v_1921)]) hx hb dX12_readFeels_167 hl (by decide) rfl (fun ls hl => ?_)
                    refine lv_aload_n hx hb dX12_readFeels_169 rfl (lv_at hl 1 rfl) ?_
                    refine va_get (D := G) (ci := 12) (v := .int n_2353) (C := RX12) (T := TX12) (N := 65) hx hb hts inT12 hown hK hP 5 rfl rfl 12 (by decide) (hts _ tw_1897) (fun _ h9 => h9) rfl dX12_readFeels_170 ?_
                    refine lv_if_ne (tgt := 202) hx hb dX12_readFeels_173 (by decide) (fun c_2369 => ?_) (fun h9 => (z_no (by have h8 := z_feqF h9; omega)))
                    have b_2370 := z_fneT c_2369
                    refine lv_aload_n hx hb dX12_readFeels_202 rfl (lv_at hl 1 rfl) ?_
                    refine va_get (D := G) (ci := 12) (v := .int n_2353) (C := RX12) (T := TX12) (N := 65) hx hb hts inT12 hown hK hP 5 rfl rfl 12 (by decide) (hts _ tw_1897) (fun _ h9 => h9) rfl dX12_readFeels_203 ?_
                    refine lv_if_le (tgt := 210) hx hb dX12_readFeels_206 (by decide) (fun h9 => (z_no (by have h8 := z_fleT h9; omega))) (fun c_2371 => ?_)
                    have b_2372 := z_fgtF c_2371
                    have hpost : (0 ≤ n_2353.toInt ∧ n_2353.toInt ≤ 9) ∧ (0 ≤ v_1923.toInt ∧ v_1923.toInt ≤ 4) ∧ (0 ≤ v_1924.toInt ∧ v_1924.toInt ≤ 900) ∧ (0 ≤ v_1925.toInt ∧ v_1925.toInt ≤ 900) ∧ (0 ≤ v_1926.toInt ∧ v_1926.toInt ≤ 9999) ∧ (0 ≤ v_1927.toInt ∧ v_1927.toInt ≤ 900) ∧ (zRg 3 0 1 g_29) ∧ (zC g_1922) ∧ (zNw g_1922 g_isOn) ∧ (m_behind.toInt ≤ v_1925.toInt) ∧ (0 < m_bad.toInt → 0 < n_2353.toInt) ∧ (n_2353.toInt ≤ 0 → v_1923.toInt = 0 ∨ m_behind.toInt < v_1925.toInt) ∧ (n_2353.toInt ≤ 0 → v_1923.toInt = 3 → v_1926.toInt = 59 → zNf g_1922) := ⟨(z_rgw hr_n_2353 (by decide) (by decide)), hr_v_1923, hr_v_1924, hr_v_1925, hr_v_1926, hr_v_1927, hC_g_29, hC_g_1922, hs_2150, (by omega), (by omega), (by omega), (fun h1 h2 h3 => z_no (by omega))⟩
                    exact hret _ _ _ _ _ (n_2353, n_2354, v_1923, v_1924, v_1925, v_1926, v_1927, v_1928, g_29, g_1922) [5, 4, 2, 3, 0, 1] hP hD hS rfl (by decide) dX12_readFeels_209 hpost
              · have b_2373 := z_fneF c_2179
                refine lv_aload_n hx hb dX12_readFeels_94 rfl (lv_at hl 0 rfl) ?_
                refine z_callVv (As := []) (rest := []) (wr := [(a_hasFeels, .inl (cA.1 3, 3, .inl g_29)), (a_isOn, .inl (cA.1 3, 10, .inl g_isOn)), (a_c, .inl (cA.1 0, 1825, .inl g_1922)), (a_words, .inl (cA.1 1, 105, .inr (.inl g_words))), (a_tape, .inl (cA.1 2, 900, .inl g_tape))]) ⟨hx, hb, hml, hown, hts⟩ hK hE hT hP hD hS hA (r_wrong l G cA h0 m_status m_thrown m_above m_under a_traySort a_trayMany a_numbers a_tape m_taped m_textEnd m_faultKind m_faultAt n_11 n_12 v_1923 v_1924 v_1925 v_1926 v_1927 v_1928 a_c a_words m_markMany a_there a_tried a_best a_found m_thereMany m_foundMany m_orderHow m_orderRing m_orderMany m_hasBest m_bestTop m_bestBy a_weights a_shared m_random m_truePlace m_trueWay m_seconds m_done m_feelings m_tries m_leftOver m_playDoor m_playRing m_isOpen m_isOver m_wasTried m_hasPlayed a_feltNow a_last a_kept m_hasSeconds m_hasTurned m_hasRound a_hasFeels a_isOn m_firstAct m_meanTop m_meanBy a_order m_rowMany m_newSteps hr_v_1924 hr_n_11 hr_v_1923) lk_RX12_187 ⟨rfl, rfl⟩ ⟨Nat.le_of_ble_eq_true rfl, Nat.le_of_ble_eq_true rfl⟩ 12 rfl rfl rfl [4] [0, 1, 2, 3, 5] rfl rfl (by decide) rfl hl.1 rfl (lv_room (Nat.le_of_ble_eq_true rfl)) dX12_readFeels_95 ⟨Nat.le_of_ble_eq_true rfl, Nat.le_of_ble_eq_true rfl⟩ (fun u_2377 H locs hw hP hD hS => ?_)
                obtain ⟨n_2374, n_2375⟩ := u_2377
                try dsimp only at hw
                have hr_n_2374 := hw
                refine lv_aload_n hx hb dX12_readFeels_98 rfl (lv_at hl 0 rfl) ?_
                refine va_get (D := G) (ci := 12) (v := .int n_2374) (C := RX12) (T := TX12) (N := 65) hx hb hts inT12 hown hK hP 5 rfl rfl 12 (by decide) (hts _ tw_1897) (fun _ h9 => h9) rfl dX12_readFeels_99 ?_
                refine lv_if_ne (tgt := 123) hx hb dX12_readFeels_102 (by decide) (fun c_2378 => ?_) (fun h9 => (z_no (by have h8 := z_feqF h9; omega)))
                have b_2379 := z_fneT c_2378
                refine lv_aload_n hx hb dX12_readFeels_123 rfl (lv_at hl 0 rfl) ?_
                refine va_get (D := G) (ci := 12) (v := .int n_2374) (C := RX12) (T := TX12) (N := 65) hx hb hts inT12 hown hK hP 5 rfl rfl 12 (by decide) (hts _ tw_1897) (fun _ h9 => h9) rfl dX12_readFeels_124 ?_
                refine lv_if_ne (tgt := 147) hx hb dX12_readFeels_127 (by decide) (fun c_2380 => ?_) (fun h9 => (z_no (by have h8 := z_feqF h9; omega)))
                have b_2381 := z_fneT c_2380
                refine lv_iload_n hx hb dX12_readFeels_147 rfl (lv_at hl 3 rfl) ?_
                refine lv_iload_n hx hb dX12_readFeels_148 rfl (lv_at hl 2 rfl) ?_
                refine lv_irem hx hb dX12_readFeels_149 (z_nz (by omega)) ?_
                refine lv_topi (fun x_2382 he_x_2382 => ?_)
                have hq_x_2382 := z_remq he_x_2382 (rfl : v_1919.toInt = _) (by omega : x_41.toInt = 4) (by omega) (by decide)
                refine lv_if_ne (tgt := 160) hx hb dX12_readFeels_150 (by decide) (fun c_2383 => ?_) (fun c_2383 => ?_)
                · have b_2384 := z_fneT c_2383
                  refine lv_iload hx hb dX12_readFeels_160 (lv_at hl 4 rfl) ?_
                  refine lv_aload_n hx hb dX12_readFeels_162 rfl (lv_at hl 0 rfl) ?_
                  refine va_get (D := G) (ci := 12) (v := .int v_1926) (C := RX12) (T := TX12) (N := 65) hx hb hts inT12 hown hK hP 5 rfl rfl 17 (by decide) (hts _ tw_1902) (fun _ h9 => h9) rfl dX12_readFeels_163 ?_
                  refine lv_iadd hx hb dX12_readFeels_166 ?_
                  refine lv_topi (fun x_2385 he_x_2385 => ?_)
                  have hq_x_2385 := z_addq he_x_2385 (rfl : v_1920.toInt = _) (rfl : v_1926.toInt = _) (by omega) (by omega)
                  refine lv_istore (lv' := [(4, .int x_2385), (0, .ref h0), (1, .int r_13), (2, .int x_41), (3, .int v_1919), (5, .int v_1921)]) hx hb dX12_readFeels_167 hl (by decide) rfl (fun ls hl => ?_)
                  refine lv_aload_n hx hb dX12_readFeels_169 rfl (lv_at hl 1 rfl) ?_
                  refine va_get (D := G) (ci := 12) (v := .int n_2374) (C := RX12) (T := TX12) (N := 65) hx hb hts inT12 hown hK hP 5 rfl rfl 12 (by decide) (hts _ tw_1897) (fun _ h9 => h9) rfl dX12_readFeels_170 ?_
                  refine lv_if_ne (tgt := 202) hx hb dX12_readFeels_173 (by decide) (fun c_2386 => ?_) (fun h9 => (z_no (by have h8 := z_feqF h9; omega)))
                  have b_2387 := z_fneT c_2386
                  refine lv_aload_n hx hb dX12_readFeels_202 rfl (lv_at hl 1 rfl) ?_
                  refine va_get (D := G) (ci := 12) (v := .int n_2374) (C := RX12) (T := TX12) (N := 65) hx hb hts inT12 hown hK hP 5 rfl rfl 12 (by decide) (hts _ tw_1897) (fun _ h9 => h9) rfl dX12_readFeels_203 ?_
                  refine lv_if_le (tgt := 210) hx hb dX12_readFeels_206 (by decide) (fun h9 => (z_no (by have h8 := z_fleT h9; omega))) (fun c_2388 => ?_)
                  have b_2389 := z_fgtF c_2388
                  have hpost : (0 ≤ n_2374.toInt ∧ n_2374.toInt ≤ 9) ∧ (0 ≤ v_1923.toInt ∧ v_1923.toInt ≤ 4) ∧ (0 ≤ v_1924.toInt ∧ v_1924.toInt ≤ 900) ∧ (0 ≤ v_1925.toInt ∧ v_1925.toInt ≤ 900) ∧ (0 ≤ v_1926.toInt ∧ v_1926.toInt ≤ 9999) ∧ (0 ≤ v_1927.toInt ∧ v_1927.toInt ≤ 900) ∧ (zRg 3 0 1 g_29) ∧ (zC g_1922) ∧ (zNw g_1922 g_isOn) ∧ (m_behind.toInt ≤ v_1925.toInt) ∧ (0 < m_bad.toInt → 0 < n_2374.toInt) ∧ (n_2374.toInt ≤ 0 → v_1923.toInt = 0 ∨ m_behind.toInt < v_1925.toInt) ∧ (n_2374.toInt ≤ 0 → v_1923.toInt = 3 → v_1926.toInt = 59 → zNf g_1922) := ⟨(z_rgw hr_n_2374 (by decide) (by decide)), hr_v_1923, hr_v_1924, hr_v_1925, hr_v_1926, hr_v_1927, hC_g_29, hC_g_1922, hs_2150, (by omega), (by omega), (by omega), (fun h1 h2 h3 => z_no (by omega))⟩
                  exact hret _ _ _ _ _ (n_2374, n_2375, v_1923, v_1924, v_1925, v_1926, v_1927, v_1928, g_29, g_1922) [5, 4, 2, 3, 0, 1] hP hD hS rfl (by decide) dX12_readFeels_209 hpost
                · have b_2390 := z_feqF c_2383
                  refine lv_aload_n hx hb dX12_readFeels_153 rfl (lv_at hl 0 rfl) ?_
                  refine va_get (D := G) (ci := 12) (v := .int v_1926) (C := RX12) (T := TX12) (N := 65) hx hb hts inT12 hown hK hP 5 rfl rfl 17 (by decide) (hts _ tw_1902) (fun _ h9 => h9) rfl dX12_readFeels_154 ?_
                  refine lv_goto (tgt := 167) hx hb dX12_readFeels_157 (by decide) ?_
                  refine lv_istore (lv' := [(4, .int v_1926), (0, .ref h0), (1, .int r_13), (2, .int x_41), (3, .int v_1919), (5, .int v_1921)]) hx hb dX12_readFeels_167 hl (by decide) rfl (fun ls hl => ?_)
                  refine lv_aload_n hx hb dX12_readFeels_169 rfl (lv_at hl 1 rfl) ?_
                  refine va_get (D := G) (ci := 12) (v := .int n_2374) (C := RX12) (T := TX12) (N := 65) hx hb hts inT12 hown hK hP 5 rfl rfl 12 (by decide) (hts _ tw_1897) (fun _ h9 => h9) rfl dX12_readFeels_170 ?_
                  refine lv_if_ne (tgt := 202) hx hb dX12_readFeels_173 (by decide) (fun c_2391 => ?_) (fun h9 => (z_no (by have h8 := z_feqF h9; omega)))
                  have b_2392 := z_fneT c_2391
                  refine lv_aload_n hx hb dX12_readFeels_202 rfl (lv_at hl 1 rfl) ?_
                  refine va_get (D := G) (ci := 12) (v := .int n_2374) (C := RX12) (T := TX12) (N := 65) hx hb hts inT12 hown hK hP 5 rfl rfl 12 (by decide) (hts _ tw_1897) (fun _ h9 => h9) rfl dX12_readFeels_203 ?_
                  refine lv_if_le (tgt := 210) hx hb dX12_readFeels_206 (by decide) (fun h9 => (z_no (by have h8 := z_fleT h9; omega))) (fun c_2393 => ?_)
                  have b_2394 := z_fgtF c_2393
                  have hpost : (0 ≤ n_2374.toInt ∧ n_2374.toInt ≤ 9) ∧ (0 ≤ v_1923.toInt ∧ v_1923.toInt ≤ 4) ∧ (0 ≤ v_1924.toInt ∧ v_1924.toInt ≤ 900) ∧ (0 ≤ v_1925.toInt ∧ v_1925.toInt ≤ 900) ∧ (0 ≤ v_1926.toInt ∧ v_1926.toInt ≤ 9999) ∧ (0 ≤ v_1927.toInt ∧ v_1927.toInt ≤ 900) ∧ (zRg 3 0 1 g_29) ∧ (zC g_1922) ∧ (zNw g_1922 g_isOn) ∧ (m_behind.toInt ≤ v_1925.toInt) ∧ (0 < m_bad.toInt → 0 < n_2374.toInt) ∧ (n_2374.toInt ≤ 0 → v_1923.toInt = 0 ∨ m_behind.toInt < v_1925.toInt) ∧ (n_2374.toInt ≤ 0 → v_1923.toInt = 3 → v_1926.toInt = 59 → zNf g_1922) := ⟨(z_rgw hr_n_2374 (by decide) (by decide)), hr_v_1923, hr_v_1924, hr_v_1925, hr_v_1926, hr_v_1927, hC_g_29, hC_g_1922, hs_2150, (by omega), (by omega), (by omega), (fun h1 h2 h3 => z_no (by omega))⟩
                  exact hret _ _ _ _ _ (n_2374, n_2375, v_1923, v_1924, v_1925, v_1926, v_1927, v_1928, g_29, g_1922) [5, 4, 2, 3, 0, 1] hP hD hS rfl (by decide) dX12_readFeels_209 hpost
        exact hlp_2157 _ 0 0 1 g_c n_30 n_31 n_32 n_33 n_34 n_35 _ _ _ (Nat.lt_succ_self _) (by decide +kernel) (by decide +kernel) (by decide +kernel) hC_g_c hr_n_30 hr_n_31 hr_n_32 hr_n_33 hr_n_34 hNW0 (zFl_0 (by omega)) (by omega) (by omega) (by omega) (by omega) (by omega) hP hD hS (lv_sub hl [5, 4, 3, 2, 1, 0] rfl)
    · have b_2395 := z_fneF c_24
      refine lv_aload_n hx hb dX12_readFeels_27 rfl (lv_at hl 1 rfl) ?_
      refine lv_iconst (v := 5) hx hb dX12_readFeels_28 (by decide) ?_
      refine lv_aload_n hx hb dX12_readFeels_29 rfl (lv_at hl 1 rfl) ?_
      refine va_get (D := G) (ci := 12) (v := .int n_2) (C := RX12) (T := TX12) (N := 65) hx hb hts inT12 hown hK hP 3 rfl rfl 15 (by decide) (hts _ tw_1900) (fun _ h9 => h9) rfl dX12_readFeels_30 ?_
      refine z_callVv (As := [.int 5, .int n_2]) (rest := []) (wr := [(a_hasFeels, .inl (cA.1 3, 3, .inl g_hasFeels)), (a_isOn, .inl (cA.1 3, 10, .inl g_isOn)), (a_tape, .inl (cA.1 2, 900, .inl g_tape)), (a_c, .inl (cA.1 0, 1825, .inl g_c)), (a_words, .inl (cA.1 1, 105, .inr (.inl g_words)))]) ⟨hx, hb, hml, hown, hts⟩ hK hE hT hP hD hS hA (r_fail l G cA h0 m_status m_thrown m_above m_under a_traySort a_trayMany a_numbers a_tape m_taped m_textEnd m_faultKind m_faultAt n_11 n_12 n_1 n_2 n_3 n_4 n_5 n_6 a_c a_words m_markMany a_there a_tried a_best a_found m_thereMany m_foundMany m_orderHow m_orderRing m_orderMany m_hasBest m_bestTop m_bestBy a_weights a_shared m_random m_truePlace m_trueWay m_seconds m_done m_feelings m_tries m_leftOver m_playDoor m_playRing m_isOpen m_isOver m_wasTried m_hasPlayed a_feltNow a_last a_kept m_hasSeconds m_hasTurned m_hasRound a_hasFeels a_isOn m_firstAct m_meanTop m_meanBy a_order m_rowMany m_newSteps 5 n_2 (by decide +kernel) hr_n_11) lk_RX12_180 ⟨rfl, rfl⟩ ⟨Nat.le_of_ble_eq_true rfl, Nat.le_of_ble_eq_true rfl⟩ 12 rfl rfl rfl [3] [0, 1, 2, 4, 5] rfl rfl (by decide) rfl hl.1 rfl (lv_room (Nat.le_of_ble_eq_true rfl)) dX12_readFeels_33 ⟨Nat.le_of_ble_eq_true rfl, Nat.le_of_ble_eq_true rfl⟩ (fun u_2399 H locs hw hP hD hS => ?_)
      obtain ⟨n_2396, n_2397⟩ := u_2399
      try dsimp only at hw
      obtain ⟨hr_n_2396, hf_2400⟩ := hw
      refine lv_aload_n hx hb dX12_readFeels_36 rfl (lv_at hl 1 rfl) ?_
      refine va_get (D := G) (ci := 12) (v := .int n_2396) (C := RX12) (T := TX12) (N := 65) hx hb hts inT12 hown hK hP 5 rfl rfl 12 (by decide) (hts _ tw_1897) (fun _ h9 => h9) rfl dX12_readFeels_37 ?_
      refine lv_if_le (tgt := 44) hx hb dX12_readFeels_40 (by decide) (fun h9 => (z_no (by have h8 := z_fleT h9; omega))) (fun c_2401 => ?_)
      have b_2402 := z_fgtF c_2401
      have hpost : (0 ≤ n_2396.toInt ∧ n_2396.toInt ≤ 9) ∧ (0 ≤ n_1.toInt ∧ n_1.toInt ≤ 4) ∧ (0 ≤ n_2.toInt ∧ n_2.toInt ≤ 900) ∧ (0 ≤ n_3.toInt ∧ n_3.toInt ≤ 900) ∧ (0 ≤ n_4.toInt ∧ n_4.toInt ≤ 9999) ∧ (0 ≤ n_5.toInt ∧ n_5.toInt ≤ 900) ∧ (zRg 3 0 1 g_hasFeels) ∧ (zC g_c) ∧ (zNw g_c g_isOn) ∧ (m_behind.toInt ≤ n_3.toInt) ∧ (0 < m_bad.toInt → 0 < n_2396.toInt) ∧ (n_2396.toInt ≤ 0 → n_1.toInt = 0 ∨ m_behind.toInt < n_3.toInt) ∧ (n_2396.toInt ≤ 0 → n_1.toInt = 3 → n_4.toInt = 59 → zNf g_c) := ⟨(z_rgw hr_n_2396 (by decide) (by decide)), hr_n_1, hr_n_2, hr_n_3, hr_n_4, hr_n_5, hC_g_hasFeels, hC_g_c, hNW0, (by omega), (by omega), (by omega), (fun _ _ _ => hNF0)⟩
      exact hret _ _ _ _ _ (n_2396, n_2397, n_1, n_2, n_3, n_4, n_5, n_6, g_hasFeels, g_c) [5, 2, 3, 4, 0, 1] hP hD hS rfl (by decide) dX12_readFeels_43 hpost
