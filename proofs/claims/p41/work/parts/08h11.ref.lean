set_option maxHeartbeats 40000000 in
set_option maxRecDepth 100000 in
theorem r_laidForRound (l : Launch) (G : va_G) (cA : zCA) (h0 : Nat) (m_status : Int32) (m_thrown : Int32) (m_above : Int64) (m_under : Int64) (a_traySort : Nat) (a_trayMany : Nat) (a_numbers : Nat) (a_tape : Nat) (m_taped : Int32) (m_textEnd : Int32) (m_faultKind : Int32) (m_faultAt : Int32) (m_bad : Int32) (m_badAt : Int32) (m_token : Int32) (m_at : Int32) (m_behind : Int32) (m_number : Int32) (m_letters : Int32) (m_word : Int64) (a_c : Nat) (a_words : Nat) (m_markMany : Int32) (a_there : Nat) (a_tried : Nat) (a_best : Nat) (a_found : Nat) (m_thereMany : Int32) (m_foundMany : Int32) (m_orderHow : Int32) (m_orderRing : Int32) (m_orderMany : Int32) (m_hasBest : Int32) (m_bestTop : Int64) (m_bestBy : Int64) (a_weights : Nat) (a_shared : Nat) (m_random : Int32) (m_truePlace : Int32) (m_trueWay : Int32) (m_seconds : Int32) (m_done : Int32) (m_feelings : Int32) (m_tries : Int32) (m_leftOver : Int32) (m_playDoor : Int32) (m_playRing : Int32) (m_isOpen : Int32) (m_isOver : Int32) (m_wasTried : Int32) (m_hasPlayed : Int32) (a_feltNow : Nat) (a_last : Nat) (a_kept : Nat) (m_hasSeconds : Int32) (m_hasTurned : Int32) (m_hasRound : Int32) (a_hasFeels : Nat) (a_isOn : Nat) (m_firstAct : Int32) (m_meanTop : Int64) (m_meanBy : Int64) (a_order : Nat) (m_rowMany : Int32) (m_newSteps : Int32) (g_c : Nat → Int32) (g_there : Nat → Int32) (g_tried : Nat → Int32) (g_best : Nat → Int32) (g_found : Nat → Int32) (g_order : Nat → Int32) (r : Int32) (hr_m_thereMany : 0 ≤ m_thereMany.toInt ∧ m_thereMany.toInt ≤ 10) (hr_m_foundMany : 0 ≤ m_foundMany.toInt ∧ m_foundMany.toInt ≤ 10) (hr_m_orderMany : 0 ≤ m_orderMany.toInt ∧ m_orderMany.toInt ≤ 10) (hr_m_orderHow : 0 ≤ m_orderHow.toInt ∧ m_orderHow.toInt ≤ 2) (hr_m_hasBest : 0 ≤ m_hasBest.toInt ∧ m_hasBest.toInt ≤ 1) (hz_m_hasBest : m_hasBest = 0 ∨ m_hasBest = 1) (hC_g_c : zC g_c) (hC_g_there : zRg 10 0 9 g_there) (hC_g_tried : zRg 10 0 9 g_tried) (hC_g_best : zRg 10 0 9 g_best) (hC_g_found : zRg 10 0 9 g_found) (hC_g_order : zRg 10 0 9 g_order) : zCi l yX12_laidForRound cX12_laidForRound 2 (some .int) ({ frames := 13, cells := 0, slots := 0, locals := 294 }) G cA [.ref h0, .int r] [(h0, .inr (12, [.int m_status, .int m_thrown, .long m_above, .long m_under, .ref a_traySort, .ref a_trayMany, .ref a_numbers, .ref a_tape, .int m_taped, .int m_textEnd, .int m_faultKind, .int m_faultAt, .int m_bad, .int m_badAt, .int m_token, .int m_at, .int m_behind, .int m_number, .int m_letters, .long m_word, .ref a_c, .ref a_words, .int m_markMany, .ref a_there, .ref a_tried, .ref a_best, .ref a_found, .int m_thereMany, .int m_foundMany, .int m_orderHow, .int m_orderRing, .int m_orderMany, .int m_hasBest, .long m_bestTop, .long m_bestBy, .ref a_weights, .ref a_shared, .int m_random, .int m_truePlace, .int m_trueWay, .int m_seconds, .int m_done, .int m_feelings, .int m_tries, .int m_leftOver, .int m_playDoor, .int m_playRing, .int m_isOpen, .int m_isOver, .int m_wasTried, .int m_hasPlayed, .ref a_feltNow, .ref a_last, .ref a_kept, .int m_hasSeconds, .int m_hasTurned, .int m_hasRound, .ref a_hasFeels, .ref a_isOn, .int m_firstAct, .long m_meanTop, .long m_meanBy, .ref a_order, .int m_rowMany, .int m_newSteps])), (a_c, .inl (cA.1 0, 1825, .inl g_c)), (a_there, .inl (cA.1 0, 10, .inl g_there)), (a_tried, .inl (cA.1 0, 10, .inl g_tried)), (a_best, .inl (cA.1 0, 10, .inl g_best)), (a_found, .inl (cA.1 0, 10, .inl g_found)), (a_order, .inl (cA.1 0, 10, .inl g_order))] (S := Int32 × Int32 × Int32 × (Nat → Int32) × Int32 × Int32 × Int32 × Int32 × Int64 × Int64 × Int64 × Int64 × (Nat → Int32) × (Nat → Int32) × (Nat → Int32) × (Nat → Int32)) (fun (r_0 : Int32) (u : Int32 × Int32 × Int32 × (Nat → Int32) × Int32 × Int32 × Int32 × Int32 × Int64 × Int64 × Int64 × Int64 × (Nat → Int32) × (Nat → Int32) × (Nat → Int32) × (Nat → Int32)) => (r_0 = (F_r_laidForRound m_bestTop m_bestBy m_meanTop m_meanBy g_c g_there g_tried g_best g_found g_order r)) ∧ ((0 ≤ u.2.1.toInt ∧ u.2.1.toInt ≤ 0) ∧ (0 ≤ u.2.2.1.toInt ∧ u.2.2.1.toInt ≤ 10) ∧ (zRg 10 0 9 u.2.2.2.1) ∧ (0 ≤ u.2.2.2.2.1.toInt ∧ u.2.2.2.2.1.toInt ≤ 10) ∧ (0 ≤ u.2.2.2.2.2.1.toInt ∧ u.2.2.2.2.2.1.toInt ≤ 2) ∧ (0 ≤ u.2.2.2.2.2.2.1.toInt ∧ u.2.2.2.2.2.2.1.toInt ≤ 10) ∧ (u.2.2.2.2.2.2.2.1 = 0 ∨ u.2.2.2.2.2.2.2.1 = 1) ∧ (0 ≤ u.2.2.2.2.2.2.2.1.toInt ∧ u.2.2.2.2.2.2.2.1.toInt ≤ 1) ∧ (zRg 10 0 9 u.2.2.2.2.2.2.2.2.2.2.2.2.1) ∧ (zRg 10 0 9 u.2.2.2.2.2.2.2.2.2.2.2.2.2.1) ∧ (zRg 10 0 9 u.2.2.2.2.2.2.2.2.2.2.2.2.2.2.1) ∧ (zRg 10 0 9 u.2.2.2.2.2.2.2.2.2.2.2.2.2.2.2))) (fun (u : Int32 × Int32 × Int32 × (Nat → Int32) × Int32 × Int32 × Int32 × Int32 × Int64 × Int64 × Int64 × Int64 × (Nat → Int32) × (Nat → Int32) × (Nat → Int32) × (Nat → Int32)) => [(h0, .inr (12, [.int u.1, .int u.2.1, .long m_above, .long m_under, .ref a_traySort, .ref a_trayMany, .ref a_numbers, .ref a_tape, .int m_taped, .int m_textEnd, .int m_faultKind, .int m_faultAt, .int m_bad, .int m_badAt, .int m_token, .int m_at, .int m_behind, .int m_number, .int m_letters, .long m_word, .ref a_c, .ref a_words, .int m_markMany, .ref a_there, .ref a_tried, .ref a_best, .ref a_found, .int u.2.2.1, .int u.2.2.2.2.1, .int u.2.2.2.2.2.1, .int m_orderRing, .int u.2.2.2.2.2.2.1, .int u.2.2.2.2.2.2.2.1, .long u.2.2.2.2.2.2.2.2.1, .long u.2.2.2.2.2.2.2.2.2.1, .ref a_weights, .ref a_shared, .int m_random, .int m_truePlace, .int m_trueWay, .int m_seconds, .int m_done, .int m_feelings, .int m_tries, .int m_leftOver, .int m_playDoor, .int m_playRing, .int m_isOpen, .int m_isOver, .int m_wasTried, .int m_hasPlayed, .ref a_feltNow, .ref a_last, .ref a_kept, .int m_hasSeconds, .int m_hasTurned, .int m_hasRound, .ref a_hasFeels, .ref a_isOn, .int m_firstAct, .long u.2.2.2.2.2.2.2.2.2.2.1, .long u.2.2.2.2.2.2.2.2.2.2.2.1, .ref a_order, .int m_rowMany, .int m_newSteps])), (a_c, .inl (cA.1 0, 1825, .inl g_c)), (a_there, .inl (cA.1 0, 10, .inl u.2.2.2.1)), (a_tried, .inl (cA.1 0, 10, .inl u.2.2.2.2.2.2.2.2.2.2.2.2.1)), (a_best, .inl (cA.1 0, 10, .inl u.2.2.2.2.2.2.2.2.2.2.2.2.2.1)), (a_found, .inl (cA.1 0, 10, .inl u.2.2.2.2.2.2.2.2.2.2.2.2.2.2.1)), (a_order, .inl (cA.1 0, 10, .inl u.2.2.2.2.2.2.2.2.2.2.2.2.2.2.2))]) 0 0 := by
  have hk_0 : (0 : Int32).toInt = 0 := by decide +kernel
  have hk_1 : (1 : Int32).toInt = 1 := by decide +kernel
  have hk_2 : (2 : Int32).toInt = 2 := by decide +kernel
  have hk_6 : (6 : Int32).toInt = 6 := by decide +kernel
  have hk_7 : (7 : Int32).toInt = 7 := by decide +kernel
  have hk_8 : (8 : Int32).toInt = 8 := by decide +kernel
  refine z_start2i (own := RX12) (by decide) (Nat.le_of_ble_eq_true rfl) rfl ?_
  intro p e s m args below meth c A ls Q hx hb hml hts hown hK hE hT hP hD hS hA hl hret
  have hl : lv_has ls 2 [(0, .ref h0), (1, .int r)] := hl
  refine lv_aload_n hx hb dX12_laidForRound_0 rfl (lv_at hl 0 rfl) ?_
  refine lv_iconst (v := 0) hx hb dX12_laidForRound_1 (by decide) ?_
  refine va_put (D := G) (ci := 12) (v := .int 0) (ty := .int) (C := RX12) (T := TX12) (N := 65) hx hb hts inT12 tyX12 tyX12_ok nmX12 hown hK hP hD hS 0 rfl rfl 1 (by decide) (hts _ tw_1886) (fun _ h9 => h9) rfl (tyX12_ok 1 (by decide)) rfl rfl (Nat.le_of_ble_eq_true rfl) dX12_laidForRound_2 (fun H locs hP hD hS => ?_)
  refine lv_aload_n hx hb dX12_laidForRound_5 rfl (lv_at hl 0 rfl) ?_
  refine lv_iconst (v := 0) hx hb dX12_laidForRound_6 (by decide) ?_
  refine va_put (D := G) (ci := 12) (v := .int 0) (ty := .int) (C := RX12) (T := TX12) (N := 65) hx hb hts inT12 tyX12 tyX12_ok nmX12 hown hK hP hD hS 0 rfl rfl 0 (by decide) (hts _ tw_1885) (fun _ h9 => h9) rfl (tyX12_ok 0 (by decide)) rfl rfl (Nat.le_of_ble_eq_true rfl) dX12_laidForRound_7 (fun H locs hP hD hS => ?_)
  refine lv_aload_n hx hb dX12_laidForRound_10 rfl (lv_at hl 0 rfl) ?_
  refine lv_iload_n hx hb dX12_laidForRound_11 rfl (lv_at hl 1 rfl) ?_
  refine z_callVi (As := [.int r]) (rest := []) (wr := [(a_there, .inl (cA.1 0, 10, .inl g_there)), (a_tried, .inl (cA.1 0, 10, .inl g_tried)), (a_best, .inl (cA.1 0, 10, .inl g_best)), (a_found, .inl (cA.1 0, 10, .inl g_found)), (a_order, .inl (cA.1 0, 10, .inl g_order))]) ⟨hx, hb, hml, hown, hts⟩ hK hE hT hP hD hS hA (r_isRing l G cA h0 0 0 m_above m_under a_traySort a_trayMany a_numbers a_tape m_taped m_textEnd m_faultKind m_faultAt m_bad m_badAt m_token m_at m_behind m_number m_letters m_word a_c a_words m_markMany a_there a_tried a_best a_found m_thereMany m_foundMany m_orderHow m_orderRing m_orderMany m_hasBest m_bestTop m_bestBy a_weights a_shared m_random m_truePlace m_trueWay m_seconds m_done m_feelings m_tries m_leftOver m_playDoor m_playRing m_isOpen m_isOver m_wasTried m_hasPlayed a_feltNow a_last a_kept m_hasSeconds m_hasTurned m_hasRound a_hasFeels a_isOn m_firstAct m_meanTop m_meanBy a_order m_rowMany m_newSteps g_c r hC_g_c) lk_RX12_289 ⟨rfl, rfl⟩ ⟨Nat.le_of_ble_eq_true rfl, Nat.le_of_ble_eq_true rfl⟩ 12 rfl rfl rfl [0, 1] [2, 3, 4, 5, 6] rfl rfl (by decide) rfl hl.1 rfl (lv_room (Nat.le_of_ble_eq_true rfl)) dX12_laidForRound_12 ⟨Nat.le_of_ble_eq_true rfl, Nat.le_of_ble_eq_true rfl⟩ (fun r_1 u_2 H locs hw hP hD hS => ?_)
  obtain ⟨he_r_1, hw⟩ := hw
  rcases hw with ⟨rfl, -⟩ | ⟨rfl, hf_4, hf_5⟩
  · skip
    refine lv_if_ne (tgt := 24) hx hb dX12_laidForRound_15 (by decide) (fun h9 => absurd (by decide +kernel) h9) (fun _ => ?_)
    refine lv_aload_n hx hb dX12_laidForRound_18 rfl (lv_at hl 0 rfl) ?_
    refine lv_iconst (v := 2) hx hb dX12_laidForRound_19 (by decide) ?_
    refine z_callVi (As := [.int 2]) (rest := []) (wr := [(a_there, .inl (cA.1 0, 10, .inl g_there)), (a_tried, .inl (cA.1 0, 10, .inl g_tried)), (a_best, .inl (cA.1 0, 10, .inl g_best)), (a_found, .inl (cA.1 0, 10, .inl g_found)), (a_order, .inl (cA.1 0, 10, .inl g_order)), (a_c, .inl (cA.1 0, 1825, .inl g_c))]) ⟨hx, hb, hml, hown, hts⟩ hK hE hT hP hD hS hA (r_refuse l G cA h0 0 0 m_above m_under a_traySort a_trayMany a_numbers a_tape m_taped m_textEnd m_faultKind m_faultAt m_bad m_badAt m_token m_at m_behind m_number m_letters m_word a_c a_words m_markMany a_there a_tried a_best a_found m_thereMany m_foundMany m_orderHow m_orderRing m_orderMany m_hasBest m_bestTop m_bestBy a_weights a_shared m_random m_truePlace m_trueWay m_seconds m_done m_feelings m_tries m_leftOver m_playDoor m_playRing m_isOpen m_isOver m_wasTried m_hasPlayed a_feltNow a_last a_kept m_hasSeconds m_hasTurned m_hasRound a_hasFeels a_isOn m_firstAct m_meanTop m_meanBy a_order m_rowMany m_newSteps 2) lk_RX12_269 ⟨rfl, rfl⟩ ⟨Nat.le_of_ble_eq_true rfl, Nat.le_of_ble_eq_true rfl⟩ 12 rfl rfl rfl [5] [0, 1, 2, 3, 4, 6] rfl rfl (by decide) rfl hl.1 rfl (lv_room (Nat.le_of_ble_eq_true rfl)) dX12_laidForRound_20 ⟨Nat.le_of_ble_eq_true rfl, Nat.le_of_ble_eq_true rfl⟩ (fun r_7 u_8 H locs hw hP hD hS => ?_)
    obtain ⟨n_6, rfl⟩ : ∃ z, z = u_8 := ⟨_, rfl⟩
    obtain ⟨he_r_7, he_n_6, hw⟩ := hw
    have hr_r_7 := hw
    have hpost : (0 ≤ (0 : Int32).toInt ∧ (0 : Int32).toInt ≤ 0) ∧ (0 ≤ m_thereMany.toInt ∧ m_thereMany.toInt ≤ 10) ∧ (zRg 10 0 9 g_there) ∧ (0 ≤ m_foundMany.toInt ∧ m_foundMany.toInt ≤ 10) ∧ (0 ≤ m_orderHow.toInt ∧ m_orderHow.toInt ≤ 2) ∧ (0 ≤ m_orderMany.toInt ∧ m_orderMany.toInt ≤ 10) ∧ (m_hasBest = 0 ∨ m_hasBest = 1) ∧ (0 ≤ m_hasBest.toInt ∧ m_hasBest.toInt ≤ 1) ∧ (zRg 10 0 9 g_tried) ∧ (zRg 10 0 9 g_best) ∧ (zRg 10 0 9 g_found) ∧ (zRg 10 0 9 g_order) := ⟨(by decide +kernel), hr_m_thereMany, hC_g_there, hr_m_foundMany, hr_m_orderHow, hr_m_orderMany, hz_m_hasBest, hr_m_hasBest, hC_g_tried, hC_g_best, hC_g_found, hC_g_order⟩
    have hX_10 : F_r_laidForRound m_bestTop m_bestBy m_meanTop m_meanBy g_c g_there g_tried g_best g_found g_order r = (r_7 : Int32) := by
      refine (F_r_laidForRound_s ..).trans ?_
      extract_lets -merge -useContext +onlyGivenNames w9 y9; have e9 : (0 : Int32) = w9 := he_r_1; clear_value w9; subst e9
      refine (if_pos rfl).trans ?_
      extract_lets -merge -useContext +onlyGivenNames w9 y2_0 y2_1; have e9 : (r_7, n_6) = w9 := ((z_tS he_r_7 he_n_6.symm)).symm; clear_value w9; subst e9
      exact rfl
    exact hret _ _ _ _ _ _ (n_6, 0, m_thereMany, g_there, m_foundMany, m_orderHow, m_orderMany, m_hasBest, m_bestTop, m_bestBy, m_meanTop, m_meanBy, g_tried, g_best, g_found, g_order) [6, 5, 0, 1, 2, 3, 4] hP hD hS rfl (by decide) dX12_laidForRound_23 ⟨(congrArg (fun z9 => z9) hX_10).symm, hpost⟩
  · skip
    refine lv_if_ne (tgt := 24) hx hb dX12_laidForRound_15 (by decide) (fun _ => ?_) (fun h9 => absurd h9 (by decide +kernel))
    refine lv_aload_n hx hb dX12_laidForRound_24 rfl (lv_at hl 0 rfl) ?_
    refine lv_iload_n hx hb dX12_laidForRound_25 rfl (lv_at hl 1 rfl) ?_
    refine z_callVv (As := [.int r]) (rest := []) (wr := [(a_tried, .inl (cA.1 0, 10, .inl g_tried)), (a_best, .inl (cA.1 0, 10, .inl g_best)), (a_found, .inl (cA.1 0, 10, .inl g_found)), (a_order, .inl (cA.1 0, 10, .inl g_order))]) ⟨hx, hb, hml, hown, hts⟩ hK hE hT hP hD hS hA (r_gather l G cA h0 0 0 m_above m_under a_traySort a_trayMany a_numbers a_tape m_taped m_textEnd m_faultKind m_faultAt m_bad m_badAt m_token m_at m_behind m_number m_letters m_word a_c a_words m_markMany a_there a_tried a_best a_found m_thereMany m_foundMany m_orderHow m_orderRing m_orderMany m_hasBest m_bestTop m_bestBy a_weights a_shared m_random m_truePlace m_trueWay m_seconds m_done m_feelings m_tries m_leftOver m_playDoor m_playRing m_isOpen m_isOver m_wasTried m_hasPlayed a_feltNow a_last a_kept m_hasSeconds m_hasTurned m_hasRound a_hasFeels a_isOn m_firstAct m_meanTop m_meanBy a_order m_rowMany m_newSteps g_c g_there r (by omega) hr_m_thereMany hC_g_c hC_g_there) lk_RX12_292 ⟨rfl, rfl⟩ ⟨Nat.le_of_ble_eq_true rfl, Nat.le_of_ble_eq_true rfl⟩ 12 rfl rfl rfl [5, 6, 0] [1, 2, 3, 4] rfl rfl (by decide) rfl hl.1 rfl (lv_room (Nat.le_of_ble_eq_true rfl)) dX12_laidForRound_26 ⟨Nat.le_of_ble_eq_true rfl, Nat.le_of_ble_eq_true rfl⟩ (fun u_14 H locs hw hP hD hS => ?_)
    obtain ⟨n_11, n_12⟩ := u_14
    try dsimp only at hw
    obtain ⟨he_n_11, he_n_12, hw⟩ := hw
    obtain ⟨hr_n_11, hC_n_12, hf_16, hf_17⟩ := hw
    refine lv_aload_n hx hb dX12_laidForRound_29 rfl (lv_at hl 0 rfl) ?_
    refine va_get (D := G) (ci := 12) (v := .int n_11) (C := RX12) (T := TX12) (N := 65) hx hb hts inT12 hown hK hP 4 rfl rfl 27 (by decide) (hts _ tw_1912) (fun _ h9 => h9) rfl dX12_laidForRound_30 ?_
    refine lv_bipush (v := 6) hx hb dX12_laidForRound_33 (by decide) ?_
    refine lv_icmp_le (tgt := 45) hx hb dX12_laidForRound_35 (by decide) (fun c_18 => ?_) (fun c_18 => ?_)
    · have b_19 := z_fleT c_18
      refine lv_aload_n hx hb dX12_laidForRound_45 rfl (lv_at hl 0 rfl) ?_
      refine va_get (D := G) (ci := 12) (v := .ref a_c) (C := RX12) (T := TX12) (N := 65) hx hb hts inT12 hown hK hP 4 rfl rfl 20 (by decide) (hts _ tw_1905) (fun _ h9 => h9) rfl dX12_laidForRound_46 ?_
      refine lv_iconst (v := 4) hx hb dX12_laidForRound_49 (by decide) ?_
      refine va_iald hx hb hK hP 5 0 rfl rfl (z_in (i := 4) (n := 1825) (by decide +kernel) (by decide +kernel)) dX12_laidForRound_50 ?_
      refine lv_topi (fun x_20 he_x_20 => ?_)
      have hr_x_20 := z_ctk hC_g_c he_x_20 (k := 4) (lo := 0) (hi := 12) (by decide +kernel) (by decide +kernel) (by decide +kernel)
      refine lv_if_eq (tgt := 61) hx hb dX12_laidForRound_51 (by decide) (fun c_21 => ?_) (fun c_21 => ?_)
      · have b_22 := z_feqT c_21
        refine lv_aload_n hx hb dX12_laidForRound_61 rfl (lv_at hl 0 rfl) ?_
        refine lv_bipush (v := 8) hx hb dX12_laidForRound_62 (by decide) ?_
        refine z_callVi (As := [.int 8]) (rest := []) (wr := [(a_tried, .inl (cA.1 0, 10, .inl g_tried)), (a_best, .inl (cA.1 0, 10, .inl g_best)), (a_found, .inl (cA.1 0, 10, .inl g_found)), (a_order, .inl (cA.1 0, 10, .inl g_order)), (a_c, .inl (cA.1 0, 1825, .inl g_c)), (a_there, .inl (cA.1 0, 10, .inl n_12))]) ⟨hx, hb, hml, hown, hts⟩ hK hE hT hP hD hS hA (r_refuse l G cA h0 0 0 m_above m_under a_traySort a_trayMany a_numbers a_tape m_taped m_textEnd m_faultKind m_faultAt m_bad m_badAt m_token m_at m_behind m_number m_letters m_word a_c a_words m_markMany a_there a_tried a_best a_found n_11 m_foundMany m_orderHow m_orderRing m_orderMany m_hasBest m_bestTop m_bestBy a_weights a_shared m_random m_truePlace m_trueWay m_seconds m_done m_feelings m_tries m_leftOver m_playDoor m_playRing m_isOpen m_isOver m_wasTried m_hasPlayed a_feltNow a_last a_kept m_hasSeconds m_hasTurned m_hasRound a_hasFeels a_isOn m_firstAct m_meanTop m_meanBy a_order m_rowMany m_newSteps 8) lk_RX12_269 ⟨rfl, rfl⟩ ⟨Nat.le_of_ble_eq_true rfl, Nat.le_of_ble_eq_true rfl⟩ 12 rfl rfl rfl [4] [0, 1, 2, 3, 5, 6] rfl rfl (by decide) rfl hl.1 rfl (lv_room (Nat.le_of_ble_eq_true rfl)) dX12_laidForRound_64 ⟨Nat.le_of_ble_eq_true rfl, Nat.le_of_ble_eq_true rfl⟩ (fun r_24 u_25 H locs hw hP hD hS => ?_)
        obtain ⟨n_23, rfl⟩ : ∃ z, z = u_25 := ⟨_, rfl⟩
        obtain ⟨he_r_24, he_n_23, hw⟩ := hw
        have hr_r_24 := hw
        have hpost : (0 ≤ (0 : Int32).toInt ∧ (0 : Int32).toInt ≤ 0) ∧ (0 ≤ n_11.toInt ∧ n_11.toInt ≤ 10) ∧ (zRg 10 0 9 n_12) ∧ (0 ≤ m_foundMany.toInt ∧ m_foundMany.toInt ≤ 10) ∧ (0 ≤ m_orderHow.toInt ∧ m_orderHow.toInt ≤ 2) ∧ (0 ≤ m_orderMany.toInt ∧ m_orderMany.toInt ≤ 10) ∧ (m_hasBest = 0 ∨ m_hasBest = 1) ∧ (0 ≤ m_hasBest.toInt ∧ m_hasBest.toInt ≤ 1) ∧ (zRg 10 0 9 g_tried) ∧ (zRg 10 0 9 g_best) ∧ (zRg 10 0 9 g_found) ∧ (zRg 10 0 9 g_order) := ⟨(by decide +kernel), hr_n_11, hC_n_12, hr_m_foundMany, hr_m_orderHow, hr_m_orderMany, hz_m_hasBest, hr_m_hasBest, hC_g_tried, hC_g_best, hC_g_found, hC_g_order⟩
        have hX_27 : F_r_laidForRound m_bestTop m_bestBy m_meanTop m_meanBy g_c g_there g_tried g_best g_found g_order r = (r_24 : Int32) := by
          refine (F_r_laidForRound_s ..).trans ?_
          extract_lets -merge -useContext +onlyGivenNames w9 y9; have e9 : (1 : Int32) = w9 := he_r_1; clear_value w9; subst e9
          refine (if_neg (show ¬ (1 : Int32) = 0 by decide)).trans ?_
          extract_lets -merge -useContext +onlyGivenNames w9 y2_0 y2_1; have e9 : (n_11, n_12) = w9 := ((z_tS he_n_11 he_n_12.symm)).symm; clear_value w9; subst e9
          refine (if_pos c_18).trans ?_
          try (extract_lets -merge -useContext +onlyGivenNames y9; have e9 : x_20 = y9 := (by first | exact he_x_20 | exact he_x_20.symm); clear_value y9; subst e9)
          refine (if_pos c_21).trans ?_
          extract_lets -merge -useContext +onlyGivenNames w9 y6_0 y6_1; have e9 : (r_24, n_23) = w9 := ((z_tS he_r_24 he_n_23.symm)).symm; clear_value w9; subst e9
          exact rfl
        exact hret _ _ _ _ _ _ (n_23, 0, n_11, n_12, m_foundMany, m_orderHow, m_orderMany, m_hasBest, m_bestTop, m_bestBy, m_meanTop, m_meanBy, g_tried, g_best, g_found, g_order) [6, 4, 5, 0, 1, 2, 3] hP hD hS rfl (by decide) dX12_laidForRound_67 ⟨(congrArg (fun z9 => z9) hX_27).symm, hpost⟩
      · have b_28 := z_fneF c_21
        refine lv_aload_n hx hb dX12_laidForRound_54 rfl (lv_at hl 0 rfl) ?_
        refine z_callVi (As := []) (rest := []) (wr := [(a_tried, .inl (cA.1 0, 10, .inl g_tried)), (a_best, .inl (cA.1 0, 10, .inl g_best)), (a_found, .inl (cA.1 0, 10, .inl g_found)), (a_order, .inl (cA.1 0, 10, .inl g_order))]) ⟨hx, hb, hml, hown, hts⟩ hK hE hT hP hD hS hA (r_walk l G cA h0 0 0 m_above m_under a_traySort a_trayMany a_numbers a_tape m_taped m_textEnd m_faultKind m_faultAt m_bad m_badAt m_token m_at m_behind m_number m_letters m_word a_c a_words m_markMany a_there a_tried a_best a_found n_11 m_foundMany m_orderHow m_orderRing m_orderMany m_hasBest m_bestTop m_bestBy a_weights a_shared m_random m_truePlace m_trueWay m_seconds m_done m_feelings m_tries m_leftOver m_playDoor m_playRing m_isOpen m_isOver m_wasTried m_hasPlayed a_feltNow a_last a_kept m_hasSeconds m_hasTurned m_hasRound a_hasFeels a_isOn m_firstAct m_meanTop m_meanBy a_order m_rowMany m_newSteps g_c n_12 hr_n_11 hC_g_c hC_n_12) lk_RX12_408 ⟨rfl, rfl⟩ ⟨Nat.le_of_ble_eq_true rfl, Nat.le_of_ble_eq_true rfl⟩ 12 rfl rfl rfl [4, 5, 6] [0, 1, 2, 3] rfl rfl (by decide) rfl hl.1 rfl (lv_room (Nat.le_of_ble_eq_true rfl)) dX12_laidForRound_55 ⟨Nat.le_of_ble_eq_true rfl, Nat.le_of_ble_eq_true rfl⟩ (fun r_29 u_30 H locs hw hP hD hS => ?_)
        obtain ⟨he_r_29, hw⟩ := hw
        refine lv_if_ge (tgt := 68) hx hb dX12_laidForRound_58 (by decide) (fun c_32 => ?_) (fun c_32 => ?_)
        · have b_33 := z_fgeT c_32
          refine lv_aload_n hx hb dX12_laidForRound_68 rfl (lv_at hl 0 rfl) ?_
          refine lv_iconst (v := 2) hx hb dX12_laidForRound_69 (by decide) ?_
          refine z_callVv (As := [.int 2]) (rest := []) (wr := []) ⟨hx, hb, hml, hown, hts⟩ hK hE hT hP hD hS hA (r_findOrder l G cA h0 0 0 m_above m_under a_traySort a_trayMany a_numbers a_tape m_taped m_textEnd m_faultKind m_faultAt m_bad m_badAt m_token m_at m_behind m_number m_letters m_word a_c a_words m_markMany a_there a_tried a_best a_found n_11 m_foundMany m_orderHow m_orderRing m_orderMany m_hasBest m_bestTop m_bestBy a_weights a_shared m_random m_truePlace m_trueWay m_seconds m_done m_feelings m_tries m_leftOver m_playDoor m_playRing m_isOpen m_isOver m_wasTried m_hasPlayed a_feltNow a_last a_kept m_hasSeconds m_hasTurned m_hasRound a_hasFeels a_isOn m_firstAct m_meanTop m_meanBy a_order m_rowMany m_newSteps g_c n_12 g_tried g_best g_found g_order 2 (by decide +kernel) (by omega) hr_m_foundMany hr_m_orderMany hr_m_orderHow hr_m_hasBest hz_m_hasBest hC_g_c hC_n_12 hC_g_tried hC_g_best hC_g_found hC_g_order (by omega)) lk_RX12_435 ⟨rfl, rfl⟩ ⟨Nat.le_of_ble_eq_true rfl, Nat.le_of_ble_eq_true rfl⟩ 12 rfl rfl rfl [4, 5, 6, 0, 1, 2, 3] [] rfl rfl (by decide) rfl hl.1 rfl (lv_room (Nat.le_of_ble_eq_true rfl)) dX12_laidForRound_70 ⟨Nat.le_of_ble_eq_true rfl, Nat.le_of_ble_eq_true rfl⟩ (fun u_48 H locs hw hP hD hS => ?_)
          obtain ⟨n_34, n_35, n_36, n_37, n_38, n_39, n_40, n_41, n_42, n_43, n_44, n_45, n_46⟩ := u_48
          try dsimp only at hw
          obtain ⟨he_n_34, he_n_35, he_n_36, he_n_37, he_n_38, he_n_39, he_n_40, he_n_41, he_n_42, he_n_43, he_n_44, he_n_45, he_n_46, hw⟩ := hw
          obtain ⟨hr_n_34, hr_n_35, hr_n_36, hz_n_37, hr_n_37, hC_n_42, hC_n_43, hC_n_44, hC_n_45, hC_n_46, hf_50⟩ := hw
          refine lv_aload_n hx hb dX12_laidForRound_73 rfl (lv_at hl 0 rfl) ?_
          refine va_get (D := G) (ci := 12) (v := .long n_38) (C := RX12) (T := TX12) (N := 65) hx hb hts inT12 hown hK hP 0 rfl rfl 33 (by decide) (hts _ tw_1917) (fun _ h9 => h9) rfl dX12_laidForRound_74 ?_
          refine lv_l2i (v := (n_38).toInt32) hx hb dX12_laidForRound_77 rfl ?_
          refine lv_topi (fun x_51 he_x_51 => ?_)
          have hpost : (0 ≤ (0 : Int32).toInt ∧ (0 : Int32).toInt ≤ 0) ∧ (0 ≤ n_11.toInt ∧ n_11.toInt ≤ 10) ∧ (zRg 10 0 9 n_42) ∧ (0 ≤ n_34.toInt ∧ n_34.toInt ≤ 10) ∧ (0 ≤ n_35.toInt ∧ n_35.toInt ≤ 2) ∧ (0 ≤ n_36.toInt ∧ n_36.toInt ≤ 10) ∧ (n_37 = 0 ∨ n_37 = 1) ∧ (0 ≤ n_37.toInt ∧ n_37.toInt ≤ 1) ∧ (zRg 10 0 9 n_45) ∧ (zRg 10 0 9 n_43) ∧ (zRg 10 0 9 n_46) ∧ (zRg 10 0 9 n_44) := ⟨(by decide +kernel), hr_n_11, hC_n_42, (z_rgw hr_n_34 (by decide) (by decide)), hr_n_35, (z_rgw hr_n_36 (by decide) (by decide)), hz_n_37, hr_n_37, hC_n_45, hC_n_43, hC_n_46, hC_n_44⟩
          have hX_52 : F_r_laidForRound m_bestTop m_bestBy m_meanTop m_meanBy g_c g_there g_tried g_best g_found g_order r = (x_51 : Int32) := by
            refine (F_r_laidForRound_s ..).trans ?_
            extract_lets -merge -useContext +onlyGivenNames w9 y9; have e9 : (1 : Int32) = w9 := he_r_1; clear_value w9; subst e9
            refine (if_neg (show ¬ (1 : Int32) = 0 by decide)).trans ?_
            extract_lets -merge -useContext +onlyGivenNames w9 y2_0 y2_1; have e9 : (n_11, n_12) = w9 := ((z_tS he_n_11 he_n_12.symm)).symm; clear_value w9; subst e9
            refine (if_pos c_18).trans ?_
            try (extract_lets -merge -useContext +onlyGivenNames y9; have e9 : x_20 = y9 := (by first | exact he_x_20 | exact he_x_20.symm); clear_value y9; subst e9)
            refine (if_neg c_21).trans ?_
            extract_lets -merge -useContext +onlyGivenNames w9 y9; have e9 : r_29 = w9 := he_r_29; clear_value w9; subst e9
            refine (if_pos c_32).trans ?_
            extract_lets -merge -useContext +onlyGivenNames w9 y8_0 y8_1 y8_2 y8_3 y8_4 y8_5 y8_6 y8_7 y8_8 y8_9 y8_10 y8_11 y8_12; have e9 : (n_34, n_35, n_36, n_37, n_38, n_39, n_40, n_41, n_42, n_43, n_44, n_45, n_46) = w9 := ((z_tS he_n_34 (z_tS he_n_35 (z_tS he_n_36 (z_tS he_n_37 (z_tS he_n_38 (z_tS he_n_39 (z_tS he_n_40 (z_tS he_n_41 (z_tS he_n_42 (z_tS he_n_43 (z_tS he_n_44 (z_tS he_n_45 he_n_46.symm))))))))))))).symm; clear_value w9; subst e9
            try (extract_lets -merge -useContext +onlyGivenNames y9; have e9 : x_51 = y9 := (by first | exact he_x_51 | exact he_x_51.symm); clear_value y9; subst e9)
            exact rfl
          exact hret _ _ _ _ _ _ (0, 0, n_11, n_42, n_34, n_35, n_36, n_37, n_38, n_39, n_40, n_41, n_45, n_43, n_46, n_44) [0, 1, 2, 3, 4, 5, 6] hP hD hS rfl (by decide) dX12_laidForRound_78 ⟨(congrArg (fun z9 => z9) hX_52).symm, hpost⟩
        · have b_53 := z_fltF c_32
          refine lv_aload_n hx hb dX12_laidForRound_61 rfl (lv_at hl 0 rfl) ?_
          refine lv_bipush (v := 8) hx hb dX12_laidForRound_62 (by decide) ?_
          refine z_callVi (As := [.int 8]) (rest := []) (wr := [(a_tried, .inl (cA.1 0, 10, .inl g_tried)), (a_best, .inl (cA.1 0, 10, .inl g_best)), (a_found, .inl (cA.1 0, 10, .inl g_found)), (a_order, .inl (cA.1 0, 10, .inl g_order)), (a_c, .inl (cA.1 0, 1825, .inl g_c)), (a_there, .inl (cA.1 0, 10, .inl n_12))]) ⟨hx, hb, hml, hown, hts⟩ hK hE hT hP hD hS hA (r_refuse l G cA h0 0 0 m_above m_under a_traySort a_trayMany a_numbers a_tape m_taped m_textEnd m_faultKind m_faultAt m_bad m_badAt m_token m_at m_behind m_number m_letters m_word a_c a_words m_markMany a_there a_tried a_best a_found n_11 m_foundMany m_orderHow m_orderRing m_orderMany m_hasBest m_bestTop m_bestBy a_weights a_shared m_random m_truePlace m_trueWay m_seconds m_done m_feelings m_tries m_leftOver m_playDoor m_playRing m_isOpen m_isOver m_wasTried m_hasPlayed a_feltNow a_last a_kept m_hasSeconds m_hasTurned m_hasRound a_hasFeels a_isOn m_firstAct m_meanTop m_meanBy a_order m_rowMany m_newSteps 8) lk_RX12_269 ⟨rfl, rfl⟩ ⟨Nat.le_of_ble_eq_true rfl, Nat.le_of_ble_eq_true rfl⟩ 12 rfl rfl rfl [4] [0, 1, 2, 3, 5, 6] rfl rfl (by decide) rfl hl.1 rfl (lv_room (Nat.le_of_ble_eq_true rfl)) dX12_laidForRound_64 ⟨Nat.le_of_ble_eq_true rfl, Nat.le_of_ble_eq_true rfl⟩ (fun r_55 u_56 H locs hw hP hD hS => ?_)
          obtain ⟨n_54, rfl⟩ : ∃ z, z = u_56 := ⟨_, rfl⟩
          obtain ⟨he_r_55, he_n_54, hw⟩ := hw
          have hr_r_55 := hw
          have hpost : (0 ≤ (0 : Int32).toInt ∧ (0 : Int32).toInt ≤ 0) ∧ (0 ≤ n_11.toInt ∧ n_11.toInt ≤ 10) ∧ (zRg 10 0 9 n_12) ∧ (0 ≤ m_foundMany.toInt ∧ m_foundMany.toInt ≤ 10) ∧ (0 ≤ m_orderHow.toInt ∧ m_orderHow.toInt ≤ 2) ∧ (0 ≤ m_orderMany.toInt ∧ m_orderMany.toInt ≤ 10) ∧ (m_hasBest = 0 ∨ m_hasBest = 1) ∧ (0 ≤ m_hasBest.toInt ∧ m_hasBest.toInt ≤ 1) ∧ (zRg 10 0 9 g_tried) ∧ (zRg 10 0 9 g_best) ∧ (zRg 10 0 9 g_found) ∧ (zRg 10 0 9 g_order) := ⟨(by decide +kernel), hr_n_11, hC_n_12, hr_m_foundMany, hr_m_orderHow, hr_m_orderMany, hz_m_hasBest, hr_m_hasBest, hC_g_tried, hC_g_best, hC_g_found, hC_g_order⟩
          have hX_58 : F_r_laidForRound m_bestTop m_bestBy m_meanTop m_meanBy g_c g_there g_tried g_best g_found g_order r = (r_55 : Int32) := by
            refine (F_r_laidForRound_s ..).trans ?_
            extract_lets -merge -useContext +onlyGivenNames w9 y9; have e9 : (1 : Int32) = w9 := he_r_1; clear_value w9; subst e9
            refine (if_neg (show ¬ (1 : Int32) = 0 by decide)).trans ?_
            extract_lets -merge -useContext +onlyGivenNames w9 y2_0 y2_1; have e9 : (n_11, n_12) = w9 := ((z_tS he_n_11 he_n_12.symm)).symm; clear_value w9; subst e9
            refine (if_pos c_18).trans ?_
            try (extract_lets -merge -useContext +onlyGivenNames y9; have e9 : x_20 = y9 := (by first | exact he_x_20 | exact he_x_20.symm); clear_value y9; subst e9)
            refine (if_neg c_21).trans ?_
            extract_lets -merge -useContext +onlyGivenNames w9 y9; have e9 : r_29 = w9 := he_r_29; clear_value w9; subst e9
            refine (if_neg c_32).trans ?_
            extract_lets -merge -useContext +onlyGivenNames w9 y8_0 y8_1; have e9 : (r_55, n_54) = w9 := ((z_tS he_r_55 he_n_54.symm)).symm; clear_value w9; subst e9
            exact rfl
          exact hret _ _ _ _ _ _ (n_54, 0, n_11, n_12, m_foundMany, m_orderHow, m_orderMany, m_hasBest, m_bestTop, m_bestBy, m_meanTop, m_meanBy, g_tried, g_best, g_found, g_order) [6, 4, 5, 0, 1, 2, 3] hP hD hS rfl (by decide) dX12_laidForRound_67 ⟨(congrArg (fun z9 => z9) hX_58).symm, hpost⟩
    · have b_59 := z_fgtF c_18
      refine lv_aload_n hx hb dX12_laidForRound_38 rfl (lv_at hl 0 rfl) ?_
      refine lv_bipush (v := 7) hx hb dX12_laidForRound_39 (by decide) ?_
      refine z_callVi (As := [.int 7]) (rest := []) (wr := [(a_tried, .inl (cA.1 0, 10, .inl g_tried)), (a_best, .inl (cA.1 0, 10, .inl g_best)), (a_found, .inl (cA.1 0, 10, .inl g_found)), (a_order, .inl (cA.1 0, 10, .inl g_order)), (a_c, .inl (cA.1 0, 1825, .inl g_c)), (a_there, .inl (cA.1 0, 10, .inl n_12))]) ⟨hx, hb, hml, hown, hts⟩ hK hE hT hP hD hS hA (r_refuse l G cA h0 0 0 m_above m_under a_traySort a_trayMany a_numbers a_tape m_taped m_textEnd m_faultKind m_faultAt m_bad m_badAt m_token m_at m_behind m_number m_letters m_word a_c a_words m_markMany a_there a_tried a_best a_found n_11 m_foundMany m_orderHow m_orderRing m_orderMany m_hasBest m_bestTop m_bestBy a_weights a_shared m_random m_truePlace m_trueWay m_seconds m_done m_feelings m_tries m_leftOver m_playDoor m_playRing m_isOpen m_isOver m_wasTried m_hasPlayed a_feltNow a_last a_kept m_hasSeconds m_hasTurned m_hasRound a_hasFeels a_isOn m_firstAct m_meanTop m_meanBy a_order m_rowMany m_newSteps 7) lk_RX12_269 ⟨rfl, rfl⟩ ⟨Nat.le_of_ble_eq_true rfl, Nat.le_of_ble_eq_true rfl⟩ 12 rfl rfl rfl [4] [0, 1, 2, 3, 5, 6] rfl rfl (by decide) rfl hl.1 rfl (lv_room (Nat.le_of_ble_eq_true rfl)) dX12_laidForRound_41 ⟨Nat.le_of_ble_eq_true rfl, Nat.le_of_ble_eq_true rfl⟩ (fun r_61 u_62 H locs hw hP hD hS => ?_)
      obtain ⟨n_60, rfl⟩ : ∃ z, z = u_62 := ⟨_, rfl⟩
      obtain ⟨he_r_61, he_n_60, hw⟩ := hw
      have hr_r_61 := hw
      have hpost : (0 ≤ (0 : Int32).toInt ∧ (0 : Int32).toInt ≤ 0) ∧ (0 ≤ n_11.toInt ∧ n_11.toInt ≤ 10) ∧ (zRg 10 0 9 n_12) ∧ (0 ≤ m_foundMany.toInt ∧ m_foundMany.toInt ≤ 10) ∧ (0 ≤ m_orderHow.toInt ∧ m_orderHow.toInt ≤ 2) ∧ (0 ≤ m_orderMany.toInt ∧ m_orderMany.toInt ≤ 10) ∧ (m_hasBest = 0 ∨ m_hasBest = 1) ∧ (0 ≤ m_hasBest.toInt ∧ m_hasBest.toInt ≤ 1) ∧ (zRg 10 0 9 g_tried) ∧ (zRg 10 0 9 g_best) ∧ (zRg 10 0 9 g_found) ∧ (zRg 10 0 9 g_order) := ⟨(by decide +kernel), hr_n_11, hC_n_12, hr_m_foundMany, hr_m_orderHow, hr_m_orderMany, hz_m_hasBest, hr_m_hasBest, hC_g_tried, hC_g_best, hC_g_found, hC_g_order⟩
      have hX_64 : F_r_laidForRound m_bestTop m_bestBy m_meanTop m_meanBy g_c g_there g_tried g_best g_found g_order r = (r_61 : Int32) := by
        refine (F_r_laidForRound_s ..).trans ?_
        extract_lets -merge -useContext +onlyGivenNames w9 y9; have e9 : (1 : Int32) = w9 := he_r_1; clear_value w9; subst e9
        refine (if_neg (show ¬ (1 : Int32) = 0 by decide)).trans ?_
        extract_lets -merge -useContext +onlyGivenNames w9 y2_0 y2_1; have e9 : (n_11, n_12) = w9 := ((z_tS he_n_11 he_n_12.symm)).symm; clear_value w9; subst e9
        refine (if_neg c_18).trans ?_
        extract_lets -merge -useContext +onlyGivenNames w9 y4_0 y4_1; have e9 : (r_61, n_60) = w9 := ((z_tS he_r_61 he_n_60.symm)).symm; clear_value w9; subst e9
        exact rfl
      exact hret _ _ _ _ _ _ (n_60, 0, n_11, n_12, m_foundMany, m_orderHow, m_orderMany, m_hasBest, m_bestTop, m_bestBy, m_meanTop, m_meanBy, g_tried, g_best, g_found, g_order) [6, 4, 5, 0, 1, 2, 3] hP hD hS rfl (by decide) dX12_laidForRound_44 ⟨(congrArg (fun z9 => z9) hX_64).symm, hpost⟩
set_option maxHeartbeats 4000000 in
set_option maxRecDepth 100000 in
theorem r_found (l : Launch) (G : va_G) (cA : zCA) (h0 : Nat) (m_status : Int32) (m_thrown : Int32) (m_above : Int64) (m_under : Int64) (a_traySort : Nat) (a_trayMany : Nat) (a_numbers : Nat) (a_tape : Nat) (m_taped : Int32) (m_textEnd : Int32) (m_faultKind : Int32) (m_faultAt : Int32) (m_bad : Int32) (m_badAt : Int32) (m_token : Int32) (m_at : Int32) (m_behind : Int32) (m_number : Int32) (m_letters : Int32) (m_word : Int64) (a_c : Nat) (a_words : Nat) (m_markMany : Int32) (a_there : Nat) (a_tried : Nat) (a_best : Nat) (a_found : Nat) (m_thereMany : Int32) (m_foundMany : Int32) (m_orderHow : Int32) (m_orderRing : Int32) (m_orderMany : Int32) (m_hasBest : Int32) (m_bestTop : Int64) (m_bestBy : Int64) (a_weights : Nat) (a_shared : Nat) (m_random : Int32) (m_truePlace : Int32) (m_trueWay : Int32) (m_seconds : Int32) (m_done : Int32) (m_feelings : Int32) (m_tries : Int32) (m_leftOver : Int32) (m_playDoor : Int32) (m_playRing : Int32) (m_isOpen : Int32) (m_isOver : Int32) (m_wasTried : Int32) (m_hasPlayed : Int32) (a_feltNow : Nat) (a_last : Nat) (a_kept : Nat) (m_hasSeconds : Int32) (m_hasTurned : Int32) (m_hasRound : Int32) (a_hasFeels : Nat) (a_isOn : Nat) (m_firstAct : Int32) (m_meanTop : Int64) (m_meanBy : Int64) (a_order : Nat) (m_rowMany : Int32) (m_newSteps : Int32) (g_found : Nat → Int32) (k : Int32) (hr_m_foundMany : 0 ≤ m_foundMany.toInt ∧ m_foundMany.toInt ≤ 10) (hC_g_found : zRg 10 0 9 g_found) : zCi l yX12_found cX12_found 2 (some .int) ({ frames := 1, cells := 0, slots := 0, locals := 25 }) G cA [.ref h0, .int k] [(h0, .inr (12, [.int m_status, .int m_thrown, .long m_above, .long m_under, .ref a_traySort, .ref a_trayMany, .ref a_numbers, .ref a_tape, .int m_taped, .int m_textEnd, .int m_faultKind, .int m_faultAt, .int m_bad, .int m_badAt, .int m_token, .int m_at, .int m_behind, .int m_number, .int m_letters, .long m_word, .ref a_c, .ref a_words, .int m_markMany, .ref a_there, .ref a_tried, .ref a_best, .ref a_found, .int m_thereMany, .int m_foundMany, .int m_orderHow, .int m_orderRing, .int m_orderMany, .int m_hasBest, .long m_bestTop, .long m_bestBy, .ref a_weights, .ref a_shared, .int m_random, .int m_truePlace, .int m_trueWay, .int m_seconds, .int m_done, .int m_feelings, .int m_tries, .int m_leftOver, .int m_playDoor, .int m_playRing, .int m_isOpen, .int m_isOver, .int m_wasTried, .int m_hasPlayed, .ref a_feltNow, .ref a_last, .ref a_kept, .int m_hasSeconds, .int m_hasTurned, .int m_hasRound, .ref a_hasFeels, .ref a_isOn, .int m_firstAct, .long m_meanTop, .long m_meanBy, .ref a_order, .int m_rowMany, .int m_newSteps])), (a_found, .inl (cA.1 0, 10, .inl g_found))] (S := Int32 × Int32) (fun (r : Int32) (u : Int32 × Int32) => ((-1) ≤ r.toInt ∧ r.toInt ≤ 9) ∧ (0 ≤ u.2.toInt ∧ u.2.toInt ≤ 0)) (fun (u : Int32 × Int32) => [(h0, .inr (12, [.int u.1, .int u.2, .long m_above, .long m_under, .ref a_traySort, .ref a_trayMany, .ref a_numbers, .ref a_tape, .int m_taped, .int m_textEnd, .int m_faultKind, .int m_faultAt, .int m_bad, .int m_badAt, .int m_token, .int m_at, .int m_behind, .int m_number, .int m_letters, .long m_word, .ref a_c, .ref a_words, .int m_markMany, .ref a_there, .ref a_tried, .ref a_best, .ref a_found, .int m_thereMany, .int m_foundMany, .int m_orderHow, .int m_orderRing, .int m_orderMany, .int m_hasBest, .long m_bestTop, .long m_bestBy, .ref a_weights, .ref a_shared, .int m_random, .int m_truePlace, .int m_trueWay, .int m_seconds, .int m_done, .int m_feelings, .int m_tries, .int m_leftOver, .int m_playDoor, .int m_playRing, .int m_isOpen, .int m_isOver, .int m_wasTried, .int m_hasPlayed, .ref a_feltNow, .ref a_last, .ref a_kept, .int m_hasSeconds, .int m_hasTurned, .int m_hasRound, .ref a_hasFeels, .ref a_isOn, .int m_firstAct, .long m_meanTop, .long m_meanBy, .ref a_order, .int m_rowMany, .int m_newSteps])), (a_found, .inl (cA.1 0, 10, .inl g_found))]) 0 0 := by
  have hk_1 : (1 : Int32).toInt = 1 := by decide +kernel
  have hk_8 : (8 : Int32).toInt = 8 := by decide +kernel
  have hkl_0 : (0 : Int64).toInt = 0 := by decide +kernel
  refine z_start2i (own := RX12) (by decide) (Nat.le_of_ble_eq_true rfl) rfl ?_
  intro p e s m args below meth c A ls Q hx hb hml hts hown hK hE hT hP hD hS hA hl hret
  have hl : lv_has ls 2 [(0, .ref h0), (1, .int k)] := hl
  refine lv_aload_n hx hb dX12_found_0 rfl (lv_at hl 0 rfl) ?_
  refine lv_iconst (v := 0) hx hb dX12_found_1 (by decide) ?_
  refine va_put (D := G) (ci := 12) (v := .int 0) (ty := .int) (C := RX12) (T := TX12) (N := 65) hx hb hts inT12 tyX12 tyX12_ok nmX12 hown hK hP hD hS 0 rfl rfl 1 (by decide) (hts _ tw_1886) (fun _ h9 => h9) rfl (tyX12_ok 1 (by decide)) rfl rfl (Nat.le_of_ble_eq_true rfl) dX12_found_2 (fun H locs hP hD hS => ?_)
  refine lv_aload_n hx hb dX12_found_5 rfl (lv_at hl 0 rfl) ?_
  refine lv_iconst (v := 0) hx hb dX12_found_6 (by decide) ?_
  refine va_put (D := G) (ci := 12) (v := .int 0) (ty := .int) (C := RX12) (T := TX12) (N := 65) hx hb hts inT12 tyX12 tyX12_ok nmX12 hown hK hP hD hS 0 rfl rfl 0 (by decide) (hts _ tw_1885) (fun _ h9 => h9) rfl (tyX12_ok 0 (by decide)) rfl rfl (Nat.le_of_ble_eq_true rfl) dX12_found_7 (fun H locs hP hD hS => ?_)
  refine lv_iload_n hx hb dX12_found_10 rfl (lv_at hl 1 rfl) ?_
  refine lv_i2l (v := (k).toInt64) hx hb dX12_found_11 rfl ?_
  refine lv_topl (fun x_1 he_x_1 => ?_)
  have hq_x_1 := z_i2l he_x_1
  have hL_k := z_full k
  refine lv_lconst (v := 0) hx hb dX12_found_12 (by decide) ?_
  refine lv_aload_n hx hb dX12_found_13 rfl (lv_at hl 0 rfl) ?_
  refine va_get (D := G) (ci := 12) (v := .int m_foundMany) (C := RX12) (T := TX12) (N := 65) hx hb hts inT12 hown hK hP 0 rfl rfl 28 (by decide) (hts _ tw_1913) (fun _ h9 => h9) rfl dX12_found_14 ?_
  refine lv_iconst (v := 1) hx hb dX12_found_17 (by decide) ?_
  refine lv_isub hx hb dX12_found_18 ?_
  refine lv_topi (fun x_2 he_x_2 => ?_)
  have hq_x_2 := z_subq he_x_2 (rfl : m_foundMany.toInt = _) hk_1 (by omega) (by omega)
  refine lv_i2l (v := (x_2).toInt64) hx hb dX12_found_19 rfl ?_
  refine lv_topl (fun x_3 he_x_3 => ?_)
  have hq_x_3 := z_i2l he_x_3
  refine z_callSi (As := [.long x_1, .long 0, .long x_3]) (rest := []) (wr := [(h0, .inr (12, [.int 0, .int 0, .long m_above, .long m_under, .ref a_traySort, .ref a_trayMany, .ref a_numbers, .ref a_tape, .int m_taped, .int m_textEnd, .int m_faultKind, .int m_faultAt, .int m_bad, .int m_badAt, .int m_token, .int m_at, .int m_behind, .int m_number, .int m_letters, .long m_word, .ref a_c, .ref a_words, .int m_markMany, .ref a_there, .ref a_tried, .ref a_best, .ref a_found, .int m_thereMany, .int m_foundMany, .int m_orderHow, .int m_orderRing, .int m_orderMany, .int m_hasBest, .long m_bestTop, .long m_bestBy, .ref a_weights, .ref a_shared, .int m_random, .int m_truePlace, .int m_trueWay, .int m_seconds, .int m_done, .int m_feelings, .int m_tries, .int m_leftOver, .int m_playDoor, .int m_playRing, .int m_isOpen, .int m_isOver, .int m_wasTried, .int m_hasPlayed, .ref a_feltNow, .ref a_last, .ref a_kept, .int m_hasSeconds, .int m_hasTurned, .int m_hasRound, .ref a_hasFeels, .ref a_isOn, .int m_firstAct, .long m_meanTop, .long m_meanBy, .ref a_order, .int m_rowMany, .int m_newSteps])), (a_found, .inl (cA.1 0, 10, .inl g_found))]) ⟨hx, hb, hml, hown, hts⟩ hK hE hT hP hD hS hA (r_isIn l G cA x_1 0 x_3) lk_RX12_117 ⟨rfl, rfl⟩ ⟨Nat.le_of_ble_eq_true rfl, Nat.le_of_ble_eq_true rfl⟩ [] [0, 1] rfl rfl (by decide) rfl hl.1 rfl (lv_room (Nat.le_of_ble_eq_true rfl)) dX12_found_20 ⟨Nat.le_of_ble_eq_true rfl, Nat.le_of_ble_eq_true rfl⟩ (fun r_4 u_5 H locs hw hP hD hS => ?_)
  obtain ⟨he_r_4, hw⟩ := hw
  rcases hw with ⟨rfl, hf_6⟩ | ⟨rfl, hf_7⟩
  · skip
    refine lv_if_eq (tgt := 35) hx hb dX12_found_23 (by decide) (fun _ => ?_) (fun h9 => absurd (by decide +kernel) h9)
    refine lv_aload_n hx hb dX12_found_35 rfl (lv_at hl 0 rfl) ?_
    refine lv_bipush (v := 8) hx hb dX12_found_36 (by decide) ?_
    refine z_callVi (As := [.int 8]) (rest := []) (wr := [(a_found, .inl (cA.1 0, 10, .inl g_found))]) ⟨hx, hb, hml, hown, hts⟩ hK hE hT hP hD hS hA (r_refuse l G cA h0 0 0 m_above m_under a_traySort a_trayMany a_numbers a_tape m_taped m_textEnd m_faultKind m_faultAt m_bad m_badAt m_token m_at m_behind m_number m_letters m_word a_c a_words m_markMany a_there a_tried a_best a_found m_thereMany m_foundMany m_orderHow m_orderRing m_orderMany m_hasBest m_bestTop m_bestBy a_weights a_shared m_random m_truePlace m_trueWay m_seconds m_done m_feelings m_tries m_leftOver m_playDoor m_playRing m_isOpen m_isOver m_wasTried m_hasPlayed a_feltNow a_last a_kept m_hasSeconds m_hasTurned m_hasRound a_hasFeels a_isOn m_firstAct m_meanTop m_meanBy a_order m_rowMany m_newSteps 8) lk_RX12_269 ⟨rfl, rfl⟩ ⟨Nat.le_of_ble_eq_true rfl, Nat.le_of_ble_eq_true rfl⟩ 12 rfl rfl rfl [0] [1] rfl rfl (by decide) rfl hl.1 rfl (lv_room (Nat.le_of_ble_eq_true rfl)) dX12_found_38 ⟨Nat.le_of_ble_eq_true rfl, Nat.le_of_ble_eq_true rfl⟩ (fun r_9 u_10 H locs hw hP hD hS => ?_)
    obtain ⟨n_8, rfl⟩ : ∃ z, z = u_10 := ⟨_, rfl⟩
    obtain ⟨he_r_9, he_n_8, hw⟩ := hw
    have hr_r_9 := hw
    have hpost : ((-1) ≤ r_9.toInt ∧ r_9.toInt ≤ 9) ∧ (0 ≤ (0 : Int32).toInt ∧ (0 : Int32).toInt ≤ 0) := ⟨(z_rgw hr_r_9 (by decide) (by decide)), (by decide +kernel)⟩
    exact hret _ _ _ _ _ _ (n_8, 0) [1, 0] hP hD hS rfl (by decide) dX12_found_41 hpost
  · skip
    refine lv_if_eq (tgt := 35) hx hb dX12_found_23 (by decide) (fun h9 => absurd h9 (by decide +kernel)) (fun _ => ?_)
    refine lv_aload_n hx hb dX12_found_26 rfl (lv_at hl 0 rfl) ?_
    refine va_get (D := G) (ci := 12) (v := .ref a_found) (C := RX12) (T := TX12) (N := 65) hx hb hts inT12 hown hK hP 0 rfl rfl 26 (by decide) (hts _ tw_1911) (fun _ h9 => h9) rfl dX12_found_27 ?_
    refine lv_iload_n hx hb dX12_found_30 rfl (lv_at hl 1 rfl) ?_
    refine va_iald hx hb hK hP 1 0 rfl rfl (z_inN (by omega) (by omega)) dX12_found_31 ?_
    refine lv_topi (fun x_11 he_x_11 => ?_)
    have hr_x_11 := z_rg hC_g_found he_x_11 (by omega) (by omega)
    refine lv_goto (tgt := 41) hx hb dX12_found_32 (by decide) ?_
    have hpost : ((-1) ≤ x_11.toInt ∧ x_11.toInt ≤ 9) ∧ (0 ≤ (0 : Int32).toInt ∧ (0 : Int32).toInt ≤ 0) := ⟨(z_rgw hr_x_11 (by decide) (by decide)), (by decide +kernel)⟩
    exact hret _ _ _ _ _ _ (0, 0) [0, 1] hP hD hS rfl (by decide) dX12_found_41 hpost
set_option maxHeartbeats 40000000 in
set_option maxRecDepth 100000 in
theorem r_differ (l : Launch) (G : va_G) (cA : zCA) (h0 : Nat) (m_status : Int32) (m_thrown : Int32) (m_above : Int64) (m_under : Int64) (a_traySort : Nat) (a_trayMany : Nat) (a_numbers : Nat) (a_tape : Nat) (m_taped : Int32) (m_textEnd : Int32) (m_faultKind : Int32) (m_faultAt : Int32) (m_bad : Int32) (m_badAt : Int32) (m_token : Int32) (m_at : Int32) (m_behind : Int32) (m_number : Int32) (m_letters : Int32) (m_word : Int64) (a_c : Nat) (a_words : Nat) (m_markMany : Int32) (a_there : Nat) (a_tried : Nat) (a_best : Nat) (a_found : Nat) (m_thereMany : Int32) (m_foundMany : Int32) (m_orderHow : Int32) (m_orderRing : Int32) (m_orderMany : Int32) (m_hasBest : Int32) (m_bestTop : Int64) (m_bestBy : Int64) (a_weights : Nat) (a_shared : Nat) (m_random : Int32) (m_truePlace : Int32) (m_trueWay : Int32) (m_seconds : Int32) (m_done : Int32) (m_feelings : Int32) (m_tries : Int32) (m_leftOver : Int32) (m_playDoor : Int32) (m_playRing : Int32) (m_isOpen : Int32) (m_isOver : Int32) (m_wasTried : Int32) (m_hasPlayed : Int32) (a_feltNow : Nat) (a_last : Nat) (a_kept : Nat) (m_hasSeconds : Int32) (m_hasTurned : Int32) (m_hasRound : Int32) (a_hasFeels : Nat) (a_isOn : Nat) (m_firstAct : Int32) (m_meanTop : Int64) (m_meanBy : Int64) (a_order : Nat) (m_rowMany : Int32) (m_newSteps : Int32) (g_c : Nat → Int32) (k : Int32) (w : Int32) (j : Int32) (v : Int32) (x : Int32) (hr_k : 0 ≤ k.toInt ∧ k.toInt ≤ 9) (hr_w : 0 ≤ w.toInt ∧ w.toInt ≤ 1) (hr_j : 0 ≤ j.toInt ∧ j.toInt ≤ 9) (hr_v : 0 ≤ v.toInt ∧ v.toInt ≤ 1) (hC_g_c : zC g_c) : zCi l yX12_differ cX12_differ 7 (some .boolean) ({ frames := 1, cells := 0, slots := 0, locals := 24 }) G cA [.ref h0, .int k, .int w, .int j, .int v, .int x] [(h0, .inr (12, [.int m_status, .int m_thrown, .long m_above, .long m_under, .ref a_traySort, .ref a_trayMany, .ref a_numbers, .ref a_tape, .int m_taped, .int m_textEnd, .int m_faultKind, .int m_faultAt, .int m_bad, .int m_badAt, .int m_token, .int m_at, .int m_behind, .int m_number, .int m_letters, .long m_word, .ref a_c, .ref a_words, .int m_markMany, .ref a_there, .ref a_tried, .ref a_best, .ref a_found, .int m_thereMany, .int m_foundMany, .int m_orderHow, .int m_orderRing, .int m_orderMany, .int m_hasBest, .long m_bestTop, .long m_bestBy, .ref a_weights, .ref a_shared, .int m_random, .int m_truePlace, .int m_trueWay, .int m_seconds, .int m_done, .int m_feelings, .int m_tries, .int m_leftOver, .int m_playDoor, .int m_playRing, .int m_isOpen, .int m_isOver, .int m_wasTried, .int m_hasPlayed, .ref a_feltNow, .ref a_last, .ref a_kept, .int m_hasSeconds, .int m_hasTurned, .int m_hasRound, .ref a_hasFeels, .ref a_isOn, .int m_firstAct, .long m_meanTop, .long m_meanBy, .ref a_order, .int m_rowMany, .int m_newSteps])), (a_c, .inl (cA.1 0, 1825, .inl g_c))] (S := Unit) (fun (r : Int32) (u : Unit) => (r = (F_r_differ g_c k w j v x)) ∧ ((r = 0 ∧ True) ∨ (r = 1 ∧ True))) (fun (u : Unit) => [(h0, .inr (12, [.int m_status, .int m_thrown, .long m_above, .long m_under, .ref a_traySort, .ref a_trayMany, .ref a_numbers, .ref a_tape, .int m_taped, .int m_textEnd, .int m_faultKind, .int m_faultAt, .int m_bad, .int m_badAt, .int m_token, .int m_at, .int m_behind, .int m_number, .int m_letters, .long m_word, .ref a_c, .ref a_words, .int m_markMany, .ref a_there, .ref a_tried, .ref a_best, .ref a_found, .int m_thereMany, .int m_foundMany, .int m_orderHow, .int m_orderRing, .int m_orderMany, .int m_hasBest, .long m_bestTop, .long m_bestBy, .ref a_weights, .ref a_shared, .int m_random, .int m_truePlace, .int m_trueWay, .int m_seconds, .int m_done, .int m_feelings, .int m_tries, .int m_leftOver, .int m_playDoor, .int m_playRing, .int m_isOpen, .int m_isOver, .int m_wasTried, .int m_hasPlayed, .ref a_feltNow, .ref a_last, .ref a_kept, .int m_hasSeconds, .int m_hasTurned, .int m_hasRound, .ref a_hasFeels, .ref a_isOn, .int m_firstAct, .long m_meanTop, .long m_meanBy, .ref a_order, .int m_rowMany, .int m_newSteps])), (a_c, .inl (cA.1 0, 1825, .inl g_c))]) 0 0 := by
  have hk_0 : (0 : Int32).toInt = 0 := by decide +kernel
  have hk_1 : (1 : Int32).toInt = 1 := by decide +kernel
  refine z_start2z (own := RX12) (by decide) (Nat.le_of_ble_eq_true rfl) rfl ?_
  intro p e s m args below meth c A ls Q hx hb hml hts hown hK hE hT hP hD hS hA hl hret
  have hl : lv_has ls 7 [(0, .ref h0), (1, .int k), (2, .int w), (3, .int j), (4, .int v), (5, .int x)] := hl
  refine lv_iconst (v := 0) hx hb dX12_differ_0 (by decide) ?_
  refine lv_istore (lv' := [(6, .int 0), (0, .ref h0), (1, .int k), (2, .int w), (3, .int j), (4, .int v), (5, .int x)]) hx hb dX12_differ_1 hl (by decide) rfl (fun ls hl => ?_)
  have hlp_135 : ∀ (n_L3a : Nat) (v_90 : Int32) (H : Heap) (locs : List Loc) (ls : Array Slot), (2147483647 - v_90.toInt).toNat < n_L3a → (0 ≤ v_90.toInt ∧ v_90.toInt ≤ 3) → (F_r_differ g_c k w j v x = F_r_differ_L3a g_c k w j v x n_L3a v_90) → va_P G vwCl [(h0, .inr (12, [.int m_status, .int m_thrown, .long m_above, .long m_under, .ref a_traySort, .ref a_trayMany, .ref a_numbers, .ref a_tape, .int m_taped, .int m_textEnd, .int m_faultKind, .int m_faultAt, .int m_bad, .int m_badAt, .int m_token, .int m_at, .int m_behind, .int m_number, .int m_letters, .long m_word, .ref a_c, .ref a_words, .int m_markMany, .ref a_there, .ref a_tried, .ref a_best, .ref a_found, .int m_thereMany, .int m_foundMany, .int m_orderHow, .int m_orderRing, .int m_orderMany, .int m_hasBest, .long m_bestTop, .long m_bestBy, .ref a_weights, .ref a_shared, .int m_random, .int m_truePlace, .int m_trueWay, .int m_seconds, .int m_done, .int m_feelings, .int m_tries, .int m_leftOver, .int m_playDoor, .int m_playRing, .int m_isOpen, .int m_isOver, .int m_wasTried, .int m_hasPlayed, .ref a_feltNow, .ref a_last, .ref a_kept, .int m_hasSeconds, .int m_hasTurned, .int m_hasRound, .ref a_hasFeels, .ref a_isOn, .int m_firstAct, .long m_meanTop, .long m_meanBy, .ref a_order, .int m_rowMany, .int m_newSteps])), (a_c, .inl (cA.1 0, 1825, .inl g_c))] H → va_D A [(h0, .inr (12, [.int m_status, .int m_thrown, .long m_above, .long m_under, .ref a_traySort, .ref a_trayMany, .ref a_numbers, .ref a_tape, .int m_taped, .int m_textEnd, .int m_faultKind, .int m_faultAt, .int m_bad, .int m_badAt, .int m_token, .int m_at, .int m_behind, .int m_number, .int m_letters, .long m_word, .ref a_c, .ref a_words, .int m_markMany, .ref a_there, .ref a_tried, .ref a_best, .ref a_found, .int m_thereMany, .int m_foundMany, .int m_orderHow, .int m_orderRing, .int m_orderMany, .int m_hasBest, .long m_bestTop, .long m_bestBy, .ref a_weights, .ref a_shared, .int m_random, .int m_truePlace, .int m_trueWay, .int m_seconds, .int m_done, .int m_feelings, .int m_tries, .int m_leftOver, .int m_playDoor, .int m_playRing, .int m_isOpen, .int m_isOver, .int m_wasTried, .int m_hasPlayed, .ref a_feltNow, .ref a_last, .ref a_kept, .int m_hasSeconds, .int m_hasTurned, .int m_hasRound, .ref a_hasFeels, .ref a_isOn, .int m_firstAct, .long m_meanTop, .long m_meanBy, .ref a_order, .int m_rowMany, .int m_newSteps])), (a_c, .inl (cA.1 0, 1825, .inl g_c))] → va_S A s.heap H locs → lv_has ls 7 [(0, .ref h0), (1, .int k), (2, .int w), (3, .int j), (4, .int v), (5, .int x), (6, .int v_90)] → W p l e ({ frames := 1, cells := 0, slots := 0, locals := 24 }) s m args below meth c H locs 0 0 Q (F0 m 3 ls []) := by
    intro n_L3a
    induction n_L3a with
    | zero =>
      intro v_90 H locs ls hmu_hlp_135 hr_v_90 hF_L3a hP hD hS hl
      exact absurd hmu_hlp_135 (Nat.not_lt_zero _)
    | succ n_L3a ih_136 =>
      intro v_90 H locs ls hmu_hlp_135 hr_v_90 hF_L3a hP hD hS hl
      refine lv_iload hx hb dX12_differ_3 (lv_at hl 6 rfl) ?_
      refine lv_aload_n hx hb dX12_differ_5 rfl (lv_at hl 0 rfl) ?_
      refine va_get (D := G) (ci := 12) (v := .ref a_c) (C := RX12) (T := TX12) (N := 65) hx hb hts inT12 hown hK hP 0 rfl rfl 20 (by decide) (hts _ tw_1905) (fun _ h9 => h9) rfl dX12_differ_6 ?_
      refine lv_iconst (v := 0) hx hb dX12_differ_9 (by decide) ?_
      refine va_iald hx hb hK hP 1 0 rfl rfl (z_in (i := 0) (n := 1825) (by decide +kernel) (by decide +kernel)) dX12_differ_10 ?_
      refine lv_topi (fun x_137 he_x_137 => ?_)
      have hr_x_137 := z_ctk hC_g_c he_x_137 (k := 0) (lo := 0) (hi := 3) (by decide +kernel) (by decide +kernel) (by decide +kernel)
      refine lv_icmp_ge (tgt := 53) hx hb dX12_differ_11 (by decide) (fun c_138 => ?_) (fun c_138 => ?_)
      · have b_139 := z_fgeT c_138
        refine lv_iconst (v := 0) hx hb dX12_differ_53 (by decide) ?_
        have hpost : ((0 : Int32) = 0 ∧ True) ∨ ((0 : Int32) = 1 ∧ True) := (Or.inl ⟨rfl, trivial⟩)
        have hX_140 : F_r_differ g_c k w j v x = ((0 : Int32) : Int32) := by
          refine hF_L3a.trans ?_
          refine (F_r_differ_L3a_s ..).trans ?_
          try (extract_lets -merge -useContext +onlyGivenNames y9; have e9 : x_137 = y9 := (by first | exact he_x_137 | exact he_x_137.symm); clear_value y9; subst e9)
          refine (if_pos c_138).trans ?_
          exact rfl
        exact hret _ _ _ _ _ _ () [0, 1] hP hD hS rfl (by decide) dX12_differ_54 (Or.inl rfl) ⟨(congrArg (fun z9 => z9) hX_140).symm, hpost⟩
      · have b_141 := z_fltF c_138
        refine lv_iload hx hb dX12_differ_14 (lv_at hl 5 rfl) ?_
        refine lv_iload hx hb dX12_differ_16 (lv_at hl 6 rfl) ?_
        refine lv_ishr hx hb dX12_differ_18 ?_
        have hL_x := z_full x
        refine lv_topi (fun x_142 he_x_142 => ?_)
        refine lv_iconst (v := 1) hx hb dX12_differ_19 (by decide) ?_
        refine lv_iand hx hb dX12_differ_20 ?_
        have hL_x_142 := z_full x_142
        refine lv_topi (fun x_143 he_x_143 => ?_)
        have hr_x_143 := z_andr he_x_143 hk_1 (by decide)
        refine lv_iconst (v := 1) hx hb dX12_differ_21 (by decide) ?_
        refine lv_icmp_ne (tgt := 47) hx hb dX12_differ_22 (by decide) (fun c_144 => ?_) (fun c_144 => ?_)
        · have b_145 := z_fneT c_144
          obtain ⟨x_146, he_x_146⟩ : ∃ z : Int32, z = v_90 + 1 := ⟨_, rfl⟩
          have hq_x_146 := z_addq he_x_146 (rfl : v_90.toInt = _) hk_1 (by omega) (by omega)
          refine lv_iinc (v := x_146) (lv' := [(6, .int x_146), (0, .ref h0), (1, .int k), (2, .int w), (3, .int j), (4, .int v), (5, .int x)]) hx hb dX12_differ_47 hl (k := 6) rfl ((z_ofi (by decide +kernel)).trans he_x_146.symm) (by decide) rfl (fun ls hl => ?_)
          refine lv_goto (tgt := 3) hx hb dX12_differ_50 (by decide) ?_
          have hX_147 : F_r_differ g_c k w j v x = F_r_differ_L3a g_c k w j v x n_L3a x_146 := by
            refine hF_L3a.trans ?_
            refine (F_r_differ_L3a_s ..).trans ?_
            try (extract_lets -merge -useContext +onlyGivenNames y9; have e9 : x_137 = y9 := (by first | exact he_x_137 | exact he_x_137.symm); clear_value y9; subst e9)
            refine (if_neg c_138).trans ?_
            try (extract_lets -merge -useContext +onlyGivenNames y9; have e9 : x_142 = y9 := (by first | exact he_x_142 | exact he_x_142.symm); clear_value y9; subst e9)
            try (extract_lets -merge -useContext +onlyGivenNames y9; have e9 : x_143 = y9 := (by first | exact he_x_143 | exact he_x_143.symm); clear_value y9; subst e9)
            refine (if_neg c_144).trans ?_
            try (extract_lets -merge -useContext +onlyGivenNames y9; have e9 : x_146 = y9 := (by first | exact he_x_146 | exact he_x_146.symm); clear_value y9; subst e9)
            exact rfl
          exact ih_136 x_146 H locs ls (by omega) (by omega) hX_147 hP hD hS (lv_sub hl [1, 2, 3, 4, 5, 6, 0] rfl)
        · have b_148 := z_feqF c_144
          refine lv_aload_n hx hb dX12_differ_25 rfl (lv_at hl 0 rfl) ?_
          refine lv_iload_n hx hb dX12_differ_26 rfl (lv_at hl 1 rfl) ?_
          refine lv_iload hx hb dX12_differ_27 (lv_at hl 6 rfl) ?_
          refine lv_iload_n hx hb dX12_differ_29 rfl (lv_at hl 2 rfl) ?_
          refine z_callVi (As := [.int k, .int v_90, .int w]) (rest := []) (wr := []) ⟨hx, hb, hml, hown, hts⟩ hK hE hT hP hD hS hA (r_stepAs l G cA h0 m_status m_thrown m_above m_under a_traySort a_trayMany a_numbers a_tape m_taped m_textEnd m_faultKind m_faultAt m_bad m_badAt m_token m_at m_behind m_number m_letters m_word a_c a_words m_markMany a_there a_tried a_best a_found m_thereMany m_foundMany m_orderHow m_orderRing m_orderMany m_hasBest m_bestTop m_bestBy a_weights a_shared m_random m_truePlace m_trueWay m_seconds m_done m_feelings m_tries m_leftOver m_playDoor m_playRing m_isOpen m_isOver m_wasTried m_hasPlayed a_feltNow a_last a_kept m_hasSeconds m_hasTurned m_hasRound a_hasFeels a_isOn m_firstAct m_meanTop m_meanBy a_order m_rowMany m_newSteps g_c k v_90 w hr_k (by omega) hr_w hC_g_c) lk_RX12_326 ⟨rfl, rfl⟩ ⟨Nat.le_of_ble_eq_true rfl, Nat.le_of_ble_eq_true rfl⟩ 12 rfl rfl rfl [0, 1] [] rfl rfl (by decide) rfl hl.1 rfl (lv_room (Nat.le_of_ble_eq_true rfl)) dX12_differ_30 ⟨Nat.le_of_ble_eq_true rfl, Nat.le_of_ble_eq_true rfl⟩ (fun r_149 u_150 H locs hw hP hD hS => ?_)
          obtain ⟨he_r_149, hw⟩ := hw
          obtain ⟨hr_r_149, hf_152⟩ := hw
          refine lv_aload_n hx hb dX12_differ_33 rfl (lv_at hl 0 rfl) ?_
          refine lv_iload_n hx hb dX12_differ_34 rfl (lv_at hl 3 rfl) ?_
          refine lv_iload hx hb dX12_differ_35 (lv_at hl 6 rfl) ?_
          refine lv_iload hx hb dX12_differ_37 (lv_at hl 4 rfl) ?_
          refine z_callVi (As := [.int j, .int v_90, .int v]) (rest := [.int r_149]) (wr := []) ⟨hx, hb, hml, hown, hts⟩ hK hE hT hP hD hS hA (r_stepAs l G cA h0 m_status m_thrown m_above m_under a_traySort a_trayMany a_numbers a_tape m_taped m_textEnd m_faultKind m_faultAt m_bad m_badAt m_token m_at m_behind m_number m_letters m_word a_c a_words m_markMany a_there a_tried a_best a_found m_thereMany m_foundMany m_orderHow m_orderRing m_orderMany m_hasBest m_bestTop m_bestBy a_weights a_shared m_random m_truePlace m_trueWay m_seconds m_done m_feelings m_tries m_leftOver m_playDoor m_playRing m_isOpen m_isOver m_wasTried m_hasPlayed a_feltNow a_last a_kept m_hasSeconds m_hasTurned m_hasRound a_hasFeels a_isOn m_firstAct m_meanTop m_meanBy a_order m_rowMany m_newSteps g_c j v_90 v hr_j (by omega) hr_v hC_g_c) lk_RX12_326 ⟨rfl, rfl⟩ ⟨Nat.le_of_ble_eq_true rfl, Nat.le_of_ble_eq_true rfl⟩ 12 rfl rfl rfl [0, 1] [] rfl rfl (by decide) rfl hl.1 rfl (lv_room (Nat.le_of_ble_eq_true rfl)) dX12_differ_39 ⟨Nat.le_of_ble_eq_true rfl, Nat.le_of_ble_eq_true rfl⟩ (fun r_153 u_154 H locs hw hP hD hS => ?_)
          obtain ⟨he_r_153, hw⟩ := hw
          obtain ⟨hr_r_153, hf_156⟩ := hw
          refine lv_icmp_eq (tgt := 47) hx hb dX12_differ_42 (by decide) (fun c_157 => ?_) (fun c_157 => ?_)
          · have b_158 := z_feqT c_157
            obtain ⟨x_159, he_x_159⟩ : ∃ z : Int32, z = v_90 + 1 := ⟨_, rfl⟩
            have hq_x_159 := z_addq he_x_159 (rfl : v_90.toInt = _) hk_1 (by omega) (by omega)
            refine lv_iinc (v := x_159) (lv' := [(6, .int x_159), (0, .ref h0), (1, .int k), (2, .int w), (3, .int j), (4, .int v), (5, .int x)]) hx hb dX12_differ_47 hl (k := 6) rfl ((z_ofi (by decide +kernel)).trans he_x_159.symm) (by decide) rfl (fun ls hl => ?_)
            refine lv_goto (tgt := 3) hx hb dX12_differ_50 (by decide) ?_
            have hX_160 : F_r_differ g_c k w j v x = F_r_differ_L3a g_c k w j v x n_L3a x_159 := by
              refine hF_L3a.trans ?_
              refine (F_r_differ_L3a_s ..).trans ?_
              try (extract_lets -merge -useContext +onlyGivenNames y9; have e9 : x_137 = y9 := (by first | exact he_x_137 | exact he_x_137.symm); clear_value y9; subst e9)
              refine (if_neg c_138).trans ?_
              try (extract_lets -merge -useContext +onlyGivenNames y9; have e9 : x_142 = y9 := (by first | exact he_x_142 | exact he_x_142.symm); clear_value y9; subst e9)
              try (extract_lets -merge -useContext +onlyGivenNames y9; have e9 : x_143 = y9 := (by first | exact he_x_143 | exact he_x_143.symm); clear_value y9; subst e9)
              refine (if_pos c_144).trans ?_
              extract_lets -merge -useContext +onlyGivenNames w9 y9; have e9 : r_149 = w9 := he_r_149; clear_value w9; subst e9
              extract_lets -merge -useContext +onlyGivenNames w9 y9; have e9 : r_153 = w9 := he_r_153; clear_value w9; subst e9
              refine (if_pos c_157).trans ?_
              try (extract_lets -merge -useContext +onlyGivenNames y9; have e9 : x_159 = y9 := (by first | exact he_x_159 | exact he_x_159.symm); clear_value y9; subst e9)
              exact rfl
            exact ih_136 x_159 H locs ls (by omega) (by omega) hX_160 hP hD hS (lv_sub hl [1, 2, 3, 4, 5, 6, 0] rfl)
          · have b_161 := z_fneF c_157
            refine lv_iconst (v := 1) hx hb dX12_differ_45 (by decide) ?_
            have hpost : ((1 : Int32) = 0 ∧ True) ∨ ((1 : Int32) = 1 ∧ True) := (Or.inr ⟨rfl, trivial⟩)
            have hX_162 : F_r_differ g_c k w j v x = ((1 : Int32) : Int32) := by
              refine hF_L3a.trans ?_
              refine (F_r_differ_L3a_s ..).trans ?_
              try (extract_lets -merge -useContext +onlyGivenNames y9; have e9 : x_137 = y9 := (by first | exact he_x_137 | exact he_x_137.symm); clear_value y9; subst e9)
              refine (if_neg c_138).trans ?_
              try (extract_lets -merge -useContext +onlyGivenNames y9; have e9 : x_142 = y9 := (by first | exact he_x_142 | exact he_x_142.symm); clear_value y9; subst e9)
              try (extract_lets -merge -useContext +onlyGivenNames y9; have e9 : x_143 = y9 := (by first | exact he_x_143 | exact he_x_143.symm); clear_value y9; subst e9)
              refine (if_pos c_144).trans ?_
              extract_lets -merge -useContext +onlyGivenNames w9 y9; have e9 : r_149 = w9 := he_r_149; clear_value w9; subst e9
              extract_lets -merge -useContext +onlyGivenNames w9 y9; have e9 : r_153 = w9 := he_r_153; clear_value w9; subst e9
              refine (if_neg c_157).trans ?_
              exact rfl
            exact hret _ _ _ _ _ _ () [0, 1] hP hD hS rfl (by decide) dX12_differ_46 (Or.inr rfl) ⟨(congrArg (fun z9 => z9) hX_162).symm, hpost⟩
  have hX_163 : F_r_differ g_c k w j v x = F_r_differ_L3a g_c k w j v x ((2147483647 - (0 : Int32).toInt).toNat + 1) (0 : Int32) := by
    refine (F_r_differ_s ..).trans ?_
    exact rfl
  exact hlp_135 ((2147483647 - (0 : Int32).toInt).toNat + 1) 0 _ _ _ (Nat.lt_succ_self _) (by decide +kernel) hX_163 hP hD hS (lv_sub hl [1, 2, 3, 4, 5, 6, 0] rfl)
set_option maxHeartbeats 40000000 in
set_option maxRecDepth 100000 in
theorem r_tellsAll (l : Launch) (G : va_G) (cA : zCA) (h0 : Nat) (m_status : Int32) (m_thrown : Int32) (m_above : Int64) (m_under : Int64) (a_traySort : Nat) (a_trayMany : Nat) (a_numbers : Nat) (a_tape : Nat) (m_taped : Int32) (m_textEnd : Int32) (m_faultKind : Int32) (m_faultAt : Int32) (m_bad : Int32) (m_badAt : Int32) (m_token : Int32) (m_at : Int32) (m_behind : Int32) (m_number : Int32) (m_letters : Int32) (m_word : Int64) (a_c : Nat) (a_words : Nat) (m_markMany : Int32) (a_there : Nat) (a_tried : Nat) (a_best : Nat) (a_found : Nat) (m_thereMany : Int32) (m_foundMany : Int32) (m_orderHow : Int32) (m_orderRing : Int32) (m_orderMany : Int32) (m_hasBest : Int32) (m_bestTop : Int64) (m_bestBy : Int64) (a_weights : Nat) (a_shared : Nat) (m_random : Int32) (m_truePlace : Int32) (m_trueWay : Int32) (m_seconds : Int32) (m_done : Int32) (m_feelings : Int32) (m_tries : Int32) (m_leftOver : Int32) (m_playDoor : Int32) (m_playRing : Int32) (m_isOpen : Int32) (m_isOver : Int32) (m_wasTried : Int32) (m_hasPlayed : Int32) (a_feltNow : Nat) (a_last : Nat) (a_kept : Nat) (m_hasSeconds : Int32) (m_hasTurned : Int32) (m_hasRound : Int32) (a_hasFeels : Nat) (a_isOn : Nat) (m_firstAct : Int32) (m_meanTop : Int64) (m_meanBy : Int64) (a_order : Nat) (m_rowMany : Int32) (m_newSteps : Int32) (g_c : Nat → Int32) (g_there : Nat → Int32) (x : Int32) (o : Int32) (hr_o : 0 ≤ o.toInt ∧ o.toInt ≤ 1) (hz_o : o = 0 ∨ o = 1) (hr_m_thereMany : 0 ≤ m_thereMany.toInt ∧ m_thereMany.toInt ≤ 10) (hC_g_c : zC g_c) (hC_g_there : zRg 10 0 9 g_there) : zCi l yX12_tellsAll cX12_tellsAll 6 (some .boolean) ({ frames := 2, cells := 0, slots := 0, locals := 50 }) G cA [.ref h0, .int x, .int o] [(h0, .inr (12, [.int m_status, .int m_thrown, .long m_above, .long m_under, .ref a_traySort, .ref a_trayMany, .ref a_numbers, .ref a_tape, .int m_taped, .int m_textEnd, .int m_faultKind, .int m_faultAt, .int m_bad, .int m_badAt, .int m_token, .int m_at, .int m_behind, .int m_number, .int m_letters, .long m_word, .ref a_c, .ref a_words, .int m_markMany, .ref a_there, .ref a_tried, .ref a_best, .ref a_found, .int m_thereMany, .int m_foundMany, .int m_orderHow, .int m_orderRing, .int m_orderMany, .int m_hasBest, .long m_bestTop, .long m_bestBy, .ref a_weights, .ref a_shared, .int m_random, .int m_truePlace, .int m_trueWay, .int m_seconds, .int m_done, .int m_feelings, .int m_tries, .int m_leftOver, .int m_playDoor, .int m_playRing, .int m_isOpen, .int m_isOver, .int m_wasTried, .int m_hasPlayed, .ref a_feltNow, .ref a_last, .ref a_kept, .int m_hasSeconds, .int m_hasTurned, .int m_hasRound, .ref a_hasFeels, .ref a_isOn, .int m_firstAct, .long m_meanTop, .long m_meanBy, .ref a_order, .int m_rowMany, .int m_newSteps])), (a_c, .inl (cA.1 0, 1825, .inl g_c)), (a_there, .inl (cA.1 0, 10, .inl g_there))] (S := Unit) (fun (r : Int32) (u : Unit) => (r = (F_r_tellsAll m_thereMany g_c g_there x o)) ∧ ((r = 0 ∧ True) ∨ (r = 1 ∧ True))) (fun (u : Unit) => [(h0, .inr (12, [.int m_status, .int m_thrown, .long m_above, .long m_under, .ref a_traySort, .ref a_trayMany, .ref a_numbers, .ref a_tape, .int m_taped, .int m_textEnd, .int m_faultKind, .int m_faultAt, .int m_bad, .int m_badAt, .int m_token, .int m_at, .int m_behind, .int m_number, .int m_letters, .long m_word, .ref a_c, .ref a_words, .int m_markMany, .ref a_there, .ref a_tried, .ref a_best, .ref a_found, .int m_thereMany, .int m_foundMany, .int m_orderHow, .int m_orderRing, .int m_orderMany, .int m_hasBest, .long m_bestTop, .long m_bestBy, .ref a_weights, .ref a_shared, .int m_random, .int m_truePlace, .int m_trueWay, .int m_seconds, .int m_done, .int m_feelings, .int m_tries, .int m_leftOver, .int m_playDoor, .int m_playRing, .int m_isOpen, .int m_isOver, .int m_wasTried, .int m_hasPlayed, .ref a_feltNow, .ref a_last, .ref a_kept, .int m_hasSeconds, .int m_hasTurned, .int m_hasRound, .ref a_hasFeels, .ref a_isOn, .int m_firstAct, .long m_meanTop, .long m_meanBy, .ref a_order, .int m_rowMany, .int m_newSteps])), (a_c, .inl (cA.1 0, 1825, .inl g_c)), (a_there, .inl (cA.1 0, 10, .inl g_there))]) 0 0 := by
  have hk_0 : (0 : Int32).toInt = 0 := by decide +kernel
  have hk_1 : (1 : Int32).toInt = 1 := by decide +kernel
  refine z_start2z (own := RX12) (by decide) (Nat.le_of_ble_eq_true rfl) rfl ?_
  intro p e s m args below meth c A ls Q hx hb hml hts hown hK hE hT hP hD hS hA hl hret
  have hl : lv_has ls 6 [(0, .ref h0), (1, .int x), (2, .int o)] := hl
  refine lv_iconst (v := 0) hx hb dX12_tellsAll_0 (by decide) ?_
  refine lv_istore_n (lv' := [(3, .int 0), (0, .ref h0), (1, .int x), (2, .int o)]) hx hb dX12_tellsAll_1 rfl hl (by decide) rfl (fun ls hl => ?_)
  have hlp_2477 : ∀ (n_L2a : Nat) (v_2222 : Int32) (H : Heap) (locs : List Loc) (ls : Array Slot), (2147483647 - v_2222.toInt).toNat < n_L2a → (0 ≤ v_2222.toInt ∧ v_2222.toInt ≤ 10) → (F_r_tellsAll m_thereMany g_c g_there x o = F_r_tellsAll_L2a m_thereMany g_c g_there x o n_L2a v_2222) → va_P G vwCl [(h0, .inr (12, [.int m_status, .int m_thrown, .long m_above, .long m_under, .ref a_traySort, .ref a_trayMany, .ref a_numbers, .ref a_tape, .int m_taped, .int m_textEnd, .int m_faultKind, .int m_faultAt, .int m_bad, .int m_badAt, .int m_token, .int m_at, .int m_behind, .int m_number, .int m_letters, .long m_word, .ref a_c, .ref a_words, .int m_markMany, .ref a_there, .ref a_tried, .ref a_best, .ref a_found, .int m_thereMany, .int m_foundMany, .int m_orderHow, .int m_orderRing, .int m_orderMany, .int m_hasBest, .long m_bestTop, .long m_bestBy, .ref a_weights, .ref a_shared, .int m_random, .int m_truePlace, .int m_trueWay, .int m_seconds, .int m_done, .int m_feelings, .int m_tries, .int m_leftOver, .int m_playDoor, .int m_playRing, .int m_isOpen, .int m_isOver, .int m_wasTried, .int m_hasPlayed, .ref a_feltNow, .ref a_last, .ref a_kept, .int m_hasSeconds, .int m_hasTurned, .int m_hasRound, .ref a_hasFeels, .ref a_isOn, .int m_firstAct, .long m_meanTop, .long m_meanBy, .ref a_order, .int m_rowMany, .int m_newSteps])), (a_c, .inl (cA.1 0, 1825, .inl g_c)), (a_there, .inl (cA.1 0, 10, .inl g_there))] H → va_D A [(h0, .inr (12, [.int m_status, .int m_thrown, .long m_above, .long m_under, .ref a_traySort, .ref a_trayMany, .ref a_numbers, .ref a_tape, .int m_taped, .int m_textEnd, .int m_faultKind, .int m_faultAt, .int m_bad, .int m_badAt, .int m_token, .int m_at, .int m_behind, .int m_number, .int m_letters, .long m_word, .ref a_c, .ref a_words, .int m_markMany, .ref a_there, .ref a_tried, .ref a_best, .ref a_found, .int m_thereMany, .int m_foundMany, .int m_orderHow, .int m_orderRing, .int m_orderMany, .int m_hasBest, .long m_bestTop, .long m_bestBy, .ref a_weights, .ref a_shared, .int m_random, .int m_truePlace, .int m_trueWay, .int m_seconds, .int m_done, .int m_feelings, .int m_tries, .int m_leftOver, .int m_playDoor, .int m_playRing, .int m_isOpen, .int m_isOver, .int m_wasTried, .int m_hasPlayed, .ref a_feltNow, .ref a_last, .ref a_kept, .int m_hasSeconds, .int m_hasTurned, .int m_hasRound, .ref a_hasFeels, .ref a_isOn, .int m_firstAct, .long m_meanTop, .long m_meanBy, .ref a_order, .int m_rowMany, .int m_newSteps])), (a_c, .inl (cA.1 0, 1825, .inl g_c)), (a_there, .inl (cA.1 0, 10, .inl g_there))] → va_S A s.heap H locs → lv_has ls 6 [(0, .ref h0), (1, .int x), (2, .int o), (3, .int v_2222)] → W p l e ({ frames := 2, cells := 0, slots := 0, locals := 50 }) s m args below meth c H locs 0 0 Q (F0 m 2 ls []) := by
    intro n_L2a
    induction n_L2a with
    | zero =>
      intro v_2222 H locs ls hmu_hlp_2477 hr_v_2222 hF_L2a hP hD hS hl
      exact absurd hmu_hlp_2477 (Nat.not_lt_zero _)
    | succ n_L2a ih_2478 =>
      intro v_2222 H locs ls hmu_hlp_2477 hr_v_2222 hF_L2a hP hD hS hl
      refine lv_iload_n hx hb dX12_tellsAll_2 rfl (lv_at hl 3 rfl) ?_
      refine lv_aload_n hx hb dX12_tellsAll_3 rfl (lv_at hl 0 rfl) ?_
      refine va_get (D := G) (ci := 12) (v := .int m_thereMany) (C := RX12) (T := TX12) (N := 65) hx hb hts inT12 hown hK hP 0 rfl rfl 27 (by decide) (hts _ tw_1912) (fun _ h9 => h9) rfl dX12_tellsAll_4 ?_
      refine lv_icmp_ge (tgt := 127) hx hb dX12_tellsAll_7 (by decide) (fun c_2479 => ?_) (fun c_2479 => ?_)
      · have b_2480 := z_fgeT c_2479
        refine lv_iconst (v := 1) hx hb dX12_tellsAll_127 (by decide) ?_
        have hpost : ((1 : Int32) = 0 ∧ True) ∨ ((1 : Int32) = 1 ∧ True) := (Or.inr ⟨rfl, trivial⟩)
        have hX_2481 : F_r_tellsAll m_thereMany g_c g_there x o = ((1 : Int32) : Int32) := by
          refine hF_L2a.trans ?_
          refine (F_r_tellsAll_L2a_s ..).trans ?_
          refine (if_pos c_2479).trans ?_
          exact rfl
        exact hret _ _ _ _ _ _ () [0, 1, 2] hP hD hS rfl (by decide) dX12_tellsAll_128 (Or.inr rfl) ⟨(congrArg (fun z9 => z9) hX_2481).symm, hpost⟩
      · have b_2482 := z_fltF c_2479
        refine lv_iload_n hx hb dX12_tellsAll_10 rfl (lv_at hl 3 rfl) ?_
        refine lv_iconst (v := 1) hx hb dX12_tellsAll_11 (by decide) ?_
        refine lv_iadd hx hb dX12_tellsAll_12 ?_
        refine lv_topi (fun x_2483 he_x_2483 => ?_)
        have hq_x_2483 := z_addq he_x_2483 (rfl : v_2222.toInt = _) hk_1 (by omega) (by omega)
        refine lv_istore (lv' := [(4, .int x_2483), (0, .ref h0), (1, .int x), (2, .int o), (3, .int v_2222)]) hx hb dX12_tellsAll_13 hl (by decide) rfl (fun ls hl => ?_)
        have hlp_2591 : ∀ (n_L15a : Nat) (v_2537 : Int32) (H : Heap) (locs : List Loc) (ls : Array Slot), (2147483647 - v_2537.toInt).toNat < n_L15a → (1 ≤ v_2537.toInt ∧ v_2537.toInt ≤ 10) → (F_r_tellsAll m_thereMany g_c g_there x o = F_r_tellsAll_L15a m_thereMany g_c g_there x o v_2222 (F_r_tellsAll_L2a m_thereMany g_c g_there x o n_L2a) n_L15a v_2537) → va_P G vwCl [(h0, .inr (12, [.int m_status, .int m_thrown, .long m_above, .long m_under, .ref a_traySort, .ref a_trayMany, .ref a_numbers, .ref a_tape, .int m_taped, .int m_textEnd, .int m_faultKind, .int m_faultAt, .int m_bad, .int m_badAt, .int m_token, .int m_at, .int m_behind, .int m_number, .int m_letters, .long m_word, .ref a_c, .ref a_words, .int m_markMany, .ref a_there, .ref a_tried, .ref a_best, .ref a_found, .int m_thereMany, .int m_foundMany, .int m_orderHow, .int m_orderRing, .int m_orderMany, .int m_hasBest, .long m_bestTop, .long m_bestBy, .ref a_weights, .ref a_shared, .int m_random, .int m_truePlace, .int m_trueWay, .int m_seconds, .int m_done, .int m_feelings, .int m_tries, .int m_leftOver, .int m_playDoor, .int m_playRing, .int m_isOpen, .int m_isOver, .int m_wasTried, .int m_hasPlayed, .ref a_feltNow, .ref a_last, .ref a_kept, .int m_hasSeconds, .int m_hasTurned, .int m_hasRound, .ref a_hasFeels, .ref a_isOn, .int m_firstAct, .long m_meanTop, .long m_meanBy, .ref a_order, .int m_rowMany, .int m_newSteps])), (a_c, .inl (cA.1 0, 1825, .inl g_c)), (a_there, .inl (cA.1 0, 10, .inl g_there))] H → va_D A [(h0, .inr (12, [.int m_status, .int m_thrown, .long m_above, .long m_under, .ref a_traySort, .ref a_trayMany, .ref a_numbers, .ref a_tape, .int m_taped, .int m_textEnd, .int m_faultKind, .int m_faultAt, .int m_bad, .int m_badAt, .int m_token, .int m_at, .int m_behind, .int m_number, .int m_letters, .long m_word, .ref a_c, .ref a_words, .int m_markMany, .ref a_there, .ref a_tried, .ref a_best, .ref a_found, .int m_thereMany, .int m_foundMany, .int m_orderHow, .int m_orderRing, .int m_orderMany, .int m_hasBest, .long m_bestTop, .long m_bestBy, .ref a_weights, .ref a_shared, .int m_random, .int m_truePlace, .int m_trueWay, .int m_seconds, .int m_done, .int m_feelings, .int m_tries, .int m_leftOver, .int m_playDoor, .int m_playRing, .int m_isOpen, .int m_isOver, .int m_wasTried, .int m_hasPlayed, .ref a_feltNow, .ref a_last, .ref a_kept, .int m_hasSeconds, .int m_hasTurned, .int m_hasRound, .ref a_hasFeels, .ref a_isOn, .int m_firstAct, .long m_meanTop, .long m_meanBy, .ref a_order, .int m_rowMany, .int m_newSteps])), (a_c, .inl (cA.1 0, 1825, .inl g_c)), (a_there, .inl (cA.1 0, 10, .inl g_there))] → va_S A s.heap H locs → lv_has ls 6 [(0, .ref h0), (1, .int x), (2, .int o), (3, .int v_2222), (4, .int v_2537)] → W p l e ({ frames := 2, cells := 0, slots := 0, locals := 50 }) s m args below meth c H locs 0 0 Q (F0 m 15 ls []) := by
          intro n_L15a
          induction n_L15a with
          | zero =>
            intro v_2537 H locs ls hmu_hlp_2591 hr_v_2537 hF_L15a hP hD hS hl
            exact absurd hmu_hlp_2591 (Nat.not_lt_zero _)
          | succ n_L15a ih_2592 =>
            intro v_2537 H locs ls hmu_hlp_2591 hr_v_2537 hF_L15a hP hD hS hl
            refine lv_iload hx hb dX12_tellsAll_15 (lv_at hl 4 rfl) ?_
            refine lv_aload_n hx hb dX12_tellsAll_17 rfl (lv_at hl 0 rfl) ?_
            refine va_get (D := G) (ci := 12) (v := .int m_thereMany) (C := RX12) (T := TX12) (N := 65) hx hb hts inT12 hown hK hP 0 rfl rfl 27 (by decide) (hts _ tw_1912) (fun _ h9 => h9) rfl dX12_tellsAll_18 ?_
            refine lv_icmp_ge (tgt := 121) hx hb dX12_tellsAll_21 (by decide) (fun c_2593 => ?_) (fun c_2593 => ?_)
            · have b_2594 := z_fgeT c_2593
              obtain ⟨x_2595, he_x_2595⟩ : ∃ z : Int32, z = v_2222 + 1 := ⟨_, rfl⟩
              have hq_x_2595 := z_addq he_x_2595 (rfl : v_2222.toInt = _) hk_1 (by omega) (by omega)
              refine lv_iinc (v := x_2595) (lv' := [(3, .int x_2595), (0, .ref h0), (1, .int x), (2, .int o), (4, .int v_2537)]) hx hb dX12_tellsAll_121 hl (k := 3) rfl ((z_ofi (by decide +kernel)).trans he_x_2595.symm) (by decide) rfl (fun ls hl => ?_)
              refine lv_goto (tgt := 2) hx hb dX12_tellsAll_124 (by decide) ?_
              have hX_2596 : F_r_tellsAll m_thereMany g_c g_there x o = F_r_tellsAll_L2a m_thereMany g_c g_there x o n_L2a x_2595 := by
                refine hF_L15a.trans ?_
                refine (F_r_tellsAll_L15a_s ..).trans ?_
                refine (if_pos c_2593).trans ?_
                try (extract_lets -merge -useContext +onlyGivenNames y9; have e9 : x_2595 = y9 := (by first | exact he_x_2595 | exact he_x_2595.symm); clear_value y9; subst e9)
                exact rfl
              exact ih_2478 x_2595 H locs ls (by omega) (by omega) hX_2596 hP hD hS (lv_sub hl [1, 2, 3, 0] rfl)
            · have b_2597 := z_fltF c_2593
              refine lv_aload_n hx hb dX12_tellsAll_24 rfl (lv_at hl 0 rfl) ?_
              refine lv_aload_n hx hb dX12_tellsAll_25 rfl (lv_at hl 0 rfl) ?_
              refine va_get (D := G) (ci := 12) (v := .ref a_there) (C := RX12) (T := TX12) (N := 65) hx hb hts inT12 hown hK hP 0 rfl rfl 23 (by decide) (hts _ tw_1908) (fun _ h9 => h9) rfl dX12_tellsAll_26 ?_
              refine lv_iload_n hx hb dX12_tellsAll_29 rfl (lv_at hl 3 rfl) ?_
              refine va_iald hx hb hK hP 2 0 rfl rfl (z_inN (by omega) (by omega)) dX12_tellsAll_30 ?_
              refine lv_topi (fun x_2598 he_x_2598 => ?_)
              have hr_x_2598 := z_rg hC_g_there he_x_2598 (by omega) (by omega)
              refine lv_iconst (v := 0) hx hb dX12_tellsAll_31 (by decide) ?_
              refine lv_aload_n hx hb dX12_tellsAll_32 rfl (lv_at hl 0 rfl) ?_
              refine va_get (D := G) (ci := 12) (v := .ref a_there) (C := RX12) (T := TX12) (N := 65) hx hb hts inT12 hown hK hP 0 rfl rfl 23 (by decide) (hts _ tw_1908) (fun _ h9 => h9) rfl dX12_tellsAll_33 ?_
              refine lv_iload hx hb dX12_tellsAll_36 (lv_at hl 4 rfl) ?_
              refine va_iald hx hb hK hP 2 0 rfl rfl (z_inN (by omega) (by omega)) dX12_tellsAll_38 ?_
              refine lv_topi (fun x_2599 he_x_2599 => ?_)
              have hr_x_2599 := z_rg hC_g_there he_x_2599 (by omega) (by omega)
              refine lv_iconst (v := 0) hx hb dX12_tellsAll_39 (by decide) ?_
              refine lv_iload_n hx hb dX12_tellsAll_40 rfl (lv_at hl 1 rfl) ?_
              refine z_callVi (As := [.int x_2598, .int 0, .int x_2599, .int 0, .int x]) (rest := []) (wr := [(a_there, .inl (cA.1 0, 10, .inl g_there))]) ⟨hx, hb, hml, hown, hts⟩ hK hE hT hP hD hS hA (r_differ l G cA h0 m_status m_thrown m_above m_under a_traySort a_trayMany a_numbers a_tape m_taped m_textEnd m_faultKind m_faultAt m_bad m_badAt m_token m_at m_behind m_number m_letters m_word a_c a_words m_markMany a_there a_tried a_best a_found m_thereMany m_foundMany m_orderHow m_orderRing m_orderMany m_hasBest m_bestTop m_bestBy a_weights a_shared m_random m_truePlace m_trueWay m_seconds m_done m_feelings m_tries m_leftOver m_playDoor m_playRing m_isOpen m_isOver m_wasTried m_hasPlayed a_feltNow a_last a_kept m_hasSeconds m_hasTurned m_hasRound a_hasFeels a_isOn m_firstAct m_meanTop m_meanBy a_order m_rowMany m_newSteps g_c x_2598 0 x_2599 0 x hr_x_2598 (by decide +kernel) hr_x_2599 (by decide +kernel) hC_g_c) lk_RX12_453 ⟨rfl, rfl⟩ ⟨Nat.le_of_ble_eq_true rfl, Nat.le_of_ble_eq_true rfl⟩ 12 rfl rfl rfl [0, 1] [2] rfl rfl (by decide) rfl hl.1 rfl (lv_room (Nat.le_of_ble_eq_true rfl)) dX12_tellsAll_41 ⟨Nat.le_of_ble_eq_true rfl, Nat.le_of_ble_eq_true rfl⟩ (fun r_2600 u_2601 H locs hw hP hD hS => ?_)
              obtain ⟨he_r_2600, hw⟩ := hw
              rcases hw with ⟨rfl, -⟩ | ⟨rfl, -⟩
              · skip
                refine lv_istore (lv' := [(5, .int 0), (0, .ref h0), (1, .int x), (2, .int o), (3, .int v_2222), (4, .int v_2537)]) hx hb dX12_tellsAll_44 hl (by decide) rfl (fun ls hl => ?_)
                refine lv_iload_n hx hb dX12_tellsAll_46 rfl (lv_at hl 3 rfl) ?_
                refine lv_if_eq (tgt := 108) hx hb dX12_tellsAll_47 (by decide) (fun c_2603 => ?_) (fun c_2603 => ?_)
                · have b_2604 := z_feqT c_2603
                  refine lv_iload hx hb dX12_tellsAll_108 (lv_at hl 0 rfl) ?_
                  refine lv_if_ne (tgt := 115) hx hb dX12_tellsAll_110 (by decide) (fun h9 => absurd (by decide +kernel) h9) (fun _ => ?_)
                  refine lv_iconst (v := 0) hx hb dX12_tellsAll_113 (by decide) ?_
                  have hpost : ((0 : Int32) = 0 ∧ True) ∨ ((0 : Int32) = 1 ∧ True) := (Or.inl ⟨rfl, trivial⟩)
                  have hX_2605 : F_r_tellsAll m_thereMany g_c g_there x o = ((0 : Int32) : Int32) := by
                    refine hF_L15a.trans ?_
                    refine (F_r_tellsAll_L15a_s ..).trans ?_
                    refine (if_neg c_2593).trans ?_
                    try (extract_lets -merge -useContext +onlyGivenNames y9; have e9 : x_2598 = y9 := (by first | exact he_x_2598 | exact he_x_2598.symm); clear_value y9; subst e9)
                    try (extract_lets -merge -useContext +onlyGivenNames y9; have e9 : x_2599 = y9 := (by first | exact he_x_2599 | exact he_x_2599.symm); clear_value y9; subst e9)
                    extract_lets -merge -useContext +onlyGivenNames w9 y9; have e9 : (0 : Int32) = w9 := he_r_2600; clear_value w9; subst e9
                    refine (if_pos rfl).trans ?_
                    refine (if_pos c_2603).trans ?_
                    exact rfl
                  exact hret _ _ _ _ _ _ () [1, 2, 0] hP hD hS rfl (by decide) dX12_tellsAll_114 (Or.inl rfl) ⟨(congrArg (fun z9 => z9) hX_2605).symm, hpost⟩
                · have b_2606 := z_fneF c_2603
                  refine lv_iload hx hb dX12_tellsAll_50 (lv_at hl 0 rfl) ?_
                  refine lv_if_eq (tgt := 105) hx hb dX12_tellsAll_52 (by decide) (fun _ => ?_) (fun h9 => absurd (by decide +kernel) h9)
                  refine lv_iconst (v := 0) hx hb dX12_tellsAll_105 (by decide) ?_
                  refine lv_istore (lv' := [(5, .int 0), (0, .ref h0), (1, .int x), (2, .int o), (3, .int v_2222), (4, .int v_2537)]) hx hb dX12_tellsAll_106 hl (by decide) rfl (fun ls hl => ?_)
                  refine lv_iload hx hb dX12_tellsAll_108 (lv_at hl 0 rfl) ?_
                  refine lv_if_ne (tgt := 115) hx hb dX12_tellsAll_110 (by decide) (fun h9 => absurd (by decide +kernel) h9) (fun _ => ?_)
                  refine lv_iconst (v := 0) hx hb dX12_tellsAll_113 (by decide) ?_
                  have hpost : ((0 : Int32) = 0 ∧ True) ∨ ((0 : Int32) = 1 ∧ True) := (Or.inl ⟨rfl, trivial⟩)
                  have hX_2607 : F_r_tellsAll m_thereMany g_c g_there x o = ((0 : Int32) : Int32) := by
                    refine hF_L15a.trans ?_
                    refine (F_r_tellsAll_L15a_s ..).trans ?_
                    refine (if_neg c_2593).trans ?_
                    try (extract_lets -merge -useContext +onlyGivenNames y9; have e9 : x_2598 = y9 := (by first | exact he_x_2598 | exact he_x_2598.symm); clear_value y9; subst e9)
                    try (extract_lets -merge -useContext +onlyGivenNames y9; have e9 : x_2599 = y9 := (by first | exact he_x_2599 | exact he_x_2599.symm); clear_value y9; subst e9)
                    extract_lets -merge -useContext +onlyGivenNames w9 y9; have e9 : (0 : Int32) = w9 := he_r_2600; clear_value w9; subst e9
                    refine (if_pos rfl).trans ?_
                    refine (if_neg c_2603).trans ?_
                    exact rfl
                  exact hret _ _ _ _ _ _ () [1, 2, 0] hP hD hS rfl (by decide) dX12_tellsAll_114 (Or.inl rfl) ⟨(congrArg (fun z9 => z9) hX_2607).symm, hpost⟩
              · skip
                refine lv_istore (lv' := [(5, .int 1), (0, .ref h0), (1, .int x), (2, .int o), (3, .int v_2222), (4, .int v_2537)]) hx hb dX12_tellsAll_44 hl (by decide) rfl (fun ls hl => ?_)
                refine lv_iload_n hx hb dX12_tellsAll_46 rfl (lv_at hl 3 rfl) ?_
                refine lv_if_eq (tgt := 108) hx hb dX12_tellsAll_47 (by decide) (fun c_2608 => ?_) (fun c_2608 => ?_)
                · have b_2609 := z_feqT c_2608
                  refine lv_iload hx hb dX12_tellsAll_108 (lv_at hl 0 rfl) ?_
                  refine lv_if_ne (tgt := 115) hx hb dX12_tellsAll_110 (by decide) (fun _ => ?_) (fun h9 => absurd h9 (by decide +kernel))
                  obtain ⟨x_2610, he_x_2610⟩ : ∃ z : Int32, z = v_2537 + 1 := ⟨_, rfl⟩
                  have hq_x_2610 := z_addq he_x_2610 (rfl : v_2537.toInt = _) hk_1 (by omega) (by omega)
                  refine lv_iinc (v := x_2610) (lv' := [(4, .int x_2610), (5, .int 1), (0, .ref h0), (1, .int x), (2, .int o), (3, .int v_2222)]) hx hb dX12_tellsAll_115 hl (k := 5) rfl ((z_ofi (by decide +kernel)).trans he_x_2610.symm) (by decide) rfl (fun ls hl => ?_)
                  refine lv_goto (tgt := 15) hx hb dX12_tellsAll_118 (by decide) ?_
                  have hX_2611 : F_r_tellsAll m_thereMany g_c g_there x o = F_r_tellsAll_L15a m_thereMany g_c g_there x o v_2222 (F_r_tellsAll_L2a m_thereMany g_c g_there x o n_L2a) n_L15a x_2610 := by
                    refine hF_L15a.trans ?_
                    refine (F_r_tellsAll_L15a_s ..).trans ?_
                    refine (if_neg c_2593).trans ?_
                    try (extract_lets -merge -useContext +onlyGivenNames y9; have e9 : x_2598 = y9 := (by first | exact he_x_2598 | exact he_x_2598.symm); clear_value y9; subst e9)
                    try (extract_lets -merge -useContext +onlyGivenNames y9; have e9 : x_2599 = y9 := (by first | exact he_x_2599 | exact he_x_2599.symm); clear_value y9; subst e9)
                    extract_lets -merge -useContext +onlyGivenNames w9 y9; have e9 : (1 : Int32) = w9 := he_r_2600; clear_value w9; subst e9
                    refine (if_neg (show ¬ (1 : Int32) = 0 by decide)).trans ?_
                    refine (if_pos c_2608).trans ?_
                    try (extract_lets -merge -useContext +onlyGivenNames y9; have e9 : x_2610 = y9 := (by first | exact he_x_2610 | exact he_x_2610.symm); clear_value y9; subst e9)
                    exact rfl
                  have hP := hP.sub (ws' := [(h0, .inr (12, [.int m_status, .int m_thrown, .long m_above, .long m_under, .ref a_traySort, .ref a_trayMany, .ref a_numbers, .ref a_tape, .int m_taped, .int m_textEnd, .int m_faultKind, .int m_faultAt, .int m_bad, .int m_badAt, .int m_token, .int m_at, .int m_behind, .int m_number, .int m_letters, .long m_word, .ref a_c, .ref a_words, .int m_markMany, .ref a_there, .ref a_tried, .ref a_best, .ref a_found, .int m_thereMany, .int m_foundMany, .int m_orderHow, .int m_orderRing, .int m_orderMany, .int m_hasBest, .long m_bestTop, .long m_bestBy, .ref a_weights, .ref a_shared, .int m_random, .int m_truePlace, .int m_trueWay, .int m_seconds, .int m_done, .int m_feelings, .int m_tries, .int m_leftOver, .int m_playDoor, .int m_playRing, .int m_isOpen, .int m_isOver, .int m_wasTried, .int m_hasPlayed, .ref a_feltNow, .ref a_last, .ref a_kept, .int m_hasSeconds, .int m_hasTurned, .int m_hasRound, .ref a_hasFeels, .ref a_isOn, .int m_firstAct, .long m_meanTop, .long m_meanBy, .ref a_order, .int m_rowMany, .int m_newSteps])), (a_c, .inl (cA.1 0, 1825, .inl g_c)), (a_there, .inl (cA.1 0, 10, .inl g_there))]) [1, 2, 0] rfl
                  have hD := hD.sub (ws' := [(h0, .inr (12, [.int m_status, .int m_thrown, .long m_above, .long m_under, .ref a_traySort, .ref a_trayMany, .ref a_numbers, .ref a_tape, .int m_taped, .int m_textEnd, .int m_faultKind, .int m_faultAt, .int m_bad, .int m_badAt, .int m_token, .int m_at, .int m_behind, .int m_number, .int m_letters, .long m_word, .ref a_c, .ref a_words, .int m_markMany, .ref a_there, .ref a_tried, .ref a_best, .ref a_found, .int m_thereMany, .int m_foundMany, .int m_orderHow, .int m_orderRing, .int m_orderMany, .int m_hasBest, .long m_bestTop, .long m_bestBy, .ref a_weights, .ref a_shared, .int m_random, .int m_truePlace, .int m_trueWay, .int m_seconds, .int m_done, .int m_feelings, .int m_tries, .int m_leftOver, .int m_playDoor, .int m_playRing, .int m_isOpen, .int m_isOver, .int m_wasTried, .int m_hasPlayed, .ref a_feltNow, .ref a_last, .ref a_kept, .int m_hasSeconds, .int m_hasTurned, .int m_hasRound, .ref a_hasFeels, .ref a_isOn, .int m_firstAct, .long m_meanTop, .long m_meanBy, .ref a_order, .int m_rowMany, .int m_newSteps])), (a_c, .inl (cA.1 0, 1825, .inl g_c)), (a_there, .inl (cA.1 0, 10, .inl g_there))]) [1, 2, 0] (by decide) rfl
                  exact ih_2592 x_2610 H locs ls (by omega) (by omega) hX_2611 hP hD hS (lv_sub hl [2, 3, 4, 5, 0] rfl)
                · have b_2612 := z_fneF c_2608
                  refine lv_iload hx hb dX12_tellsAll_50 (lv_at hl 0 rfl) ?_
                  refine lv_if_eq (tgt := 105) hx hb dX12_tellsAll_52 (by decide) (fun h9 => absurd h9 (by decide +kernel)) (fun _ => ?_)
                  refine lv_aload_n hx hb dX12_tellsAll_55 rfl (lv_at hl 1 rfl) ?_
                  refine lv_aload_n hx hb dX12_tellsAll_56 rfl (lv_at hl 1 rfl) ?_
                  refine va_get (D := G) (ci := 12) (v := .ref a_there) (C := RX12) (T := TX12) (N := 65) hx hb hts inT12 hown hK hP 1 rfl rfl 23 (by decide) (hts _ tw_1908) (fun _ h9 => h9) rfl dX12_tellsAll_57 ?_
                  refine lv_iload_n hx hb dX12_tellsAll_60 rfl (lv_at hl 4 rfl) ?_
                  refine va_iald hx hb hK hP 0 0 rfl rfl (z_inN (by omega) (by omega)) dX12_tellsAll_61 ?_
                  refine lv_topi (fun x_2613 he_x_2613 => ?_)
                  have hr_x_2613 := z_rg hC_g_there he_x_2613 (by omega) (by omega)
                  refine lv_iconst (v := 0) hx hb dX12_tellsAll_62 (by decide) ?_
                  refine lv_aload_n hx hb dX12_tellsAll_63 rfl (lv_at hl 1 rfl) ?_
                  refine va_get (D := G) (ci := 12) (v := .ref a_there) (C := RX12) (T := TX12) (N := 65) hx hb hts inT12 hown hK hP 1 rfl rfl 23 (by decide) (hts _ tw_1908) (fun _ h9 => h9) rfl dX12_tellsAll_64 ?_
                  refine lv_iload hx hb dX12_tellsAll_67 (lv_at hl 5 rfl) ?_
                  refine va_iald hx hb hK hP 0 0 rfl rfl (z_inN (by omega) (by omega)) dX12_tellsAll_69 ?_
                  refine lv_topi (fun x_2614 he_x_2614 => ?_)
                  have hr_x_2614 := z_rg hC_g_there he_x_2614 (by omega) (by omega)
                  refine lv_iconst (v := 1) hx hb dX12_tellsAll_70 (by decide) ?_
                  refine lv_iload_n hx hb dX12_tellsAll_71 rfl (lv_at hl 2 rfl) ?_
                  refine z_callVi (As := [.int x_2613, .int 0, .int x_2614, .int 1, .int x]) (rest := []) (wr := [(a_there, .inl (cA.1 0, 10, .inl g_there))]) ⟨hx, hb, hml, hown, hts⟩ hK hE hT hP hD hS hA (r_differ l G cA h0 m_status m_thrown m_above m_under a_traySort a_trayMany a_numbers a_tape m_taped m_textEnd m_faultKind m_faultAt m_bad m_badAt m_token m_at m_behind m_number m_letters m_word a_c a_words m_markMany a_there a_tried a_best a_found m_thereMany m_foundMany m_orderHow m_orderRing m_orderMany m_hasBest m_bestTop m_bestBy a_weights a_shared m_random m_truePlace m_trueWay m_seconds m_done m_feelings m_tries m_leftOver m_playDoor m_playRing m_isOpen m_isOver m_wasTried m_hasPlayed a_feltNow a_last a_kept m_hasSeconds m_hasTurned m_hasRound a_hasFeels a_isOn m_firstAct m_meanTop m_meanBy a_order m_rowMany m_newSteps g_c x_2613 0 x_2614 1 x hr_x_2613 (by decide +kernel) hr_x_2614 (by decide +kernel) hC_g_c) lk_RX12_453 ⟨rfl, rfl⟩ ⟨Nat.le_of_ble_eq_true rfl, Nat.le_of_ble_eq_true rfl⟩ 12 rfl rfl rfl [1, 2] [0] rfl rfl (by decide) rfl hl.1 rfl (lv_room (Nat.le_of_ble_eq_true rfl)) dX12_tellsAll_72 ⟨Nat.le_of_ble_eq_true rfl, Nat.le_of_ble_eq_true rfl⟩ (fun r_2615 u_2616 H locs hw hP hD hS => ?_)
                  obtain ⟨he_r_2615, hw⟩ := hw
                  rcases hw with ⟨rfl, -⟩ | ⟨rfl, -⟩
                  · skip
                    refine lv_if_eq (tgt := 105) hx hb dX12_tellsAll_75 (by decide) (fun _ => ?_) (fun h9 => absurd (by decide +kernel) h9)
                    refine lv_iconst (v := 0) hx hb dX12_tellsAll_105 (by decide) ?_
                    refine lv_istore (lv' := [(5, .int 0), (0, .ref h0), (1, .int x), (2, .int o), (3, .int v_2222), (4, .int v_2537)]) hx hb dX12_tellsAll_106 hl (by decide) rfl (fun ls hl => ?_)
                    refine lv_iload hx hb dX12_tellsAll_108 (lv_at hl 0 rfl) ?_
                    refine lv_if_ne (tgt := 115) hx hb dX12_tellsAll_110 (by decide) (fun h9 => absurd (by decide +kernel) h9) (fun _ => ?_)
                    refine lv_iconst (v := 0) hx hb dX12_tellsAll_113 (by decide) ?_
                    have hpost : ((0 : Int32) = 0 ∧ True) ∨ ((0 : Int32) = 1 ∧ True) := (Or.inl ⟨rfl, trivial⟩)
                    have hX_2618 : F_r_tellsAll m_thereMany g_c g_there x o = ((0 : Int32) : Int32) := by
                      refine hF_L15a.trans ?_
                      refine (F_r_tellsAll_L15a_s ..).trans ?_
                      refine (if_neg c_2593).trans ?_
                      try (extract_lets -merge -useContext +onlyGivenNames y9; have e9 : x_2598 = y9 := (by first | exact he_x_2598 | exact he_x_2598.symm); clear_value y9; subst e9)
                      try (extract_lets -merge -useContext +onlyGivenNames y9; have e9 : x_2599 = y9 := (by first | exact he_x_2599 | exact he_x_2599.symm); clear_value y9; subst e9)
                      extract_lets -merge -useContext +onlyGivenNames w9 y9; have e9 : (1 : Int32) = w9 := he_r_2600; clear_value w9; subst e9
                      refine (if_neg (show ¬ (1 : Int32) = 0 by decide)).trans ?_
                      refine (if_neg c_2608).trans ?_
                      try (extract_lets -merge -useContext +onlyGivenNames y9; have e9 : x_2613 = y9 := (by first | exact he_x_2613 | exact he_x_2613.symm); clear_value y9; subst e9)
                      try (extract_lets -merge -useContext +onlyGivenNames y9; have e9 : x_2614 = y9 := (by first | exact he_x_2614 | exact he_x_2614.symm); clear_value y9; subst e9)
                      extract_lets -merge -useContext +onlyGivenNames w9 y9; have e9 : (0 : Int32) = w9 := he_r_2615; clear_value w9; subst e9
                      refine (if_pos rfl).trans ?_
                      exact rfl
                    exact hret _ _ _ _ _ _ () [1, 2, 0] hP hD hS rfl (by decide) dX12_tellsAll_114 (Or.inl rfl) ⟨(congrArg (fun z9 => z9) hX_2618).symm, hpost⟩
                  · skip
                    refine lv_if_eq (tgt := 105) hx hb dX12_tellsAll_75 (by decide) (fun h9 => absurd h9 (by decide +kernel)) (fun _ => ?_)
                    refine lv_aload_n hx hb dX12_tellsAll_78 rfl (lv_at hl 1 rfl) ?_
                    refine lv_aload_n hx hb dX12_tellsAll_79 rfl (lv_at hl 1 rfl) ?_
                    refine va_get (D := G) (ci := 12) (v := .ref a_there) (C := RX12) (T := TX12) (N := 65) hx hb hts inT12 hown hK hP 1 rfl rfl 23 (by decide) (hts _ tw_1908) (fun _ h9 => h9) rfl dX12_tellsAll_80 ?_
                    refine lv_iload_n hx hb dX12_tellsAll_83 rfl (lv_at hl 4 rfl) ?_
                    refine va_iald hx hb hK hP 0 0 rfl rfl (z_inN (by omega) (by omega)) dX12_tellsAll_84 ?_
                    refine lv_topi (fun x_2619 he_x_2619 => ?_)
                    have hr_x_2619 := z_rg hC_g_there he_x_2619 (by omega) (by omega)
                    refine lv_iconst (v := 1) hx hb dX12_tellsAll_85 (by decide) ?_
                    refine lv_aload_n hx hb dX12_tellsAll_86 rfl (lv_at hl 1 rfl) ?_
                    refine va_get (D := G) (ci := 12) (v := .ref a_there) (C := RX12) (T := TX12) (N := 65) hx hb hts inT12 hown hK hP 1 rfl rfl 23 (by decide) (hts _ tw_1908) (fun _ h9 => h9) rfl dX12_tellsAll_87 ?_
                    refine lv_iload hx hb dX12_tellsAll_90 (lv_at hl 5 rfl) ?_
                    refine va_iald hx hb hK hP 0 0 rfl rfl (z_inN (by omega) (by omega)) dX12_tellsAll_92 ?_
                    refine lv_topi (fun x_2620 he_x_2620 => ?_)
                    have hr_x_2620 := z_rg hC_g_there he_x_2620 (by omega) (by omega)
                    refine lv_iconst (v := 0) hx hb dX12_tellsAll_93 (by decide) ?_
                    refine lv_iload_n hx hb dX12_tellsAll_94 rfl (lv_at hl 2 rfl) ?_
                    refine z_callVi (As := [.int x_2619, .int 1, .int x_2620, .int 0, .int x]) (rest := []) (wr := [(a_there, .inl (cA.1 0, 10, .inl g_there))]) ⟨hx, hb, hml, hown, hts⟩ hK hE hT hP hD hS hA (r_differ l G cA h0 m_status m_thrown m_above m_under a_traySort a_trayMany a_numbers a_tape m_taped m_textEnd m_faultKind m_faultAt m_bad m_badAt m_token m_at m_behind m_number m_letters m_word a_c a_words m_markMany a_there a_tried a_best a_found m_thereMany m_foundMany m_orderHow m_orderRing m_orderMany m_hasBest m_bestTop m_bestBy a_weights a_shared m_random m_truePlace m_trueWay m_seconds m_done m_feelings m_tries m_leftOver m_playDoor m_playRing m_isOpen m_isOver m_wasTried m_hasPlayed a_feltNow a_last a_kept m_hasSeconds m_hasTurned m_hasRound a_hasFeels a_isOn m_firstAct m_meanTop m_meanBy a_order m_rowMany m_newSteps g_c x_2619 1 x_2620 0 x hr_x_2619 (by decide +kernel) hr_x_2620 (by decide +kernel) hC_g_c) lk_RX12_453 ⟨rfl, rfl⟩ ⟨Nat.le_of_ble_eq_true rfl, Nat.le_of_ble_eq_true rfl⟩ 12 rfl rfl rfl [1, 2] [0] rfl rfl (by decide) rfl hl.1 rfl (lv_room (Nat.le_of_ble_eq_true rfl)) dX12_tellsAll_95 ⟨Nat.le_of_ble_eq_true rfl, Nat.le_of_ble_eq_true rfl⟩ (fun r_2621 u_2622 H locs hw hP hD hS => ?_)
                    obtain ⟨he_r_2621, hw⟩ := hw
                    rcases hw with ⟨rfl, -⟩ | ⟨rfl, -⟩
                    · skip
                      refine lv_if_eq (tgt := 105) hx hb dX12_tellsAll_98 (by decide) (fun _ => ?_) (fun h9 => absurd (by decide +kernel) h9)
                      refine lv_iconst (v := 0) hx hb dX12_tellsAll_105 (by decide) ?_
                      refine lv_istore (lv' := [(5, .int 0), (0, .ref h0), (1, .int x), (2, .int o), (3, .int v_2222), (4, .int v_2537)]) hx hb dX12_tellsAll_106 hl (by decide) rfl (fun ls hl => ?_)
                      refine lv_iload hx hb dX12_tellsAll_108 (lv_at hl 0 rfl) ?_
                      refine lv_if_ne (tgt := 115) hx hb dX12_tellsAll_110 (by decide) (fun h9 => absurd (by decide +kernel) h9) (fun _ => ?_)
                      refine lv_iconst (v := 0) hx hb dX12_tellsAll_113 (by decide) ?_
                      have hpost : ((0 : Int32) = 0 ∧ True) ∨ ((0 : Int32) = 1 ∧ True) := (Or.inl ⟨rfl, trivial⟩)
                      have hX_2624 : F_r_tellsAll m_thereMany g_c g_there x o = ((0 : Int32) : Int32) := by
                        refine hF_L15a.trans ?_
                        refine (F_r_tellsAll_L15a_s ..).trans ?_
                        refine (if_neg c_2593).trans ?_
                        try (extract_lets -merge -useContext +onlyGivenNames y9; have e9 : x_2598 = y9 := (by first | exact he_x_2598 | exact he_x_2598.symm); clear_value y9; subst e9)
                        try (extract_lets -merge -useContext +onlyGivenNames y9; have e9 : x_2599 = y9 := (by first | exact he_x_2599 | exact he_x_2599.symm); clear_value y9; subst e9)
                        extract_lets -merge -useContext +onlyGivenNames w9 y9; have e9 : (1 : Int32) = w9 := he_r_2600; clear_value w9; subst e9
                        refine (if_neg (show ¬ (1 : Int32) = 0 by decide)).trans ?_
                        refine (if_neg c_2608).trans ?_
                        try (extract_lets -merge -useContext +onlyGivenNames y9; have e9 : x_2613 = y9 := (by first | exact he_x_2613 | exact he_x_2613.symm); clear_value y9; subst e9)
                        try (extract_lets -merge -useContext +onlyGivenNames y9; have e9 : x_2614 = y9 := (by first | exact he_x_2614 | exact he_x_2614.symm); clear_value y9; subst e9)
                        extract_lets -merge -useContext +onlyGivenNames w9 y9; have e9 : (1 : Int32) = w9 := he_r_2615; clear_value w9; subst e9
                        refine (if_neg (show ¬ (1 : Int32) = 0 by decide)).trans ?_
                        try (extract_lets -merge -useContext +onlyGivenNames y9; have e9 : x_2619 = y9 := (by first | exact he_x_2619 | exact he_x_2619.symm); clear_value y9; subst e9)
                        try (extract_lets -merge -useContext +onlyGivenNames y9; have e9 : x_2620 = y9 := (by first | exact he_x_2620 | exact he_x_2620.symm); clear_value y9; subst e9)
                        extract_lets -merge -useContext +onlyGivenNames w9 y9; have e9 : (0 : Int32) = w9 := he_r_2621; clear_value w9; subst e9
                        refine (if_pos rfl).trans ?_
                        exact rfl
                      exact hret _ _ _ _ _ _ () [1, 2, 0] hP hD hS rfl (by decide) dX12_tellsAll_114 (Or.inl rfl) ⟨(congrArg (fun z9 => z9) hX_2624).symm, hpost⟩
                    · skip
                      refine lv_if_eq (tgt := 105) hx hb dX12_tellsAll_98 (by decide) (fun h9 => absurd h9 (by decide +kernel)) (fun _ => ?_)
                      refine lv_iconst (v := 1) hx hb dX12_tellsAll_101 (by decide) ?_
                      refine lv_goto (tgt := 106) hx hb dX12_tellsAll_102 (by decide) ?_
                      refine lv_istore (lv' := [(5, .int 1), (0, .ref h0), (1, .int x), (2, .int o), (3, .int v_2222), (4, .int v_2537)]) hx hb dX12_tellsAll_106 hl (by decide) rfl (fun ls hl => ?_)
                      refine lv_iload hx hb dX12_tellsAll_108 (lv_at hl 0 rfl) ?_
                      refine lv_if_ne (tgt := 115) hx hb dX12_tellsAll_110 (by decide) (fun _ => ?_) (fun h9 => absurd h9 (by decide +kernel))
                      obtain ⟨x_2625, he_x_2625⟩ : ∃ z : Int32, z = v_2537 + 1 := ⟨_, rfl⟩
                      have hq_x_2625 := z_addq he_x_2625 (rfl : v_2537.toInt = _) hk_1 (by omega) (by omega)
                      refine lv_iinc (v := x_2625) (lv' := [(4, .int x_2625), (5, .int 1), (0, .ref h0), (1, .int x), (2, .int o), (3, .int v_2222)]) hx hb dX12_tellsAll_115 hl (k := 5) rfl ((z_ofi (by decide +kernel)).trans he_x_2625.symm) (by decide) rfl (fun ls hl => ?_)
                      refine lv_goto (tgt := 15) hx hb dX12_tellsAll_118 (by decide) ?_
                      have hX_2626 : F_r_tellsAll m_thereMany g_c g_there x o = F_r_tellsAll_L15a m_thereMany g_c g_there x o v_2222 (F_r_tellsAll_L2a m_thereMany g_c g_there x o n_L2a) n_L15a x_2625 := by
                        refine hF_L15a.trans ?_
                        refine (F_r_tellsAll_L15a_s ..).trans ?_
                        refine (if_neg c_2593).trans ?_
                        try (extract_lets -merge -useContext +onlyGivenNames y9; have e9 : x_2598 = y9 := (by first | exact he_x_2598 | exact he_x_2598.symm); clear_value y9; subst e9)
                        try (extract_lets -merge -useContext +onlyGivenNames y9; have e9 : x_2599 = y9 := (by first | exact he_x_2599 | exact he_x_2599.symm); clear_value y9; subst e9)
                        extract_lets -merge -useContext +onlyGivenNames w9 y9; have e9 : (1 : Int32) = w9 := he_r_2600; clear_value w9; subst e9
                        refine (if_neg (show ¬ (1 : Int32) = 0 by decide)).trans ?_
                        refine (if_neg c_2608).trans ?_
                        try (extract_lets -merge -useContext +onlyGivenNames y9; have e9 : x_2613 = y9 := (by first | exact he_x_2613 | exact he_x_2613.symm); clear_value y9; subst e9)
                        try (extract_lets -merge -useContext +onlyGivenNames y9; have e9 : x_2614 = y9 := (by first | exact he_x_2614 | exact he_x_2614.symm); clear_value y9; subst e9)
                        extract_lets -merge -useContext +onlyGivenNames w9 y9; have e9 : (1 : Int32) = w9 := he_r_2615; clear_value w9; subst e9
                        refine (if_neg (show ¬ (1 : Int32) = 0 by decide)).trans ?_
                        try (extract_lets -merge -useContext +onlyGivenNames y9; have e9 : x_2619 = y9 := (by first | exact he_x_2619 | exact he_x_2619.symm); clear_value y9; subst e9)
                        try (extract_lets -merge -useContext +onlyGivenNames y9; have e9 : x_2620 = y9 := (by first | exact he_x_2620 | exact he_x_2620.symm); clear_value y9; subst e9)
                        extract_lets -merge -useContext +onlyGivenNames w9 y9; have e9 : (1 : Int32) = w9 := he_r_2621; clear_value w9; subst e9
                        refine (if_neg (show ¬ (1 : Int32) = 0 by decide)).trans ?_
                        try (extract_lets -merge -useContext +onlyGivenNames y9; have e9 : x_2625 = y9 := (by first | exact he_x_2625 | exact he_x_2625.symm); clear_value y9; subst e9)
                        exact rfl
                      have hP := hP.sub (ws' := [(h0, .inr (12, [.int m_status, .int m_thrown, .long m_above, .long m_under, .ref a_traySort, .ref a_trayMany, .ref a_numbers, .ref a_tape, .int m_taped, .int m_textEnd, .int m_faultKind, .int m_faultAt, .int m_bad, .int m_badAt, .int m_token, .int m_at, .int m_behind, .int m_number, .int m_letters, .long m_word, .ref a_c, .ref a_words, .int m_markMany, .ref a_there, .ref a_tried, .ref a_best, .ref a_found, .int m_thereMany, .int m_foundMany, .int m_orderHow, .int m_orderRing, .int m_orderMany, .int m_hasBest, .long m_bestTop, .long m_bestBy, .ref a_weights, .ref a_shared, .int m_random, .int m_truePlace, .int m_trueWay, .int m_seconds, .int m_done, .int m_feelings, .int m_tries, .int m_leftOver, .int m_playDoor, .int m_playRing, .int m_isOpen, .int m_isOver, .int m_wasTried, .int m_hasPlayed, .ref a_feltNow, .ref a_last, .ref a_kept, .int m_hasSeconds, .int m_hasTurned, .int m_hasRound, .ref a_hasFeels, .ref a_isOn, .int m_firstAct, .long m_meanTop, .long m_meanBy, .ref a_order, .int m_rowMany, .int m_newSteps])), (a_c, .inl (cA.1 0, 1825, .inl g_c)), (a_there, .inl (cA.1 0, 10, .inl g_there))]) [1, 2, 0] rfl
                      have hD := hD.sub (ws' := [(h0, .inr (12, [.int m_status, .int m_thrown, .long m_above, .long m_under, .ref a_traySort, .ref a_trayMany, .ref a_numbers, .ref a_tape, .int m_taped, .int m_textEnd, .int m_faultKind, .int m_faultAt, .int m_bad, .int m_badAt, .int m_token, .int m_at, .int m_behind, .int m_number, .int m_letters, .long m_word, .ref a_c, .ref a_words, .int m_markMany, .ref a_there, .ref a_tried, .ref a_best, .ref a_found, .int m_thereMany, .int m_foundMany, .int m_orderHow, .int m_orderRing, .int m_orderMany, .int m_hasBest, .long m_bestTop, .long m_bestBy, .ref a_weights, .ref a_shared, .int m_random, .int m_truePlace, .int m_trueWay, .int m_seconds, .int m_done, .int m_feelings, .int m_tries, .int m_leftOver, .int m_playDoor, .int m_playRing, .int m_isOpen, .int m_isOver, .int m_wasTried, .int m_hasPlayed, .ref a_feltNow, .ref a_last, .ref a_kept, .int m_hasSeconds, .int m_hasTurned, .int m_hasRound, .ref a_hasFeels, .ref a_isOn, .int m_firstAct, .long m_meanTop, .long m_meanBy, .ref a_order, .int m_rowMany, .int m_newSteps])), (a_c, .inl (cA.1 0, 1825, .inl g_c)), (a_there, .inl (cA.1 0, 10, .inl g_there))]) [1, 2, 0] (by decide) rfl
                      exact ih_2592 x_2625 H locs ls (by omega) (by omega) hX_2626 hP hD hS (lv_sub hl [2, 3, 4, 5, 0] rfl)
        have hX_2627 : F_r_tellsAll m_thereMany g_c g_there x o = F_r_tellsAll_L15a m_thereMany g_c g_there x o v_2222 (F_r_tellsAll_L2a m_thereMany g_c g_there x o n_L2a) ((2147483647 - x_2483.toInt).toNat + 1) x_2483 := by
          refine hF_L2a.trans ?_
          refine (F_r_tellsAll_L2a_s ..).trans ?_
          refine (if_neg c_2479).trans ?_
          try (extract_lets -merge -useContext +onlyGivenNames y9; have e9 : x_2483 = y9 := (by first | exact he_x_2483 | exact he_x_2483.symm); clear_value y9; subst e9)
          exact rfl
        exact hlp_2591 ((2147483647 - x_2483.toInt).toNat + 1) x_2483 _ _ _ (Nat.lt_succ_self _) (by omega) hX_2627 hP hD hS (lv_sub hl [1, 2, 3, 4, 0] rfl)
  have hX_2628 : F_r_tellsAll m_thereMany g_c g_there x o = F_r_tellsAll_L2a m_thereMany g_c g_there x o ((2147483647 - (0 : Int32).toInt).toNat + 1) (0 : Int32) := by
    refine (F_r_tellsAll_s ..).trans ?_
    exact rfl
  exact hlp_2477 ((2147483647 - (0 : Int32).toInt).toNat + 1) 0 _ _ _ (Nat.lt_succ_self _) (by decide +kernel) hX_2628 hP hD hS (lv_sub hl [1, 2, 3, 0] rfl)
set_option maxHeartbeats 40000000 in
set_option maxRecDepth 100000 in
theorem r_all (l : Launch) (G : va_G) (cA : zCA) (h0 : Nat) (m_status : Int32) (m_thrown : Int32) (m_above : Int64) (m_under : Int64) (a_traySort : Nat) (a_trayMany : Nat) (a_numbers : Nat) (a_tape : Nat) (m_taped : Int32) (m_textEnd : Int32) (m_faultKind : Int32) (m_faultAt : Int32) (m_bad : Int32) (m_badAt : Int32) (m_token : Int32) (m_at : Int32) (m_behind : Int32) (m_number : Int32) (m_letters : Int32) (m_word : Int64) (a_c : Nat) (a_words : Nat) (m_markMany : Int32) (a_there : Nat) (a_tried : Nat) (a_best : Nat) (a_found : Nat) (m_thereMany : Int32) (m_foundMany : Int32) (m_orderHow : Int32) (m_orderRing : Int32) (m_orderMany : Int32) (m_hasBest : Int32) (m_bestTop : Int64) (m_bestBy : Int64) (a_weights : Nat) (a_shared : Nat) (m_random : Int32) (m_truePlace : Int32) (m_trueWay : Int32) (m_seconds : Int32) (m_done : Int32) (m_feelings : Int32) (m_tries : Int32) (m_leftOver : Int32) (m_playDoor : Int32) (m_playRing : Int32) (m_isOpen : Int32) (m_isOver : Int32) (m_wasTried : Int32) (m_hasPlayed : Int32) (a_feltNow : Nat) (a_last : Nat) (a_kept : Nat) (m_hasSeconds : Int32) (m_hasTurned : Int32) (m_hasRound : Int32) (a_hasFeels : Nat) (a_isOn : Nat) (m_firstAct : Int32) (m_meanTop : Int64) (m_meanBy : Int64) (a_order : Nat) (m_rowMany : Int32) (m_newSteps : Int32) (g_c : Nat → Int32) (hC_g_c : zC g_c) : zCi l yX12_all cX12_all 1 (some .int) ({ frames := 0, cells := 0, slots := 0, locals := 0 }) G cA [.ref h0] [(h0, .inr (12, [.int m_status, .int m_thrown, .long m_above, .long m_under, .ref a_traySort, .ref a_trayMany, .ref a_numbers, .ref a_tape, .int m_taped, .int m_textEnd, .int m_faultKind, .int m_faultAt, .int m_bad, .int m_badAt, .int m_token, .int m_at, .int m_behind, .int m_number, .int m_letters, .long m_word, .ref a_c, .ref a_words, .int m_markMany, .ref a_there, .ref a_tried, .ref a_best, .ref a_found, .int m_thereMany, .int m_foundMany, .int m_orderHow, .int m_orderRing, .int m_orderMany, .int m_hasBest, .long m_bestTop, .long m_bestBy, .ref a_weights, .ref a_shared, .int m_random, .int m_truePlace, .int m_trueWay, .int m_seconds, .int m_done, .int m_feelings, .int m_tries, .int m_leftOver, .int m_playDoor, .int m_playRing, .int m_isOpen, .int m_isOver, .int m_wasTried, .int m_hasPlayed, .ref a_feltNow, .ref a_last, .ref a_kept, .int m_hasSeconds, .int m_hasTurned, .int m_hasRound, .ref a_hasFeels, .ref a_isOn, .int m_firstAct, .long m_meanTop, .long m_meanBy, .ref a_order, .int m_rowMany, .int m_newSteps])), (a_c, .inl (cA.1 0, 1825, .inl g_c))] (S := Unit) (fun (r : Int32) (u : Unit) => (r = (F_r_all g_c)) ∧ ((0 ≤ r.toInt ∧ r.toInt ≤ 7))) (fun (u : Unit) => [(h0, .inr (12, [.int m_status, .int m_thrown, .long m_above, .long m_under, .ref a_traySort, .ref a_trayMany, .ref a_numbers, .ref a_tape, .int m_taped, .int m_textEnd, .int m_faultKind, .int m_faultAt, .int m_bad, .int m_badAt, .int m_token, .int m_at, .int m_behind, .int m_number, .int m_letters, .long m_word, .ref a_c, .ref a_words, .int m_markMany, .ref a_there, .ref a_tried, .ref a_best, .ref a_found, .int m_thereMany, .int m_foundMany, .int m_orderHow, .int m_orderRing, .int m_orderMany, .int m_hasBest, .long m_bestTop, .long m_bestBy, .ref a_weights, .ref a_shared, .int m_random, .int m_truePlace, .int m_trueWay, .int m_seconds, .int m_done, .int m_feelings, .int m_tries, .int m_leftOver, .int m_playDoor, .int m_playRing, .int m_isOpen, .int m_isOver, .int m_wasTried, .int m_hasPlayed, .ref a_feltNow, .ref a_last, .ref a_kept, .int m_hasSeconds, .int m_hasTurned, .int m_hasRound, .ref a_hasFeels, .ref a_isOn, .int m_firstAct, .long m_meanTop, .long m_meanBy, .ref a_order, .int m_rowMany, .int m_newSteps])), (a_c, .inl (cA.1 0, 1825, .inl g_c))]) 0 0 := by
  have hk_1 : (1 : Int32).toInt = 1 := by decide +kernel
  refine z_start2i (own := RX12) (by decide) (Nat.le_of_ble_eq_true rfl) rfl ?_
  intro p e s m args below meth c A ls Q hx hb hml hts hown hK hE hT hP hD hS hA hl hret
  have hl : lv_has ls 1 [(0, .ref h0)] := hl
  refine lv_iconst (v := 1) hx hb dX12_all_0 (by decide) ?_
  refine lv_aload_n hx hb dX12_all_1 rfl (lv_at hl 0 rfl) ?_
  refine va_get (D := G) (ci := 12) (v := .ref a_c) (C := RX12) (T := TX12) (N := 65) hx hb hts inT12 hown hK hP 0 rfl rfl 20 (by decide) (hts _ tw_1905) (fun _ h9 => h9) rfl dX12_all_2 ?_
  refine lv_iconst (v := 0) hx hb dX12_all_5 (by decide) ?_
  refine va_iald hx hb hK hP 1 0 rfl rfl (z_in (i := 0) (n := 1825) (by decide +kernel) (by decide +kernel)) dX12_all_6 ?_
  refine lv_topi (fun x_1 he_x_1 => ?_)
  have hr_x_1 := z_ctk hC_g_c he_x_1 (k := 0) (lo := 0) (hi := 3) (by decide +kernel) (by decide +kernel) (by decide +kernel)
  refine lv_ishl hx hb dX12_all_7 ?_
  refine lv_topi (fun x_2 he_x_2 => ?_)
  have hr_x_2 := z_shl3 he_x_2 (by omega) (by omega)
  refine lv_iconst (v := 1) hx hb dX12_all_8 (by decide) ?_
  refine lv_isub hx hb dX12_all_9 ?_
  refine lv_topi (fun x_3 he_x_3 => ?_)
  have hq_x_3 := z_subq he_x_3 (rfl : x_2.toInt = _) hk_1 (by omega) (by omega)
  have hpost : (0 ≤ x_3.toInt ∧ x_3.toInt ≤ 7) := (by omega)
  have hX_4 : F_r_all g_c = (x_3 : Int32) := by
    refine (F_r_all_s ..).trans ?_
    try (extract_lets -merge -useContext +onlyGivenNames y9; have e9 : x_1 = y9 := (by first | exact he_x_1 | exact he_x_1.symm); clear_value y9; subst e9)
    try (extract_lets -merge -useContext +onlyGivenNames y9; have e9 : x_2 = y9 := (by first | exact he_x_2 | exact he_x_2.symm); clear_value y9; subst e9)
    try (extract_lets -merge -useContext +onlyGivenNames y9; have e9 : x_3 = y9 := (by first | exact he_x_3 | exact he_x_3.symm); clear_value y9; subst e9)
    exact rfl
  exact hret _ _ _ _ _ _ () [0, 1] hP hD hS rfl (by decide) dX12_all_10 ⟨(congrArg (fun z9 => z9) hX_4).symm, hpost⟩
set_option maxHeartbeats 40000000 in
set_option maxRecDepth 100000 in
theorem r_alike (l : Launch) (G : va_G) (cA : zCA) (h0 : Nat) (m_status : Int32) (m_thrown : Int32) (m_above : Int64) (m_under : Int64) (a_traySort : Nat) (a_trayMany : Nat) (a_numbers : Nat) (a_tape : Nat) (m_taped : Int32) (m_textEnd : Int32) (m_faultKind : Int32) (m_faultAt : Int32) (m_bad : Int32) (m_badAt : Int32) (m_token : Int32) (m_at : Int32) (m_behind : Int32) (m_number : Int32) (m_letters : Int32) (m_word : Int64) (a_c : Nat) (a_words : Nat) (m_markMany : Int32) (a_there : Nat) (a_tried : Nat) (a_best : Nat) (a_found : Nat) (m_thereMany : Int32) (m_foundMany : Int32) (m_orderHow : Int32) (m_orderRing : Int32) (m_orderMany : Int32) (m_hasBest : Int32) (m_bestTop : Int64) (m_bestBy : Int64) (a_weights : Nat) (a_shared : Nat) (m_random : Int32) (m_truePlace : Int32) (m_trueWay : Int32) (m_seconds : Int32) (m_done : Int32) (m_feelings : Int32) (m_tries : Int32) (m_leftOver : Int32) (m_playDoor : Int32) (m_playRing : Int32) (m_isOpen : Int32) (m_isOver : Int32) (m_wasTried : Int32) (m_hasPlayed : Int32) (a_feltNow : Nat) (a_last : Nat) (a_kept : Nat) (m_hasSeconds : Int32) (m_hasTurned : Int32) (m_hasRound : Int32) (a_hasFeels : Nat) (a_isOn : Nat) (m_firstAct : Int32) (m_meanTop : Int64) (m_meanBy : Int64) (a_order : Nat) (m_rowMany : Int32) (m_newSteps : Int32) (g_c : Nat → Int32) (g_there : Nat → Int32) (r : Int32) (hr_m_thereMany : 0 ≤ m_thereMany.toInt ∧ m_thereMany.toInt ≤ 10) (hC_g_c : zC g_c) (hC_g_there : zRg 10 0 9 g_there) : zCi l yX12_alike cX12_alike 5 (some .int) ({ frames := 2, cells := 0, slots := 0, locals := 50 }) G cA [.ref h0, .int r] [(h0, .inr (12, [.int m_status, .int m_thrown, .long m_above, .long m_under, .ref a_traySort, .ref a_trayMany, .ref a_numbers, .ref a_tape, .int m_taped, .int m_textEnd, .int m_faultKind, .int m_faultAt, .int m_bad, .int m_badAt, .int m_token, .int m_at, .int m_behind, .int m_number, .int m_letters, .long m_word, .ref a_c, .ref a_words, .int m_markMany, .ref a_there, .ref a_tried, .ref a_best, .ref a_found, .int m_thereMany, .int m_foundMany, .int m_orderHow, .int m_orderRing, .int m_orderMany, .int m_hasBest, .long m_bestTop, .long m_bestBy, .ref a_weights, .ref a_shared, .int m_random, .int m_truePlace, .int m_trueWay, .int m_seconds, .int m_done, .int m_feelings, .int m_tries, .int m_leftOver, .int m_playDoor, .int m_playRing, .int m_isOpen, .int m_isOver, .int m_wasTried, .int m_hasPlayed, .ref a_feltNow, .ref a_last, .ref a_kept, .int m_hasSeconds, .int m_hasTurned, .int m_hasRound, .ref a_hasFeels, .ref a_isOn, .int m_firstAct, .long m_meanTop, .long m_meanBy, .ref a_order, .int m_rowMany, .int m_newSteps])), (a_c, .inl (cA.1 0, 1825, .inl g_c)), (a_there, .inl (cA.1 0, 10, .inl g_there))] (S := Int32 × Int32 × Int32 × (Nat → Int32)) (fun (r_0 : Int32) (u : Int32 × Int32 × Int32 × (Nat → Int32)) => (r_0 = (F_r_alike m_thereMany g_c g_there r).1) ∧ (u.1 = (F_r_alike m_thereMany g_c g_there r).2.1) ∧ (u.2.1 = (F_r_alike m_thereMany g_c g_there r).2.2.1) ∧ (u.2.2.1 = (F_r_alike m_thereMany g_c g_there r).2.2.2.1) ∧ (u.2.2.2 = (F_r_alike m_thereMany g_c g_there r).2.2.2.2) ∧ ((0 ≤ u.2.1.toInt ∧ u.2.1.toInt ≤ 0) ∧ (0 ≤ u.2.2.1.toInt ∧ u.2.2.1.toInt ≤ 10) ∧ (zRg 10 0 9 u.2.2.2))) (fun (u : Int32 × Int32 × Int32 × (Nat → Int32)) => [(h0, .inr (12, [.int u.1, .int u.2.1, .long m_above, .long m_under, .ref a_traySort, .ref a_trayMany, .ref a_numbers, .ref a_tape, .int m_taped, .int m_textEnd, .int m_faultKind, .int m_faultAt, .int m_bad, .int m_badAt, .int m_token, .int m_at, .int m_behind, .int m_number, .int m_letters, .long m_word, .ref a_c, .ref a_words, .int m_markMany, .ref a_there, .ref a_tried, .ref a_best, .ref a_found, .int u.2.2.1, .int m_foundMany, .int m_orderHow, .int m_orderRing, .int m_orderMany, .int m_hasBest, .long m_bestTop, .long m_bestBy, .ref a_weights, .ref a_shared, .int m_random, .int m_truePlace, .int m_trueWay, .int m_seconds, .int m_done, .int m_feelings, .int m_tries, .int m_leftOver, .int m_playDoor, .int m_playRing, .int m_isOpen, .int m_isOver, .int m_wasTried, .int m_hasPlayed, .ref a_feltNow, .ref a_last, .ref a_kept, .int m_hasSeconds, .int m_hasTurned, .int m_hasRound, .ref a_hasFeels, .ref a_isOn, .int m_firstAct, .long m_meanTop, .long m_meanBy, .ref a_order, .int m_rowMany, .int m_newSteps])), (a_c, .inl (cA.1 0, 1825, .inl g_c)), (a_there, .inl (cA.1 0, 10, .inl u.2.2.2))]) 0 0 := by
  have hk_0 : (0 : Int32).toInt = 0 := by decide +kernel
  have hk_1 : (1 : Int32).toInt = 1 := by decide +kernel
  have hk_2 : (2 : Int32).toInt = 2 := by decide +kernel
  refine z_start2i (own := RX12) (by decide) (Nat.le_of_ble_eq_true rfl) rfl ?_
  intro p e s m args below meth c A ls Q hx hb hml hts hown hK hE hT hP hD hS hA hl hret
  have hl : lv_has ls 5 [(0, .ref h0), (1, .int r)] := hl
  refine lv_aload_n hx hb dX12_alike_0 rfl (lv_at hl 0 rfl) ?_
  refine lv_iconst (v := 0) hx hb dX12_alike_1 (by decide) ?_
  refine va_put (D := G) (ci := 12) (v := .int 0) (ty := .int) (C := RX12) (T := TX12) (N := 65) hx hb hts inT12 tyX12 tyX12_ok nmX12 hown hK hP hD hS 0 rfl rfl 1 (by decide) (hts _ tw_1886) (fun _ h9 => h9) rfl (tyX12_ok 1 (by decide)) rfl rfl (Nat.le_of_ble_eq_true rfl) dX12_alike_2 (fun H locs hP hD hS => ?_)
  refine lv_aload_n hx hb dX12_alike_5 rfl (lv_at hl 0 rfl) ?_
  refine lv_iconst (v := 0) hx hb dX12_alike_6 (by decide) ?_
  refine va_put (D := G) (ci := 12) (v := .int 0) (ty := .int) (C := RX12) (T := TX12) (N := 65) hx hb hts inT12 tyX12 tyX12_ok nmX12 hown hK hP hD hS 0 rfl rfl 0 (by decide) (hts _ tw_1885) (fun _ h9 => h9) rfl (tyX12_ok 0 (by decide)) rfl rfl (Nat.le_of_ble_eq_true rfl) dX12_alike_7 (fun H locs hP hD hS => ?_)
  refine lv_aload_n hx hb dX12_alike_10 rfl (lv_at hl 0 rfl) ?_
  refine lv_iload_n hx hb dX12_alike_11 rfl (lv_at hl 1 rfl) ?_
  refine z_callVi (As := [.int r]) (rest := []) (wr := [(a_there, .inl (cA.1 0, 10, .inl g_there))]) ⟨hx, hb, hml, hown, hts⟩ hK hE hT hP hD hS hA (r_isRing l G cA h0 0 0 m_above m_under a_traySort a_trayMany a_numbers a_tape m_taped m_textEnd m_faultKind m_faultAt m_bad m_badAt m_token m_at m_behind m_number m_letters m_word a_c a_words m_markMany a_there a_tried a_best a_found m_thereMany m_foundMany m_orderHow m_orderRing m_orderMany m_hasBest m_bestTop m_bestBy a_weights a_shared m_random m_truePlace m_trueWay m_seconds m_done m_feelings m_tries m_leftOver m_playDoor m_playRing m_isOpen m_isOver m_wasTried m_hasPlayed a_feltNow a_last a_kept m_hasSeconds m_hasTurned m_hasRound a_hasFeels a_isOn m_firstAct m_meanTop m_meanBy a_order m_rowMany m_newSteps g_c r hC_g_c) lk_RX12_289 ⟨rfl, rfl⟩ ⟨Nat.le_of_ble_eq_true rfl, Nat.le_of_ble_eq_true rfl⟩ 12 rfl rfl rfl [0, 1] [2] rfl rfl (by decide) rfl hl.1 rfl (lv_room (Nat.le_of_ble_eq_true rfl)) dX12_alike_12 ⟨Nat.le_of_ble_eq_true rfl, Nat.le_of_ble_eq_true rfl⟩ (fun r_1 u_2 H locs hw hP hD hS => ?_)
  obtain ⟨he_r_1, hw⟩ := hw
  rcases hw with ⟨rfl, -⟩ | ⟨rfl, hf_4, hf_5⟩
  · skip
    refine lv_if_ne (tgt := 24) hx hb dX12_alike_15 (by decide) (fun h9 => absurd (by decide +kernel) h9) (fun _ => ?_)
    refine lv_aload_n hx hb dX12_alike_18 rfl (lv_at hl 0 rfl) ?_
    refine lv_iconst (v := 2) hx hb dX12_alike_19 (by decide) ?_
    refine z_callVi (As := [.int 2]) (rest := []) (wr := [(a_there, .inl (cA.1 0, 10, .inl g_there)), (a_c, .inl (cA.1 0, 1825, .inl g_c))]) ⟨hx, hb, hml, hown, hts⟩ hK hE hT hP hD hS hA (r_refuse l G cA h0 0 0 m_above m_under a_traySort a_trayMany a_numbers a_tape m_taped m_textEnd m_faultKind m_faultAt m_bad m_badAt m_token m_at m_behind m_number m_letters m_word a_c a_words m_markMany a_there a_tried a_best a_found m_thereMany m_foundMany m_orderHow m_orderRing m_orderMany m_hasBest m_bestTop m_bestBy a_weights a_shared m_random m_truePlace m_trueWay m_seconds m_done m_feelings m_tries m_leftOver m_playDoor m_playRing m_isOpen m_isOver m_wasTried m_hasPlayed a_feltNow a_last a_kept m_hasSeconds m_hasTurned m_hasRound a_hasFeels a_isOn m_firstAct m_meanTop m_meanBy a_order m_rowMany m_newSteps 2) lk_RX12_269 ⟨rfl, rfl⟩ ⟨Nat.le_of_ble_eq_true rfl, Nat.le_of_ble_eq_true rfl⟩ 12 rfl rfl rfl [1] [0, 2] rfl rfl (by decide) rfl hl.1 rfl (lv_room (Nat.le_of_ble_eq_true rfl)) dX12_alike_20 ⟨Nat.le_of_ble_eq_true rfl, Nat.le_of_ble_eq_true rfl⟩ (fun r_7 u_8 H locs hw hP hD hS => ?_)
    obtain ⟨n_6, rfl⟩ : ∃ z, z = u_8 := ⟨_, rfl⟩
    obtain ⟨he_r_7, he_n_6, hw⟩ := hw
    have hr_r_7 := hw
    have hpost : (0 ≤ (0 : Int32).toInt ∧ (0 : Int32).toInt ≤ 0) ∧ (0 ≤ m_thereMany.toInt ∧ m_thereMany.toInt ≤ 10) ∧ (zRg 10 0 9 g_there) := ⟨(by decide +kernel), hr_m_thereMany, hC_g_there⟩
    have hX_10 : F_r_alike m_thereMany g_c g_there r = ((r_7, n_6, (0 : Int32), m_thereMany, g_there) : Int32 × Int32 × Int32 × Int32 × (Nat → Int32)) := by
      refine (F_r_alike_s ..).trans ?_
      extract_lets -merge -useContext +onlyGivenNames w9 y9; have e9 : (0 : Int32) = w9 := he_r_1; clear_value w9; subst e9
      refine (if_pos rfl).trans ?_
      extract_lets -merge -useContext +onlyGivenNames w9 y2_0 y2_1; have e9 : (r_7, n_6) = w9 := ((z_tS he_r_7 he_n_6.symm)).symm; clear_value w9; subst e9
      exact rfl
    exact hret _ _ _ _ _ _ (n_6, 0, m_thereMany, g_there) [2, 1, 0] hP hD hS rfl (by decide) dX12_alike_23 ⟨(congrArg (fun z9 => z9.1) hX_10).symm, (congrArg (fun z9 => z9.2.1) hX_10).symm, (congrArg (fun z9 => z9.2.2.1) hX_10).symm, (congrArg (fun z9 => z9.2.2.2.1) hX_10).symm, (congrArg (fun z9 => z9.2.2.2.2) hX_10).symm, hpost⟩
  · skip
    refine lv_if_ne (tgt := 24) hx hb dX12_alike_15 (by decide) (fun _ => ?_) (fun h9 => absurd h9 (by decide +kernel))
    refine lv_aload_n hx hb dX12_alike_24 rfl (lv_at hl 0 rfl) ?_
    refine lv_iload_n hx hb dX12_alike_25 rfl (lv_at hl 1 rfl) ?_
    refine z_callVv (As := [.int r]) (rest := []) (wr := []) ⟨hx, hb, hml, hown, hts⟩ hK hE hT hP hD hS hA (r_gather l G cA h0 0 0 m_above m_under a_traySort a_trayMany a_numbers a_tape m_taped m_textEnd m_faultKind m_faultAt m_bad m_badAt m_token m_at m_behind m_number m_letters m_word a_c a_words m_markMany a_there a_tried a_best a_found m_thereMany m_foundMany m_orderHow m_orderRing m_orderMany m_hasBest m_bestTop m_bestBy a_weights a_shared m_random m_truePlace m_trueWay m_seconds m_done m_feelings m_tries m_leftOver m_playDoor m_playRing m_isOpen m_isOver m_wasTried m_hasPlayed a_feltNow a_last a_kept m_hasSeconds m_hasTurned m_hasRound a_hasFeels a_isOn m_firstAct m_meanTop m_meanBy a_order m_rowMany m_newSteps g_c g_there r (by omega) hr_m_thereMany hC_g_c hC_g_there) lk_RX12_292 ⟨rfl, rfl⟩ ⟨Nat.le_of_ble_eq_true rfl, Nat.le_of_ble_eq_true rfl⟩ 12 rfl rfl rfl [1, 2, 0] [] rfl rfl (by decide) rfl hl.1 rfl (lv_room (Nat.le_of_ble_eq_true rfl)) dX12_alike_26 ⟨Nat.le_of_ble_eq_true rfl, Nat.le_of_ble_eq_true rfl⟩ (fun u_14 H locs hw hP hD hS => ?_)
    obtain ⟨n_11, n_12⟩ := u_14
    try dsimp only at hw
    obtain ⟨he_n_11, he_n_12, hw⟩ := hw
    obtain ⟨hr_n_11, hC_n_12, hf_16, hf_17⟩ := hw
    refine lv_iconst (v := 0) hx hb dX12_alike_29 (by decide) ?_
    refine lv_istore_n (lv' := [(2, .int 0), (0, .ref h0), (1, .int r)]) hx hb dX12_alike_30 rfl hl (by decide) rfl (fun ls hl => ?_)
    refine lv_iconst (v := 0) hx hb dX12_alike_31 (by decide) ?_
    refine lv_istore_n (lv' := [(3, .int 0), (2, .int 0), (0, .ref h0), (1, .int r)]) hx hb dX12_alike_32 rfl hl (by decide) rfl (fun ls hl => ?_)
    have hlp_2164 : ∀ (n_L33a : Nat) (v_2003 : Int32) (v_2004 : Int32) (H : Heap) (locs : List Loc) (ls : Array Slot), (2147483647 - v_2004.toInt).toNat < n_L33a → (0 ≤ v_2004.toInt ∧ v_2004.toInt ≤ 10) → (F_r_alike m_thereMany g_c g_there r = F_r_alike_L33a g_c n_11 n_12 n_L33a v_2003 v_2004) → va_P G vwCl [(h0, .inr (12, [.int 0, .int 0, .long m_above, .long m_under, .ref a_traySort, .ref a_trayMany, .ref a_numbers, .ref a_tape, .int m_taped, .int m_textEnd, .int m_faultKind, .int m_faultAt, .int m_bad, .int m_badAt, .int m_token, .int m_at, .int m_behind, .int m_number, .int m_letters, .long m_word, .ref a_c, .ref a_words, .int m_markMany, .ref a_there, .ref a_tried, .ref a_best, .ref a_found, .int n_11, .int m_foundMany, .int m_orderHow, .int m_orderRing, .int m_orderMany, .int m_hasBest, .long m_bestTop, .long m_bestBy, .ref a_weights, .ref a_shared, .int m_random, .int m_truePlace, .int m_trueWay, .int m_seconds, .int m_done, .int m_feelings, .int m_tries, .int m_leftOver, .int m_playDoor, .int m_playRing, .int m_isOpen, .int m_isOver, .int m_wasTried, .int m_hasPlayed, .ref a_feltNow, .ref a_last, .ref a_kept, .int m_hasSeconds, .int m_hasTurned, .int m_hasRound, .ref a_hasFeels, .ref a_isOn, .int m_firstAct, .long m_meanTop, .long m_meanBy, .ref a_order, .int m_rowMany, .int m_newSteps])), (a_c, .inl (cA.1 0, 1825, .inl g_c)), (a_there, .inl (cA.1 0, 10, .inl n_12))] H → va_D A [(h0, .inr (12, [.int 0, .int 0, .long m_above, .long m_under, .ref a_traySort, .ref a_trayMany, .ref a_numbers, .ref a_tape, .int m_taped, .int m_textEnd, .int m_faultKind, .int m_faultAt, .int m_bad, .int m_badAt, .int m_token, .int m_at, .int m_behind, .int m_number, .int m_letters, .long m_word, .ref a_c, .ref a_words, .int m_markMany, .ref a_there, .ref a_tried, .ref a_best, .ref a_found, .int n_11, .int m_foundMany, .int m_orderHow, .int m_orderRing, .int m_orderMany, .int m_hasBest, .long m_bestTop, .long m_bestBy, .ref a_weights, .ref a_shared, .int m_random, .int m_truePlace, .int m_trueWay, .int m_seconds, .int m_done, .int m_feelings, .int m_tries, .int m_leftOver, .int m_playDoor, .int m_playRing, .int m_isOpen, .int m_isOver, .int m_wasTried, .int m_hasPlayed, .ref a_feltNow, .ref a_last, .ref a_kept, .int m_hasSeconds, .int m_hasTurned, .int m_hasRound, .ref a_hasFeels, .ref a_isOn, .int m_firstAct, .long m_meanTop, .long m_meanBy, .ref a_order, .int m_rowMany, .int m_newSteps])), (a_c, .inl (cA.1 0, 1825, .inl g_c)), (a_there, .inl (cA.1 0, 10, .inl n_12))] → va_S A s.heap H locs → lv_has ls 5 [(0, .ref h0), (1, .int r), (2, .int v_2003), (3, .int v_2004)] → W p l e ({ frames := 2, cells := 0, slots := 0, locals := 50 }) s m args below meth c H locs 0 0 Q (F0 m 33 ls []) := by
      intro n_L33a
      induction n_L33a with
      | zero =>
        intro v_2003 v_2004 H locs ls hmu_hlp_2164 hr_v_2004 hF_L33a hP hD hS hl
        exact absurd hmu_hlp_2164 (Nat.not_lt_zero _)
      | succ n_L33a ih_2165 =>
        intro v_2003 v_2004 H locs ls hmu_hlp_2164 hr_v_2004 hF_L33a hP hD hS hl
        refine lv_iload_n hx hb dX12_alike_33 rfl (lv_at hl 3 rfl) ?_
        refine lv_aload_n hx hb dX12_alike_34 rfl (lv_at hl 0 rfl) ?_
        refine va_get (D := G) (ci := 12) (v := .int n_11) (C := RX12) (T := TX12) (N := 65) hx hb hts inT12 hown hK hP 0 rfl rfl 27 (by decide) (hts _ tw_1912) (fun _ h9 => h9) rfl dX12_alike_35 ?_
        refine lv_icmp_ge (tgt := 101) hx hb dX12_alike_38 (by decide) (fun c_2166 => ?_) (fun c_2166 => ?_)
        · have b_2167 := z_fgeT c_2166
          refine lv_iload_n hx hb dX12_alike_101 rfl (lv_at hl 2 rfl) ?_
          have hpost : (0 ≤ (0 : Int32).toInt ∧ (0 : Int32).toInt ≤ 0) ∧ (0 ≤ n_11.toInt ∧ n_11.toInt ≤ 10) ∧ (zRg 10 0 9 n_12) := ⟨(by decide +kernel), hr_n_11, hC_n_12⟩
          have hX_2168 : F_r_alike m_thereMany g_c g_there r = ((v_2003, (0 : Int32), (0 : Int32), n_11, n_12) : Int32 × Int32 × Int32 × Int32 × (Nat → Int32)) := by
            refine hF_L33a.trans ?_
            refine (F_r_alike_L33a_s ..).trans ?_
            refine (if_pos c_2166).trans ?_
            exact rfl
          exact hret _ _ _ _ _ _ (0, 0, n_11, n_12) [0, 1, 2] hP hD hS rfl (by decide) dX12_alike_102 ⟨(congrArg (fun z9 => z9.1) hX_2168).symm, (congrArg (fun z9 => z9.2.1) hX_2168).symm, (congrArg (fun z9 => z9.2.2.1) hX_2168).symm, (congrArg (fun z9 => z9.2.2.2.1) hX_2168).symm, (congrArg (fun z9 => z9.2.2.2.2) hX_2168).symm, hpost⟩
        · have b_2169 := z_fltF c_2166
          refine lv_iload_n hx hb dX12_alike_41 rfl (lv_at hl 3 rfl) ?_
          refine lv_iconst (v := 1) hx hb dX12_alike_42 (by decide) ?_
          refine lv_iadd hx hb dX12_alike_43 ?_
          refine lv_topi (fun x_2170 he_x_2170 => ?_)
          have hq_x_2170 := z_addq he_x_2170 (rfl : v_2004.toInt = _) hk_1 (by omega) (by omega)
          refine lv_istore (lv' := [(4, .int x_2170), (0, .ref h0), (1, .int r), (2, .int v_2003), (3, .int v_2004)]) hx hb dX12_alike_44 hl (by decide) rfl (fun ls hl => ?_)
          have hlp_2236 : ∀ (n_L46a : Nat) (v_2203 : Int32) (v_2204 : Int32) (H : Heap) (locs : List Loc) (ls : Array Slot), (2147483647 - v_2204.toInt).toNat < n_L46a → (1 ≤ v_2204.toInt ∧ v_2204.toInt ≤ 10) → (F_r_alike m_thereMany g_c g_there r = F_r_alike_L46a g_c n_11 n_12 v_2004 (F_r_alike_L33a g_c n_11 n_12 n_L33a) n_L46a v_2203 v_2204) → va_P G vwCl [(h0, .inr (12, [.int 0, .int 0, .long m_above, .long m_under, .ref a_traySort, .ref a_trayMany, .ref a_numbers, .ref a_tape, .int m_taped, .int m_textEnd, .int m_faultKind, .int m_faultAt, .int m_bad, .int m_badAt, .int m_token, .int m_at, .int m_behind, .int m_number, .int m_letters, .long m_word, .ref a_c, .ref a_words, .int m_markMany, .ref a_there, .ref a_tried, .ref a_best, .ref a_found, .int n_11, .int m_foundMany, .int m_orderHow, .int m_orderRing, .int m_orderMany, .int m_hasBest, .long m_bestTop, .long m_bestBy, .ref a_weights, .ref a_shared, .int m_random, .int m_truePlace, .int m_trueWay, .int m_seconds, .int m_done, .int m_feelings, .int m_tries, .int m_leftOver, .int m_playDoor, .int m_playRing, .int m_isOpen, .int m_isOver, .int m_wasTried, .int m_hasPlayed, .ref a_feltNow, .ref a_last, .ref a_kept, .int m_hasSeconds, .int m_hasTurned, .int m_hasRound, .ref a_hasFeels, .ref a_isOn, .int m_firstAct, .long m_meanTop, .long m_meanBy, .ref a_order, .int m_rowMany, .int m_newSteps])), (a_c, .inl (cA.1 0, 1825, .inl g_c)), (a_there, .inl (cA.1 0, 10, .inl n_12))] H → va_D A [(h0, .inr (12, [.int 0, .int 0, .long m_above, .long m_under, .ref a_traySort, .ref a_trayMany, .ref a_numbers, .ref a_tape, .int m_taped, .int m_textEnd, .int m_faultKind, .int m_faultAt, .int m_bad, .int m_badAt, .int m_token, .int m_at, .int m_behind, .int m_number, .int m_letters, .long m_word, .ref a_c, .ref a_words, .int m_markMany, .ref a_there, .ref a_tried, .ref a_best, .ref a_found, .int n_11, .int m_foundMany, .int m_orderHow, .int m_orderRing, .int m_orderMany, .int m_hasBest, .long m_bestTop, .long m_bestBy, .ref a_weights, .ref a_shared, .int m_random, .int m_truePlace, .int m_trueWay, .int m_seconds, .int m_done, .int m_feelings, .int m_tries, .int m_leftOver, .int m_playDoor, .int m_playRing, .int m_isOpen, .int m_isOver, .int m_wasTried, .int m_hasPlayed, .ref a_feltNow, .ref a_last, .ref a_kept, .int m_hasSeconds, .int m_hasTurned, .int m_hasRound, .ref a_hasFeels, .ref a_isOn, .int m_firstAct, .long m_meanTop, .long m_meanBy, .ref a_order, .int m_rowMany, .int m_newSteps])), (a_c, .inl (cA.1 0, 1825, .inl g_c)), (a_there, .inl (cA.1 0, 10, .inl n_12))] → va_S A s.heap H locs → lv_has ls 5 [(0, .ref h0), (1, .int r), (2, .int v_2203), (3, .int v_2004), (4, .int v_2204)] → W p l e ({ frames := 2, cells := 0, slots := 0, locals := 50 }) s m args below meth c H locs 0 0 Q (F0 m 46 ls []) := by
            intro n_L46a
            induction n_L46a with
            | zero =>
              intro v_2203 v_2204 H locs ls hmu_hlp_2236 hr_v_2204 hF_L46a hP hD hS hl
              exact absurd hmu_hlp_2236 (Nat.not_lt_zero _)
            | succ n_L46a ih_2237 =>
              intro v_2203 v_2204 H locs ls hmu_hlp_2236 hr_v_2204 hF_L46a hP hD hS hl
              refine lv_iload hx hb dX12_alike_46 (lv_at hl 4 rfl) ?_
              refine lv_aload_n hx hb dX12_alike_48 rfl (lv_at hl 0 rfl) ?_
              refine va_get (D := G) (ci := 12) (v := .int n_11) (C := RX12) (T := TX12) (N := 65) hx hb hts inT12 hown hK hP 0 rfl rfl 27 (by decide) (hts _ tw_1912) (fun _ h9 => h9) rfl dX12_alike_49 ?_
              refine lv_icmp_ge (tgt := 95) hx hb dX12_alike_52 (by decide) (fun c_2238 => ?_) (fun c_2238 => ?_)
              · have b_2239 := z_fgeT c_2238
                obtain ⟨x_2240, he_x_2240⟩ : ∃ z : Int32, z = v_2004 + 1 := ⟨_, rfl⟩
                have hq_x_2240 := z_addq he_x_2240 (rfl : v_2004.toInt = _) hk_1 (by omega) (by omega)
                refine lv_iinc (v := x_2240) (lv' := [(3, .int x_2240), (0, .ref h0), (1, .int r), (2, .int v_2203), (4, .int v_2204)]) hx hb dX12_alike_95 hl (k := 3) rfl ((z_ofi (by decide +kernel)).trans he_x_2240.symm) (by decide) rfl (fun ls hl => ?_)
                refine lv_goto (tgt := 33) hx hb dX12_alike_98 (by decide) ?_
                have hX_2241 : F_r_alike m_thereMany g_c g_there r = F_r_alike_L33a g_c n_11 n_12 n_L33a v_2203 x_2240 := by
                  refine hF_L46a.trans ?_
                  refine (F_r_alike_L46a_s ..).trans ?_
                  refine (if_pos c_2238).trans ?_
                  try (extract_lets -merge -useContext +onlyGivenNames y9; have e9 : x_2240 = y9 := (by first | exact he_x_2240 | exact he_x_2240.symm); clear_value y9; subst e9)
                  exact rfl
                exact ih_2165 v_2203 x_2240 H locs ls (by omega) (by omega) hX_2241 hP hD hS (lv_sub hl [1, 2, 3, 0] rfl)
              · have b_2242 := z_fltF c_2238
                refine lv_iload_n hx hb dX12_alike_55 rfl (lv_at hl 2 rfl) ?_
                refine lv_aload_n hx hb dX12_alike_56 rfl (lv_at hl 0 rfl) ?_
                refine lv_aload_n hx hb dX12_alike_57 rfl (lv_at hl 0 rfl) ?_
                refine va_get (D := G) (ci := 12) (v := .ref a_there) (C := RX12) (T := TX12) (N := 65) hx hb hts inT12 hown hK hP 0 rfl rfl 23 (by decide) (hts _ tw_1908) (fun _ h9 => h9) rfl dX12_alike_58 ?_
                refine lv_iload_n hx hb dX12_alike_61 rfl (lv_at hl 3 rfl) ?_
                refine va_iald hx hb hK hP 2 0 rfl rfl (z_inN (by omega) (by omega)) dX12_alike_62 ?_
                refine lv_topi (fun x_2243 he_x_2243 => ?_)
                have hr_x_2243 := z_rg hC_n_12 he_x_2243 (by omega) (by omega)
                refine lv_iconst (v := 0) hx hb dX12_alike_63 (by decide) ?_
                refine lv_aload_n hx hb dX12_alike_64 rfl (lv_at hl 0 rfl) ?_
                refine va_get (D := G) (ci := 12) (v := .ref a_there) (C := RX12) (T := TX12) (N := 65) hx hb hts inT12 hown hK hP 0 rfl rfl 23 (by decide) (hts _ tw_1908) (fun _ h9 => h9) rfl dX12_alike_65 ?_
                refine lv_iload hx hb dX12_alike_68 (lv_at hl 4 rfl) ?_
                refine va_iald hx hb hK hP 2 0 rfl rfl (z_inN (by omega) (by omega)) dX12_alike_70 ?_
                refine lv_topi (fun x_2244 he_x_2244 => ?_)
                have hr_x_2244 := z_rg hC_n_12 he_x_2244 (by omega) (by omega)
                refine lv_iconst (v := 0) hx hb dX12_alike_71 (by decide) ?_
                refine lv_aload_n hx hb dX12_alike_72 rfl (lv_at hl 0 rfl) ?_
                refine z_callVi (As := []) (rest := [.int 0, .int x_2244, .int 0, .int x_2243, .ref h0, .int v_2203]) (wr := [(a_there, .inl (cA.1 0, 10, .inl n_12))]) ⟨hx, hb, hml, hown, hts⟩ hK hE hT hP hD hS hA (r_all l G cA h0 0 0 m_above m_under a_traySort a_trayMany a_numbers a_tape m_taped m_textEnd m_faultKind m_faultAt m_bad m_badAt m_token m_at m_behind m_number m_letters m_word a_c a_words m_markMany a_there a_tried a_best a_found n_11 m_foundMany m_orderHow m_orderRing m_orderMany m_hasBest m_bestTop m_bestBy a_weights a_shared m_random m_truePlace m_trueWay m_seconds m_done m_feelings m_tries m_leftOver m_playDoor m_playRing m_isOpen m_isOver m_wasTried m_hasPlayed a_feltNow a_last a_kept m_hasSeconds m_hasTurned m_hasRound a_hasFeels a_isOn m_firstAct m_meanTop m_meanBy a_order m_rowMany m_newSteps g_c hC_g_c) lk_RX12_457 ⟨rfl, rfl⟩ ⟨Nat.le_of_ble_eq_true rfl, Nat.le_of_ble_eq_true rfl⟩ 12 rfl rfl rfl [0, 1] [2] rfl rfl (by decide) rfl hl.1 rfl (lv_room (Nat.le_of_ble_eq_true rfl)) dX12_alike_73 ⟨Nat.le_of_ble_eq_true rfl, Nat.le_of_ble_eq_true rfl⟩ (fun r_2245 u_2246 H locs hw hP hD hS => ?_)
                obtain ⟨he_r_2245, hw⟩ := hw
                have hr_r_2245 := hw
                refine z_callVi (As := [.int x_2243, .int 0, .int x_2244, .int 0, .int r_2245]) (rest := [.int v_2203]) (wr := [(a_there, .inl (cA.1 0, 10, .inl n_12))]) ⟨hx, hb, hml, hown, hts⟩ hK hE hT hP hD hS hA (r_differ l G cA h0 0 0 m_above m_under a_traySort a_trayMany a_numbers a_tape m_taped m_textEnd m_faultKind m_faultAt m_bad m_badAt m_token m_at m_behind m_number m_letters m_word a_c a_words m_markMany a_there a_tried a_best a_found n_11 m_foundMany m_orderHow m_orderRing m_orderMany m_hasBest m_bestTop m_bestBy a_weights a_shared m_random m_truePlace m_trueWay m_seconds m_done m_feelings m_tries m_leftOver m_playDoor m_playRing m_isOpen m_isOver m_wasTried m_hasPlayed a_feltNow a_last a_kept m_hasSeconds m_hasTurned m_hasRound a_hasFeels a_isOn m_firstAct m_meanTop m_meanBy a_order m_rowMany m_newSteps g_c x_2243 0 x_2244 0 r_2245 hr_x_2243 (by decide +kernel) hr_x_2244 (by decide +kernel) hC_g_c) lk_RX12_453 ⟨rfl, rfl⟩ ⟨Nat.le_of_ble_eq_true rfl, Nat.le_of_ble_eq_true rfl⟩ 12 rfl rfl rfl [1, 2] [0] rfl rfl (by decide) rfl hl.1 rfl (lv_room (Nat.le_of_ble_eq_true rfl)) dX12_alike_76 ⟨Nat.le_of_ble_eq_true rfl, Nat.le_of_ble_eq_true rfl⟩ (fun r_2248 u_2249 H locs hw hP hD hS => ?_)
                obtain ⟨he_r_2248, hw⟩ := hw
                rcases hw with ⟨rfl, -⟩ | ⟨rfl, -⟩
                · skip
                  refine lv_if_eq (tgt := 86) hx hb dX12_alike_79 (by decide) (fun _ => ?_) (fun h9 => absurd (by decide +kernel) h9)
                  refine lv_iconst (v := 1) hx hb dX12_alike_86 (by decide) ?_
                  refine lv_iadd hx hb dX12_alike_87 ?_
                  have hL_v_2203 := z_full v_2203
                  refine lv_topi (fun x_2251 he_x_2251 => ?_)
                  refine lv_istore_n (lv' := [(2, .int x_2251), (0, .ref h0), (1, .int r), (3, .int v_2004), (4, .int v_2204)]) hx hb dX12_alike_88 rfl hl (by decide) rfl (fun ls hl => ?_)
                  obtain ⟨x_2252, he_x_2252⟩ : ∃ z : Int32, z = v_2204 + 1 := ⟨_, rfl⟩
                  have hq_x_2252 := z_addq he_x_2252 (rfl : v_2204.toInt = _) hk_1 (by omega) (by omega)
                  refine lv_iinc (v := x_2252) (lv' := [(4, .int x_2252), (2, .int x_2251), (0, .ref h0), (1, .int r), (3, .int v_2004)]) hx hb dX12_alike_89 hl (k := 4) rfl ((z_ofi (by decide +kernel)).trans he_x_2252.symm) (by decide) rfl (fun ls hl => ?_)
                  refine lv_goto (tgt := 46) hx hb dX12_alike_92 (by decide) ?_
                  have hX_2253 : F_r_alike m_thereMany g_c g_there r = F_r_alike_L46a g_c n_11 n_12 v_2004 (F_r_alike_L33a g_c n_11 n_12 n_L33a) n_L46a x_2251 x_2252 := by
                    refine hF_L46a.trans ?_
                    refine (F_r_alike_L46a_s ..).trans ?_
                    refine (if_neg c_2238).trans ?_
                    try (extract_lets -merge -useContext +onlyGivenNames y9; have e9 : x_2243 = y9 := (by first | exact he_x_2243 | exact he_x_2243.symm); clear_value y9; subst e9)
                    try (extract_lets -merge -useContext +onlyGivenNames y9; have e9 : x_2244 = y9 := (by first | exact he_x_2244 | exact he_x_2244.symm); clear_value y9; subst e9)
                    extract_lets -merge -useContext +onlyGivenNames w9 y9; have e9 : r_2245 = w9 := he_r_2245; clear_value w9; subst e9
                    extract_lets -merge -useContext +onlyGivenNames w9 y9; have e9 : (0 : Int32) = w9 := he_r_2248; clear_value w9; subst e9
                    refine (if_pos rfl).trans ?_
                    try (extract_lets -merge -useContext +onlyGivenNames y9; have e9 : x_2251 = y9 := (by first | exact he_x_2251 | exact he_x_2251.symm); clear_value y9; subst e9)
                    try (extract_lets -merge -useContext +onlyGivenNames y9; have e9 : x_2252 = y9 := (by first | exact he_x_2252 | exact he_x_2252.symm); clear_value y9; subst e9)
                    exact rfl
                  have hP := hP.sub (ws' := [(h0, .inr (12, [.int 0, .int 0, .long m_above, .long m_under, .ref a_traySort, .ref a_trayMany, .ref a_numbers, .ref a_tape, .int m_taped, .int m_textEnd, .int m_faultKind, .int m_faultAt, .int m_bad, .int m_badAt, .int m_token, .int m_at, .int m_behind, .int m_number, .int m_letters, .long m_word, .ref a_c, .ref a_words, .int m_markMany, .ref a_there, .ref a_tried, .ref a_best, .ref a_found, .int n_11, .int m_foundMany, .int m_orderHow, .int m_orderRing, .int m_orderMany, .int m_hasBest, .long m_bestTop, .long m_bestBy, .ref a_weights, .ref a_shared, .int m_random, .int m_truePlace, .int m_trueWay, .int m_seconds, .int m_done, .int m_feelings, .int m_tries, .int m_leftOver, .int m_playDoor, .int m_playRing, .int m_isOpen, .int m_isOver, .int m_wasTried, .int m_hasPlayed, .ref a_feltNow, .ref a_last, .ref a_kept, .int m_hasSeconds, .int m_hasTurned, .int m_hasRound, .ref a_hasFeels, .ref a_isOn, .int m_firstAct, .long m_meanTop, .long m_meanBy, .ref a_order, .int m_rowMany, .int m_newSteps])), (a_c, .inl (cA.1 0, 1825, .inl g_c)), (a_there, .inl (cA.1 0, 10, .inl n_12))]) [1, 2, 0] rfl
                  have hD := hD.sub (ws' := [(h0, .inr (12, [.int 0, .int 0, .long m_above, .long m_under, .ref a_traySort, .ref a_trayMany, .ref a_numbers, .ref a_tape, .int m_taped, .int m_textEnd, .int m_faultKind, .int m_faultAt, .int m_bad, .int m_badAt, .int m_token, .int m_at, .int m_behind, .int m_number, .int m_letters, .long m_word, .ref a_c, .ref a_words, .int m_markMany, .ref a_there, .ref a_tried, .ref a_best, .ref a_found, .int n_11, .int m_foundMany, .int m_orderHow, .int m_orderRing, .int m_orderMany, .int m_hasBest, .long m_bestTop, .long m_bestBy, .ref a_weights, .ref a_shared, .int m_random, .int m_truePlace, .int m_trueWay, .int m_seconds, .int m_done, .int m_feelings, .int m_tries, .int m_leftOver, .int m_playDoor, .int m_playRing, .int m_isOpen, .int m_isOver, .int m_wasTried, .int m_hasPlayed, .ref a_feltNow, .ref a_last, .ref a_kept, .int m_hasSeconds, .int m_hasTurned, .int m_hasRound, .ref a_hasFeels, .ref a_isOn, .int m_firstAct, .long m_meanTop, .long m_meanBy, .ref a_order, .int m_rowMany, .int m_newSteps])), (a_c, .inl (cA.1 0, 1825, .inl g_c)), (a_there, .inl (cA.1 0, 10, .inl n_12))]) [1, 2, 0] (by decide) rfl
                  exact ih_2237 x_2251 x_2252 H locs ls (by omega) (by omega) hX_2253 hP hD hS (lv_sub hl [2, 3, 1, 4, 0] rfl)
                · skip
                  refine lv_if_eq (tgt := 86) hx hb dX12_alike_79 (by decide) (fun h9 => absurd h9 (by decide +kernel)) (fun _ => ?_)
                  refine lv_iconst (v := 0) hx hb dX12_alike_82 (by decide) ?_
                  refine lv_goto (tgt := 87) hx hb dX12_alike_83 (by decide) ?_
                  refine lv_iadd hx hb dX12_alike_87 ?_
                  have hL_v_2203 := z_full v_2203
                  refine lv_topi (fun x_2254 he_x_2254 => ?_)
                  have hq_x_2254 := z_addq he_x_2254 (rfl : v_2203.toInt = _) hk_0 (by omega) (by omega)
                  refine lv_istore_n (lv' := [(2, .int x_2254), (0, .ref h0), (1, .int r), (3, .int v_2004), (4, .int v_2204)]) hx hb dX12_alike_88 rfl hl (by decide) rfl (fun ls hl => ?_)
                  obtain ⟨x_2255, he_x_2255⟩ : ∃ z : Int32, z = v_2204 + 1 := ⟨_, rfl⟩
                  have hq_x_2255 := z_addq he_x_2255 (rfl : v_2204.toInt = _) hk_1 (by omega) (by omega)
                  refine lv_iinc (v := x_2255) (lv' := [(4, .int x_2255), (2, .int x_2254), (0, .ref h0), (1, .int r), (3, .int v_2004)]) hx hb dX12_alike_89 hl (k := 4) rfl ((z_ofi (by decide +kernel)).trans he_x_2255.symm) (by decide) rfl (fun ls hl => ?_)
                  refine lv_goto (tgt := 46) hx hb dX12_alike_92 (by decide) ?_
                  have hX_2256 : F_r_alike m_thereMany g_c g_there r = F_r_alike_L46a g_c n_11 n_12 v_2004 (F_r_alike_L33a g_c n_11 n_12 n_L33a) n_L46a x_2254 x_2255 := by
                    refine hF_L46a.trans ?_
                    refine (F_r_alike_L46a_s ..).trans ?_
                    refine (if_neg c_2238).trans ?_
                    try (extract_lets -merge -useContext +onlyGivenNames y9; have e9 : x_2243 = y9 := (by first | exact he_x_2243 | exact he_x_2243.symm); clear_value y9; subst e9)
                    try (extract_lets -merge -useContext +onlyGivenNames y9; have e9 : x_2244 = y9 := (by first | exact he_x_2244 | exact he_x_2244.symm); clear_value y9; subst e9)
                    extract_lets -merge -useContext +onlyGivenNames w9 y9; have e9 : r_2245 = w9 := he_r_2245; clear_value w9; subst e9
                    extract_lets -merge -useContext +onlyGivenNames w9 y9; have e9 : (1 : Int32) = w9 := he_r_2248; clear_value w9; subst e9
                    refine (if_neg (show ¬ (1 : Int32) = 0 by decide)).trans ?_
                    try (extract_lets -merge -useContext +onlyGivenNames y9; have e9 : x_2254 = y9 := (by first | exact he_x_2254 | exact he_x_2254.symm); clear_value y9; subst e9)
                    try (extract_lets -merge -useContext +onlyGivenNames y9; have e9 : x_2255 = y9 := (by first | exact he_x_2255 | exact he_x_2255.symm); clear_value y9; subst e9)
                    exact rfl
                  have hP := hP.sub (ws' := [(h0, .inr (12, [.int 0, .int 0, .long m_above, .long m_under, .ref a_traySort, .ref a_trayMany, .ref a_numbers, .ref a_tape, .int m_taped, .int m_textEnd, .int m_faultKind, .int m_faultAt, .int m_bad, .int m_badAt, .int m_token, .int m_at, .int m_behind, .int m_number, .int m_letters, .long m_word, .ref a_c, .ref a_words, .int m_markMany, .ref a_there, .ref a_tried, .ref a_best, .ref a_found, .int n_11, .int m_foundMany, .int m_orderHow, .int m_orderRing, .int m_orderMany, .int m_hasBest, .long m_bestTop, .long m_bestBy, .ref a_weights, .ref a_shared, .int m_random, .int m_truePlace, .int m_trueWay, .int m_seconds, .int m_done, .int m_feelings, .int m_tries, .int m_leftOver, .int m_playDoor, .int m_playRing, .int m_isOpen, .int m_isOver, .int m_wasTried, .int m_hasPlayed, .ref a_feltNow, .ref a_last, .ref a_kept, .int m_hasSeconds, .int m_hasTurned, .int m_hasRound, .ref a_hasFeels, .ref a_isOn, .int m_firstAct, .long m_meanTop, .long m_meanBy, .ref a_order, .int m_rowMany, .int m_newSteps])), (a_c, .inl (cA.1 0, 1825, .inl g_c)), (a_there, .inl (cA.1 0, 10, .inl n_12))]) [1, 2, 0] rfl
                  have hD := hD.sub (ws' := [(h0, .inr (12, [.int 0, .int 0, .long m_above, .long m_under, .ref a_traySort, .ref a_trayMany, .ref a_numbers, .ref a_tape, .int m_taped, .int m_textEnd, .int m_faultKind, .int m_faultAt, .int m_bad, .int m_badAt, .int m_token, .int m_at, .int m_behind, .int m_number, .int m_letters, .long m_word, .ref a_c, .ref a_words, .int m_markMany, .ref a_there, .ref a_tried, .ref a_best, .ref a_found, .int n_11, .int m_foundMany, .int m_orderHow, .int m_orderRing, .int m_orderMany, .int m_hasBest, .long m_bestTop, .long m_bestBy, .ref a_weights, .ref a_shared, .int m_random, .int m_truePlace, .int m_trueWay, .int m_seconds, .int m_done, .int m_feelings, .int m_tries, .int m_leftOver, .int m_playDoor, .int m_playRing, .int m_isOpen, .int m_isOver, .int m_wasTried, .int m_hasPlayed, .ref a_feltNow, .ref a_last, .ref a_kept, .int m_hasSeconds, .int m_hasTurned, .int m_hasRound, .ref a_hasFeels, .ref a_isOn, .int m_firstAct, .long m_meanTop, .long m_meanBy, .ref a_order, .int m_rowMany, .int m_newSteps])), (a_c, .inl (cA.1 0, 1825, .inl g_c)), (a_there, .inl (cA.1 0, 10, .inl n_12))]) [1, 2, 0] (by decide) rfl
                  exact ih_2237 x_2254 x_2255 H locs ls (by omega) (by omega) hX_2256 hP hD hS (lv_sub hl [2, 3, 1, 4, 0] rfl)
          have hX_2257 : F_r_alike m_thereMany g_c g_there r = F_r_alike_L46a g_c n_11 n_12 v_2004 (F_r_alike_L33a g_c n_11 n_12 n_L33a) ((2147483647 - x_2170.toInt).toNat + 1) v_2003 x_2170 := by
            refine hF_L33a.trans ?_
            refine (F_r_alike_L33a_s ..).trans ?_
            refine (if_neg c_2166).trans ?_
            try (extract_lets -merge -useContext +onlyGivenNames y9; have e9 : x_2170 = y9 := (by first | exact he_x_2170 | exact he_x_2170.symm); clear_value y9; subst e9)
            exact rfl
          exact hlp_2236 ((2147483647 - x_2170.toInt).toNat + 1) v_2003 x_2170 _ _ _ (Nat.lt_succ_self _) (by omega) hX_2257 hP hD hS (lv_sub hl [1, 2, 3, 4, 0] rfl)
    have hX_2258 : F_r_alike m_thereMany g_c g_there r = F_r_alike_L33a g_c n_11 n_12 ((2147483647 - (0 : Int32).toInt).toNat + 1) (0 : Int32) (0 : Int32) := by
      refine (F_r_alike_s ..).trans ?_
      extract_lets -merge -useContext +onlyGivenNames w9 y9; have e9 : (1 : Int32) = w9 := he_r_1; clear_value w9; subst e9
      refine (if_neg (show ¬ (1 : Int32) = 0 by decide)).trans ?_
      extract_lets -merge -useContext +onlyGivenNames w9 y2_0 y2_1; have e9 : (n_11, n_12) = w9 := ((z_tS he_n_11 he_n_12.symm)).symm; clear_value w9; subst e9
      exact rfl
    exact hlp_2164 ((2147483647 - (0 : Int32).toInt).toNat + 1) 0 0 _ _ _ (Nat.lt_succ_self _) (by decide +kernel) hX_2258 hP hD hS (lv_sub hl [2, 3, 1, 0] rfl)
set_option maxHeartbeats 40000000 in
set_option maxRecDepth 100000 in
theorem r_apart (l : Launch) (G : va_G) (cA : zCA) (h0 : Nat) (m_status : Int32) (m_thrown : Int32) (m_above : Int64) (m_under : Int64) (a_traySort : Nat) (a_trayMany : Nat) (a_numbers : Nat) (a_tape : Nat) (m_taped : Int32) (m_textEnd : Int32) (m_faultKind : Int32) (m_faultAt : Int32) (m_bad : Int32) (m_badAt : Int32) (m_token : Int32) (m_at : Int32) (m_behind : Int32) (m_number : Int32) (m_letters : Int32) (m_word : Int64) (a_c : Nat) (a_words : Nat) (m_markMany : Int32) (a_there : Nat) (a_tried : Nat) (a_best : Nat) (a_found : Nat) (m_thereMany : Int32) (m_foundMany : Int32) (m_orderHow : Int32) (m_orderRing : Int32) (m_orderMany : Int32) (m_hasBest : Int32) (m_bestTop : Int64) (m_bestBy : Int64) (a_weights : Nat) (a_shared : Nat) (m_random : Int32) (m_truePlace : Int32) (m_trueWay : Int32) (m_seconds : Int32) (m_done : Int32) (m_feelings : Int32) (m_tries : Int32) (m_leftOver : Int32) (m_playDoor : Int32) (m_playRing : Int32) (m_isOpen : Int32) (m_isOver : Int32) (m_wasTried : Int32) (m_hasPlayed : Int32) (a_feltNow : Nat) (a_last : Nat) (a_kept : Nat) (m_hasSeconds : Int32) (m_hasTurned : Int32) (m_hasRound : Int32) (a_hasFeels : Nat) (a_isOn : Nat) (m_firstAct : Int32) (m_meanTop : Int64) (m_meanBy : Int64) (a_order : Nat) (m_rowMany : Int32) (m_newSteps : Int32) (g_c : Nat → Int32) (g_there : Nat → Int32) (r : Int32) (o : Int32) (hr_o : 0 ≤ o.toInt ∧ o.toInt ≤ 1) (hz_o : o = 0 ∨ o = 1) (hr_m_thereMany : 0 ≤ m_thereMany.toInt ∧ m_thereMany.toInt ≤ 10) (hC_g_c : zC g_c) (hC_g_there : zRg 10 0 9 g_there) : zCi l yX12_apart cX12_apart 5 (some .int) ({ frames := 3, cells := 0, slots := 0, locals := 75 }) G cA [.ref h0, .int r, .int o] [(h0, .inr (12, [.int m_status, .int m_thrown, .long m_above, .long m_under, .ref a_traySort, .ref a_trayMany, .ref a_numbers, .ref a_tape, .int m_taped, .int m_textEnd, .int m_faultKind, .int m_faultAt, .int m_bad, .int m_badAt, .int m_token, .int m_at, .int m_behind, .int m_number, .int m_letters, .long m_word, .ref a_c, .ref a_words, .int m_markMany, .ref a_there, .ref a_tried, .ref a_best, .ref a_found, .int m_thereMany, .int m_foundMany, .int m_orderHow, .int m_orderRing, .int m_orderMany, .int m_hasBest, .long m_bestTop, .long m_bestBy, .ref a_weights, .ref a_shared, .int m_random, .int m_truePlace, .int m_trueWay, .int m_seconds, .int m_done, .int m_feelings, .int m_tries, .int m_leftOver, .int m_playDoor, .int m_playRing, .int m_isOpen, .int m_isOver, .int m_wasTried, .int m_hasPlayed, .ref a_feltNow, .ref a_last, .ref a_kept, .int m_hasSeconds, .int m_hasTurned, .int m_hasRound, .ref a_hasFeels, .ref a_isOn, .int m_firstAct, .long m_meanTop, .long m_meanBy, .ref a_order, .int m_rowMany, .int m_newSteps])), (a_c, .inl (cA.1 0, 1825, .inl g_c)), (a_there, .inl (cA.1 0, 10, .inl g_there))] (S := Int32 × Int32 × Int32 × (Nat → Int32)) (fun (r_0 : Int32) (u : Int32 × Int32 × Int32 × (Nat → Int32)) => (r_0 = (F_r_apart m_thereMany g_c g_there r o).1) ∧ (u.1 = (F_r_apart m_thereMany g_c g_there r o).2.1) ∧ (u.2.1 = (F_r_apart m_thereMany g_c g_there r o).2.2.1) ∧ (u.2.2.1 = (F_r_apart m_thereMany g_c g_there r o).2.2.2.1) ∧ (u.2.2.2 = (F_r_apart m_thereMany g_c g_there r o).2.2.2.2) ∧ (((-1) ≤ r_0.toInt ∧ r_0.toInt ≤ 7) ∧ (0 ≤ u.2.1.toInt ∧ u.2.1.toInt ≤ 0) ∧ (0 ≤ u.2.2.1.toInt ∧ u.2.2.1.toInt ≤ 10) ∧ (zRg 10 0 9 u.2.2.2))) (fun (u : Int32 × Int32 × Int32 × (Nat → Int32)) => [(h0, .inr (12, [.int u.1, .int u.2.1, .long m_above, .long m_under, .ref a_traySort, .ref a_trayMany, .ref a_numbers, .ref a_tape, .int m_taped, .int m_textEnd, .int m_faultKind, .int m_faultAt, .int m_bad, .int m_badAt, .int m_token, .int m_at, .int m_behind, .int m_number, .int m_letters, .long m_word, .ref a_c, .ref a_words, .int m_markMany, .ref a_there, .ref a_tried, .ref a_best, .ref a_found, .int u.2.2.1, .int m_foundMany, .int m_orderHow, .int m_orderRing, .int m_orderMany, .int m_hasBest, .long m_bestTop, .long m_bestBy, .ref a_weights, .ref a_shared, .int m_random, .int m_truePlace, .int m_trueWay, .int m_seconds, .int m_done, .int m_feelings, .int m_tries, .int m_leftOver, .int m_playDoor, .int m_playRing, .int m_isOpen, .int m_isOver, .int m_wasTried, .int m_hasPlayed, .ref a_feltNow, .ref a_last, .ref a_kept, .int m_hasSeconds, .int m_hasTurned, .int m_hasRound, .ref a_hasFeels, .ref a_isOn, .int m_firstAct, .long m_meanTop, .long m_meanBy, .ref a_order, .int m_rowMany, .int m_newSteps])), (a_c, .inl (cA.1 0, 1825, .inl g_c)), (a_there, .inl (cA.1 0, 10, .inl u.2.2.2))]) 0 0 := by
  have hk_0 : (0 : Int32).toInt = 0 := by decide +kernel
  have hk_1 : (1 : Int32).toInt = 1 := by decide +kernel
  have hk_2 : (2 : Int32).toInt = 2 := by decide +kernel
  have hk_8 : (8 : Int32).toInt = 8 := by decide +kernel
  refine z_start2i (own := RX12) (by decide) (Nat.le_of_ble_eq_true rfl) rfl ?_
  intro p e s m args below meth c A ls Q hx hb hml hts hown hK hE hT hP hD hS hA hl hret
  have hl : lv_has ls 5 [(0, .ref h0), (1, .int r), (2, .int o)] := hl
  refine lv_aload_n hx hb dX12_apart_0 rfl (lv_at hl 0 rfl) ?_
  refine lv_iconst (v := 0) hx hb dX12_apart_1 (by decide) ?_
  refine va_put (D := G) (ci := 12) (v := .int 0) (ty := .int) (C := RX12) (T := TX12) (N := 65) hx hb hts inT12 tyX12 tyX12_ok nmX12 hown hK hP hD hS 0 rfl rfl 1 (by decide) (hts _ tw_1886) (fun _ h9 => h9) rfl (tyX12_ok 1 (by decide)) rfl rfl (Nat.le_of_ble_eq_true rfl) dX12_apart_2 (fun H locs hP hD hS => ?_)
  refine lv_aload_n hx hb dX12_apart_5 rfl (lv_at hl 0 rfl) ?_
  refine lv_iconst (v := 0) hx hb dX12_apart_6 (by decide) ?_
  refine va_put (D := G) (ci := 12) (v := .int 0) (ty := .int) (C := RX12) (T := TX12) (N := 65) hx hb hts inT12 tyX12 tyX12_ok nmX12 hown hK hP hD hS 0 rfl rfl 0 (by decide) (hts _ tw_1885) (fun _ h9 => h9) rfl (tyX12_ok 0 (by decide)) rfl rfl (Nat.le_of_ble_eq_true rfl) dX12_apart_7 (fun H locs hP hD hS => ?_)
  refine lv_aload_n hx hb dX12_apart_10 rfl (lv_at hl 0 rfl) ?_
  refine lv_iload_n hx hb dX12_apart_11 rfl (lv_at hl 1 rfl) ?_
  refine z_callVi (As := [.int r]) (rest := []) (wr := [(a_there, .inl (cA.1 0, 10, .inl g_there))]) ⟨hx, hb, hml, hown, hts⟩ hK hE hT hP hD hS hA (r_isRing l G cA h0 0 0 m_above m_under a_traySort a_trayMany a_numbers a_tape m_taped m_textEnd m_faultKind m_faultAt m_bad m_badAt m_token m_at m_behind m_number m_letters m_word a_c a_words m_markMany a_there a_tried a_best a_found m_thereMany m_foundMany m_orderHow m_orderRing m_orderMany m_hasBest m_bestTop m_bestBy a_weights a_shared m_random m_truePlace m_trueWay m_seconds m_done m_feelings m_tries m_leftOver m_playDoor m_playRing m_isOpen m_isOver m_wasTried m_hasPlayed a_feltNow a_last a_kept m_hasSeconds m_hasTurned m_hasRound a_hasFeels a_isOn m_firstAct m_meanTop m_meanBy a_order m_rowMany m_newSteps g_c r hC_g_c) lk_RX12_289 ⟨rfl, rfl⟩ ⟨Nat.le_of_ble_eq_true rfl, Nat.le_of_ble_eq_true rfl⟩ 12 rfl rfl rfl [0, 1] [2] rfl rfl (by decide) rfl hl.1 rfl (lv_room (Nat.le_of_ble_eq_true rfl)) dX12_apart_12 ⟨Nat.le_of_ble_eq_true rfl, Nat.le_of_ble_eq_true rfl⟩ (fun r_1 u_2 H locs hw hP hD hS => ?_)
  obtain ⟨he_r_1, hw⟩ := hw
  rcases hw with ⟨rfl, -⟩ | ⟨rfl, hf_4, hf_5⟩
  · skip
    refine lv_if_ne (tgt := 24) hx hb dX12_apart_15 (by decide) (fun h9 => absurd (by decide +kernel) h9) (fun _ => ?_)
    refine lv_aload_n hx hb dX12_apart_18 rfl (lv_at hl 0 rfl) ?_
    refine lv_iconst (v := 2) hx hb dX12_apart_19 (by decide) ?_
    refine z_callVi (As := [.int 2]) (rest := []) (wr := [(a_there, .inl (cA.1 0, 10, .inl g_there)), (a_c, .inl (cA.1 0, 1825, .inl g_c))]) ⟨hx, hb, hml, hown, hts⟩ hK hE hT hP hD hS hA (r_refuse l G cA h0 0 0 m_above m_under a_traySort a_trayMany a_numbers a_tape m_taped m_textEnd m_faultKind m_faultAt m_bad m_badAt m_token m_at m_behind m_number m_letters m_word a_c a_words m_markMany a_there a_tried a_best a_found m_thereMany m_foundMany m_orderHow m_orderRing m_orderMany m_hasBest m_bestTop m_bestBy a_weights a_shared m_random m_truePlace m_trueWay m_seconds m_done m_feelings m_tries m_leftOver m_playDoor m_playRing m_isOpen m_isOver m_wasTried m_hasPlayed a_feltNow a_last a_kept m_hasSeconds m_hasTurned m_hasRound a_hasFeels a_isOn m_firstAct m_meanTop m_meanBy a_order m_rowMany m_newSteps 2) lk_RX12_269 ⟨rfl, rfl⟩ ⟨Nat.le_of_ble_eq_true rfl, Nat.le_of_ble_eq_true rfl⟩ 12 rfl rfl rfl [1] [0, 2] rfl rfl (by decide) rfl hl.1 rfl (lv_room (Nat.le_of_ble_eq_true rfl)) dX12_apart_20 ⟨Nat.le_of_ble_eq_true rfl, Nat.le_of_ble_eq_true rfl⟩ (fun r_7 u_8 H locs hw hP hD hS => ?_)
    obtain ⟨n_6, rfl⟩ : ∃ z, z = u_8 := ⟨_, rfl⟩
    obtain ⟨he_r_7, he_n_6, hw⟩ := hw
    have hr_r_7 := hw
    have hpost : ((-1) ≤ r_7.toInt ∧ r_7.toInt ≤ 7) ∧ (0 ≤ (0 : Int32).toInt ∧ (0 : Int32).toInt ≤ 0) ∧ (0 ≤ m_thereMany.toInt ∧ m_thereMany.toInt ≤ 10) ∧ (zRg 10 0 9 g_there) := ⟨(z_rgw hr_r_7 (by decide) (by decide)), (by decide +kernel), hr_m_thereMany, hC_g_there⟩
    have hX_10 : F_r_apart m_thereMany g_c g_there r o = ((r_7, n_6, (0 : Int32), m_thereMany, g_there) : Int32 × Int32 × Int32 × Int32 × (Nat → Int32)) := by
      refine (F_r_apart_s ..).trans ?_
      extract_lets -merge -useContext +onlyGivenNames w9 y9; have e9 : (0 : Int32) = w9 := he_r_1; clear_value w9; subst e9
      refine (if_pos rfl).trans ?_
      extract_lets -merge -useContext +onlyGivenNames w9 y2_0 y2_1; have e9 : (r_7, n_6) = w9 := ((z_tS he_r_7 he_n_6.symm)).symm; clear_value w9; subst e9
      exact rfl
    exact hret _ _ _ _ _ _ (n_6, 0, m_thereMany, g_there) [2, 1, 0] hP hD hS rfl (by decide) dX12_apart_23 ⟨(congrArg (fun z9 => z9.1) hX_10).symm, (congrArg (fun z9 => z9.2.1) hX_10).symm, (congrArg (fun z9 => z9.2.2.1) hX_10).symm, (congrArg (fun z9 => z9.2.2.2.1) hX_10).symm, (congrArg (fun z9 => z9.2.2.2.2) hX_10).symm, hpost⟩
  · skip
    refine lv_if_ne (tgt := 24) hx hb dX12_apart_15 (by decide) (fun _ => ?_) (fun h9 => absurd h9 (by decide +kernel))
    refine lv_aload_n hx hb dX12_apart_24 rfl (lv_at hl 0 rfl) ?_
    refine lv_iload_n hx hb dX12_apart_25 rfl (lv_at hl 1 rfl) ?_
    refine z_callVv (As := [.int r]) (rest := []) (wr := []) ⟨hx, hb, hml, hown, hts⟩ hK hE hT hP hD hS hA (r_gather l G cA h0 0 0 m_above m_under a_traySort a_trayMany a_numbers a_tape m_taped m_textEnd m_faultKind m_faultAt m_bad m_badAt m_token m_at m_behind m_number m_letters m_word a_c a_words m_markMany a_there a_tried a_best a_found m_thereMany m_foundMany m_orderHow m_orderRing m_orderMany m_hasBest m_bestTop m_bestBy a_weights a_shared m_random m_truePlace m_trueWay m_seconds m_done m_feelings m_tries m_leftOver m_playDoor m_playRing m_isOpen m_isOver m_wasTried m_hasPlayed a_feltNow a_last a_kept m_hasSeconds m_hasTurned m_hasRound a_hasFeels a_isOn m_firstAct m_meanTop m_meanBy a_order m_rowMany m_newSteps g_c g_there r (by omega) hr_m_thereMany hC_g_c hC_g_there) lk_RX12_292 ⟨rfl, rfl⟩ ⟨Nat.le_of_ble_eq_true rfl, Nat.le_of_ble_eq_true rfl⟩ 12 rfl rfl rfl [1, 2, 0] [] rfl rfl (by decide) rfl hl.1 rfl (lv_room (Nat.le_of_ble_eq_true rfl)) dX12_apart_26 ⟨Nat.le_of_ble_eq_true rfl, Nat.le_of_ble_eq_true rfl⟩ (fun u_14 H locs hw hP hD hS => ?_)
    obtain ⟨n_11, n_12⟩ := u_14
    try dsimp only at hw
    obtain ⟨he_n_11, he_n_12, hw⟩ := hw
    obtain ⟨hr_n_11, hC_n_12, hf_16, hf_17⟩ := hw
    refine lv_iconst (v := (-1)) hx hb dX12_apart_29 (by decide) ?_
    refine lv_istore_n (lv' := [(3, .int (-1)), (0, .ref h0), (1, .int r), (2, .int o)]) hx hb dX12_apart_30 rfl hl (by decide) rfl (fun ls hl => ?_)
    refine lv_iconst (v := 0) hx hb dX12_apart_31 (by decide) ?_
    refine lv_istore (lv' := [(4, .int 0), (3, .int (-1)), (0, .ref h0), (1, .int r), (2, .int o)]) hx hb dX12_apart_32 hl (by decide) rfl (fun ls hl => ?_)
    have hlp_341 : ∀ (n_L34a : Nat) (v_274 : Int32) (v_275 : Int32) (H : Heap) (locs : List Loc) (ls : Array Slot), (2147483647 - v_275.toInt).toNat < n_L34a → ((-1) ≤ v_274.toInt ∧ v_274.toInt ≤ 7) → (0 ≤ v_275.toInt ∧ v_275.toInt ≤ 8) → (F_r_apart m_thereMany g_c g_there r o = F_r_apart_L34a g_c o n_11 n_12 n_L34a v_274 v_275) → va_P G vwCl [(h0, .inr (12, [.int 0, .int 0, .long m_above, .long m_under, .ref a_traySort, .ref a_trayMany, .ref a_numbers, .ref a_tape, .int m_taped, .int m_textEnd, .int m_faultKind, .int m_faultAt, .int m_bad, .int m_badAt, .int m_token, .int m_at, .int m_behind, .int m_number, .int m_letters, .long m_word, .ref a_c, .ref a_words, .int m_markMany, .ref a_there, .ref a_tried, .ref a_best, .ref a_found, .int n_11, .int m_foundMany, .int m_orderHow, .int m_orderRing, .int m_orderMany, .int m_hasBest, .long m_bestTop, .long m_bestBy, .ref a_weights, .ref a_shared, .int m_random, .int m_truePlace, .int m_trueWay, .int m_seconds, .int m_done, .int m_feelings, .int m_tries, .int m_leftOver, .int m_playDoor, .int m_playRing, .int m_isOpen, .int m_isOver, .int m_wasTried, .int m_hasPlayed, .ref a_feltNow, .ref a_last, .ref a_kept, .int m_hasSeconds, .int m_hasTurned, .int m_hasRound, .ref a_hasFeels, .ref a_isOn, .int m_firstAct, .long m_meanTop, .long m_meanBy, .ref a_order, .int m_rowMany, .int m_newSteps])), (a_c, .inl (cA.1 0, 1825, .inl g_c)), (a_there, .inl (cA.1 0, 10, .inl n_12))] H → va_D A [(h0, .inr (12, [.int 0, .int 0, .long m_above, .long m_under, .ref a_traySort, .ref a_trayMany, .ref a_numbers, .ref a_tape, .int m_taped, .int m_textEnd, .int m_faultKind, .int m_faultAt, .int m_bad, .int m_badAt, .int m_token, .int m_at, .int m_behind, .int m_number, .int m_letters, .long m_word, .ref a_c, .ref a_words, .int m_markMany, .ref a_there, .ref a_tried, .ref a_best, .ref a_found, .int n_11, .int m_foundMany, .int m_orderHow, .int m_orderRing, .int m_orderMany, .int m_hasBest, .long m_bestTop, .long m_bestBy, .ref a_weights, .ref a_shared, .int m_random, .int m_truePlace, .int m_trueWay, .int m_seconds, .int m_done, .int m_feelings, .int m_tries, .int m_leftOver, .int m_playDoor, .int m_playRing, .int m_isOpen, .int m_isOver, .int m_wasTried, .int m_hasPlayed, .ref a_feltNow, .ref a_last, .ref a_kept, .int m_hasSeconds, .int m_hasTurned, .int m_hasRound, .ref a_hasFeels, .ref a_isOn, .int m_firstAct, .long m_meanTop, .long m_meanBy, .ref a_order, .int m_rowMany, .int m_newSteps])), (a_c, .inl (cA.1 0, 1825, .inl g_c)), (a_there, .inl (cA.1 0, 10, .inl n_12))] → va_S A s.heap H locs → lv_has ls 5 [(0, .ref h0), (1, .int r), (2, .int o), (3, .int v_274), (4, .int v_275)] → W p l e ({ frames := 3, cells := 0, slots := 0, locals := 75 }) s m args below meth c H locs 0 0 Q (F0 m 34 ls []) := by
      intro n_L34a
      induction n_L34a with
      | zero =>
        intro v_274 v_275 H locs ls hmu_hlp_341 hr_v_274 hr_v_275 hF_L34a hP hD hS hl
        exact absurd hmu_hlp_341 (Nat.not_lt_zero _)
      | succ n_L34a ih_342 =>
        intro v_274 v_275 H locs ls hmu_hlp_341 hr_v_274 hr_v_275 hF_L34a hP hD hS hl
        refine lv_iload hx hb dX12_apart_34 (lv_at hl 4 rfl) ?_
        refine lv_aload_n hx hb dX12_apart_36 rfl (lv_at hl 0 rfl) ?_
        refine z_callVi (As := []) (rest := [.int v_275]) (wr := [(a_there, .inl (cA.1 0, 10, .inl n_12))]) ⟨hx, hb, hml, hown, hts⟩ hK hE hT hP hD hS hA (r_all l G cA h0 0 0 m_above m_under a_traySort a_trayMany a_numbers a_tape m_taped m_textEnd m_faultKind m_faultAt m_bad m_badAt m_token m_at m_behind m_number m_letters m_word a_c a_words m_markMany a_there a_tried a_best a_found n_11 m_foundMany m_orderHow m_orderRing m_orderMany m_hasBest m_bestTop m_bestBy a_weights a_shared m_random m_truePlace m_trueWay m_seconds m_done m_feelings m_tries m_leftOver m_playDoor m_playRing m_isOpen m_isOver m_wasTried m_hasPlayed a_feltNow a_last a_kept m_hasSeconds m_hasTurned m_hasRound a_hasFeels a_isOn m_firstAct m_meanTop m_meanBy a_order m_rowMany m_newSteps g_c hC_g_c) lk_RX12_457 ⟨rfl, rfl⟩ ⟨Nat.le_of_ble_eq_true rfl, Nat.le_of_ble_eq_true rfl⟩ 12 rfl rfl rfl [0, 1] [2] rfl rfl (by decide) rfl hl.1 rfl (lv_room (Nat.le_of_ble_eq_true rfl)) dX12_apart_37 ⟨Nat.le_of_ble_eq_true rfl, Nat.le_of_ble_eq_true rfl⟩ (fun r_343 u_344 H locs hw hP hD hS => ?_)
        obtain ⟨he_r_343, hw⟩ := hw
        have hr_r_343 := hw
        refine lv_icmp_gt (tgt := 78) hx hb dX12_apart_40 (by decide) (fun c_346 => ?_) (fun c_346 => ?_)
        · have b_347 := z_fgtT c_346
          refine lv_iload_n hx hb dX12_apart_78 rfl (lv_at hl 3 rfl) ?_
          refine lv_if_ge (tgt := 91) hx hb dX12_apart_79 (by decide) (fun c_348 => ?_) (fun c_348 => ?_)
          · have b_349 := z_fgeT c_348
            refine lv_iload_n hx hb dX12_apart_91 rfl (lv_at hl 3 rfl) ?_
            have hpost : ((-1) ≤ v_274.toInt ∧ v_274.toInt ≤ 7) ∧ (0 ≤ (0 : Int32).toInt ∧ (0 : Int32).toInt ≤ 0) ∧ (0 ≤ n_11.toInt ∧ n_11.toInt ≤ 10) ∧ (zRg 10 0 9 n_12) := ⟨hr_v_274, (by decide +kernel), hr_n_11, hC_n_12⟩
            have hX_350 : F_r_apart m_thereMany g_c g_there r o = ((v_274, (0 : Int32), (0 : Int32), n_11, n_12) : Int32 × Int32 × Int32 × Int32 × (Nat → Int32)) := by
              refine hF_L34a.trans ?_
              refine (F_r_apart_L34a_s ..).trans ?_
              extract_lets -merge -useContext +onlyGivenNames w9 y9; have e9 : r_343 = w9 := he_r_343; clear_value w9; subst e9
              refine (if_pos c_346).trans ?_
              refine (if_pos c_348).trans ?_
              exact rfl
            exact hret _ _ _ _ _ _ (0, 0, n_11, n_12) [1, 2, 0] hP hD hS rfl (by decide) dX12_apart_92 ⟨(congrArg (fun z9 => z9.1) hX_350).symm, (congrArg (fun z9 => z9.2.1) hX_350).symm, (congrArg (fun z9 => z9.2.2.1) hX_350).symm, (congrArg (fun z9 => z9.2.2.2.1) hX_350).symm, (congrArg (fun z9 => z9.2.2.2.2) hX_350).symm, hpost⟩
          · have b_351 := z_fltF c_348
            refine lv_aload_n hx hb dX12_apart_82 rfl (lv_at hl 0 rfl) ?_
            refine lv_bipush (v := 8) hx hb dX12_apart_83 (by decide) ?_
            refine z_callVi (As := [.int 8]) (rest := []) (wr := [(a_there, .inl (cA.1 0, 10, .inl n_12)), (a_c, .inl (cA.1 0, 1825, .inl g_c))]) ⟨hx, hb, hml, hown, hts⟩ hK hE hT hP hD hS hA (r_refuse l G cA h0 0 0 m_above m_under a_traySort a_trayMany a_numbers a_tape m_taped m_textEnd m_faultKind m_faultAt m_bad m_badAt m_token m_at m_behind m_number m_letters m_word a_c a_words m_markMany a_there a_tried a_best a_found n_11 m_foundMany m_orderHow m_orderRing m_orderMany m_hasBest m_bestTop m_bestBy a_weights a_shared m_random m_truePlace m_trueWay m_seconds m_done m_feelings m_tries m_leftOver m_playDoor m_playRing m_isOpen m_isOver m_wasTried m_hasPlayed a_feltNow a_last a_kept m_hasSeconds m_hasTurned m_hasRound a_hasFeels a_isOn m_firstAct m_meanTop m_meanBy a_order m_rowMany m_newSteps 8) lk_RX12_269 ⟨rfl, rfl⟩ ⟨Nat.le_of_ble_eq_true rfl, Nat.le_of_ble_eq_true rfl⟩ 12 rfl rfl rfl [1] [0, 2] rfl rfl (by decide) rfl hl.1 rfl (lv_room (Nat.le_of_ble_eq_true rfl)) dX12_apart_85 ⟨Nat.le_of_ble_eq_true rfl, Nat.le_of_ble_eq_true rfl⟩ (fun r_353 u_354 H locs hw hP hD hS => ?_)
            obtain ⟨n_352, rfl⟩ : ∃ z, z = u_354 := ⟨_, rfl⟩
            obtain ⟨he_r_353, he_n_352, hw⟩ := hw
            have hr_r_353 := hw
            refine lv_goto (tgt := 92) hx hb dX12_apart_88 (by decide) ?_
            have hpost : ((-1) ≤ r_353.toInt ∧ r_353.toInt ≤ 7) ∧ (0 ≤ (0 : Int32).toInt ∧ (0 : Int32).toInt ≤ 0) ∧ (0 ≤ n_11.toInt ∧ n_11.toInt ≤ 10) ∧ (zRg 10 0 9 n_12) := ⟨(z_rgw hr_r_353 (by decide) (by decide)), (by decide +kernel), hr_n_11, hC_n_12⟩
            have hX_356 : F_r_apart m_thereMany g_c g_there r o = ((r_353, n_352, (0 : Int32), n_11, n_12) : Int32 × Int32 × Int32 × Int32 × (Nat → Int32)) := by
              refine hF_L34a.trans ?_
              refine (F_r_apart_L34a_s ..).trans ?_
              extract_lets -merge -useContext +onlyGivenNames w9 y9; have e9 : r_343 = w9 := he_r_343; clear_value w9; subst e9
              refine (if_pos c_346).trans ?_
              refine (if_neg c_348).trans ?_
              extract_lets -merge -useContext +onlyGivenNames w9 y3_0 y3_1; have e9 : (r_353, n_352) = w9 := ((z_tS he_r_353 he_n_352.symm)).symm; clear_value w9; subst e9
              exact rfl
            exact hret _ _ _ _ _ _ (n_352, 0, n_11, n_12) [2, 1, 0] hP hD hS rfl (by decide) dX12_apart_92 ⟨(congrArg (fun z9 => z9.1) hX_356).symm, (congrArg (fun z9 => z9.2.1) hX_356).symm, (congrArg (fun z9 => z9.2.2.1) hX_356).symm, (congrArg (fun z9 => z9.2.2.2.1) hX_356).symm, (congrArg (fun z9 => z9.2.2.2.2) hX_356).symm, hpost⟩
        · have b_357 := z_fleF c_346
          refine lv_iload_n hx hb dX12_apart_43 rfl (lv_at hl 3 rfl) ?_
          refine lv_if_lt (tgt := 59) hx hb dX12_apart_44 (by decide) (fun c_358 => ?_) (fun c_358 => ?_)
          · have b_359 := z_fltT c_358
            refine lv_aload_n hx hb dX12_apart_59 rfl (lv_at hl 0 rfl) ?_
            refine lv_iload hx hb dX12_apart_60 (lv_at hl 4 rfl) ?_
            refine lv_iload_n hx hb dX12_apart_62 rfl (lv_at hl 2 rfl) ?_
            refine z_callVi (As := [.int v_275, .int o]) (rest := []) (wr := []) ⟨hx, hb, hml, hown, hts⟩ hK hE hT hP hD hS hA (r_tellsAll l G cA h0 0 0 m_above m_under a_traySort a_trayMany a_numbers a_tape m_taped m_textEnd m_faultKind m_faultAt m_bad m_badAt m_token m_at m_behind m_number m_letters m_word a_c a_words m_markMany a_there a_tried a_best a_found n_11 m_foundMany m_orderHow m_orderRing m_orderMany m_hasBest m_bestTop m_bestBy a_weights a_shared m_random m_truePlace m_trueWay m_seconds m_done m_feelings m_tries m_leftOver m_playDoor m_playRing m_isOpen m_isOver m_wasTried m_hasPlayed a_feltNow a_last a_kept m_hasSeconds m_hasTurned m_hasRound a_hasFeels a_isOn m_firstAct m_meanTop m_meanBy a_order m_rowMany m_newSteps g_c n_12 v_275 o hr_o hz_o hr_n_11 hC_g_c hC_n_12) lk_RX12_463 ⟨rfl, rfl⟩ ⟨Nat.le_of_ble_eq_true rfl, Nat.le_of_ble_eq_true rfl⟩ 12 rfl rfl rfl [1, 2, 0] [] rfl rfl (by decide) rfl hl.1 rfl (lv_room (Nat.le_of_ble_eq_true rfl)) dX12_apart_63 ⟨Nat.le_of_ble_eq_true rfl, Nat.le_of_ble_eq_true rfl⟩ (fun r_360 u_361 H locs hw hP hD hS => ?_)
            obtain ⟨he_r_360, hw⟩ := hw
            rcases hw with ⟨rfl, -⟩ | ⟨rfl, -⟩
            · skip
              refine lv_if_eq (tgt := 72) hx hb dX12_apart_66 (by decide) (fun _ => ?_) (fun h9 => absurd (by decide +kernel) h9)
              obtain ⟨x_363, he_x_363⟩ : ∃ z : Int32, z = v_275 + 1 := ⟨_, rfl⟩
              have hq_x_363 := z_addq he_x_363 (rfl : v_275.toInt = _) hk_1 (by omega) (by omega)
              refine lv_iinc (v := x_363) (lv' := [(4, .int x_363), (0, .ref h0), (1, .int r), (2, .int o), (3, .int v_274)]) hx hb dX12_apart_72 hl (k := 4) rfl ((z_ofi (by decide +kernel)).trans he_x_363.symm) (by decide) rfl (fun ls hl => ?_)
              refine lv_goto (tgt := 34) hx hb dX12_apart_75 (by decide) ?_
              have hX_364 : F_r_apart m_thereMany g_c g_there r o = F_r_apart_L34a g_c o n_11 n_12 n_L34a v_274 x_363 := by
                refine hF_L34a.trans ?_
                refine (F_r_apart_L34a_s ..).trans ?_
                extract_lets -merge -useContext +onlyGivenNames w9 y9; have e9 : r_343 = w9 := he_r_343; clear_value w9; subst e9
                refine (if_neg c_346).trans ?_
                refine (if_pos c_358).trans ?_
                extract_lets -merge -useContext +onlyGivenNames w9 y9; have e9 : (0 : Int32) = w9 := he_r_360; clear_value w9; subst e9
                refine (if_pos rfl).trans ?_
                try (extract_lets -merge -useContext +onlyGivenNames y9; have e9 : x_363 = y9 := (by first | exact he_x_363 | exact he_x_363.symm); clear_value y9; subst e9)
                exact rfl
              exact ih_342 v_274 x_363 H locs ls (by omega) hr_v_274 (by omega) hX_364 hP hD hS (lv_sub hl [1, 2, 3, 4, 0] rfl)
            · skip
              refine lv_if_eq (tgt := 72) hx hb dX12_apart_66 (by decide) (fun h9 => absurd h9 (by decide +kernel)) (fun _ => ?_)
              refine lv_iload hx hb dX12_apart_69 (lv_at hl 4 rfl) ?_
              refine lv_istore_n (lv' := [(3, .int v_275), (0, .ref h0), (1, .int r), (2, .int o), (4, .int v_275)]) hx hb dX12_apart_71 rfl hl (by decide) rfl (fun ls hl => ?_)
              obtain ⟨x_365, he_x_365⟩ : ∃ z : Int32, z = v_275 + 1 := ⟨_, rfl⟩
              have hq_x_365 := z_addq he_x_365 (rfl : v_275.toInt = _) hk_1 (by omega) (by omega)
              refine lv_iinc (v := x_365) (lv' := [(4, .int x_365), (3, .int v_275), (0, .ref h0), (1, .int r), (2, .int o)]) hx hb dX12_apart_72 hl (k := 4) rfl ((z_ofi (by decide +kernel)).trans he_x_365.symm) (by decide) rfl (fun ls hl => ?_)
              refine lv_goto (tgt := 34) hx hb dX12_apart_75 (by decide) ?_
              have hX_366 : F_r_apart m_thereMany g_c g_there r o = F_r_apart_L34a g_c o n_11 n_12 n_L34a v_275 x_365 := by
                refine hF_L34a.trans ?_
                refine (F_r_apart_L34a_s ..).trans ?_
                extract_lets -merge -useContext +onlyGivenNames w9 y9; have e9 : r_343 = w9 := he_r_343; clear_value w9; subst e9
                refine (if_neg c_346).trans ?_
                refine (if_pos c_358).trans ?_
                extract_lets -merge -useContext +onlyGivenNames w9 y9; have e9 : (1 : Int32) = w9 := he_r_360; clear_value w9; subst e9
                refine (if_neg (show ¬ (1 : Int32) = 0 by decide)).trans ?_
                try (extract_lets -merge -useContext +onlyGivenNames y9; have e9 : x_365 = y9 := (by first | exact he_x_365 | exact he_x_365.symm); clear_value y9; subst e9)
                exact rfl
              exact ih_342 v_275 x_365 H locs ls (by omega) (by omega) (by omega) hX_366 hP hD hS (lv_sub hl [2, 3, 4, 1, 0] rfl)
          · have b_367 := z_fgeF c_358
            refine lv_iload hx hb dX12_apart_47 (lv_at hl 4 rfl) ?_
            refine z_callSi (As := [.int v_275]) (rest := []) (wr := [(a_there, .inl (cA.1 0, 10, .inl n_12)), (h0, .inr (12, [.int 0, .int 0, .long m_above, .long m_under, .ref a_traySort, .ref a_trayMany, .ref a_numbers, .ref a_tape, .int m_taped, .int m_textEnd, .int m_faultKind, .int m_faultAt, .int m_bad, .int m_badAt, .int m_token, .int m_at, .int m_behind, .int m_number, .int m_letters, .long m_word, .ref a_c, .ref a_words, .int m_markMany, .ref a_there, .ref a_tried, .ref a_best, .ref a_found, .int n_11, .int m_foundMany, .int m_orderHow, .int m_orderRing, .int m_orderMany, .int m_hasBest, .long m_bestTop, .long m_bestBy, .ref a_weights, .ref a_shared, .int m_random, .int m_truePlace, .int m_trueWay, .int m_seconds, .int m_done, .int m_feelings, .int m_tries, .int m_leftOver, .int m_playDoor, .int m_playRing, .int m_isOpen, .int m_isOver, .int m_wasTried, .int m_hasPlayed, .ref a_feltNow, .ref a_last, .ref a_kept, .int m_hasSeconds, .int m_hasTurned, .int m_hasRound, .ref a_hasFeels, .ref a_isOn, .int m_firstAct, .long m_meanTop, .long m_meanBy, .ref a_order, .int m_rowMany, .int m_newSteps])), (a_c, .inl (cA.1 0, 1825, .inl g_c))]) ⟨hx, hb, hml, hown, hts⟩ hK hE hT hP hD hS hA (r_bits l G cA v_275) lk_RX12_460 ⟨rfl, rfl⟩ ⟨Nat.le_of_ble_eq_true rfl, Nat.le_of_ble_eq_true rfl⟩ [] [0, 1, 2] rfl rfl (by decide) rfl hl.1 rfl (lv_room (Nat.le_of_ble_eq_true rfl)) dX12_apart_49 ⟨Nat.le_of_ble_eq_true rfl, Nat.le_of_ble_eq_true rfl⟩ (fun r_368 u_369 H locs hw hP hD hS => ?_)
            obtain ⟨he_r_368, hw⟩ := hw
            have hr_r_368 := hw
            refine lv_iload_n hx hb dX12_apart_52 rfl (lv_at hl 3 rfl) ?_
            refine z_callSi (As := [.int v_274]) (rest := [.int r_368]) (wr := [(a_there, .inl (cA.1 0, 10, .inl n_12)), (h0, .inr (12, [.int 0, .int 0, .long m_above, .long m_under, .ref a_traySort, .ref a_trayMany, .ref a_numbers, .ref a_tape, .int m_taped, .int m_textEnd, .int m_faultKind, .int m_faultAt, .int m_bad, .int m_badAt, .int m_token, .int m_at, .int m_behind, .int m_number, .int m_letters, .long m_word, .ref a_c, .ref a_words, .int m_markMany, .ref a_there, .ref a_tried, .ref a_best, .ref a_found, .int n_11, .int m_foundMany, .int m_orderHow, .int m_orderRing, .int m_orderMany, .int m_hasBest, .long m_bestTop, .long m_bestBy, .ref a_weights, .ref a_shared, .int m_random, .int m_truePlace, .int m_trueWay, .int m_seconds, .int m_done, .int m_feelings, .int m_tries, .int m_leftOver, .int m_playDoor, .int m_playRing, .int m_isOpen, .int m_isOver, .int m_wasTried, .int m_hasPlayed, .ref a_feltNow, .ref a_last, .ref a_kept, .int m_hasSeconds, .int m_hasTurned, .int m_hasRound, .ref a_hasFeels, .ref a_isOn, .int m_firstAct, .long m_meanTop, .long m_meanBy, .ref a_order, .int m_rowMany, .int m_newSteps])), (a_c, .inl (cA.1 0, 1825, .inl g_c))]) ⟨hx, hb, hml, hown, hts⟩ hK hE hT hP hD hS hA (r_bits l G cA v_274) lk_RX12_460 ⟨rfl, rfl⟩ ⟨Nat.le_of_ble_eq_true rfl, Nat.le_of_ble_eq_true rfl⟩ [] [0, 1, 2] rfl rfl (by decide) rfl hl.1 rfl (lv_room (Nat.le_of_ble_eq_true rfl)) dX12_apart_53 ⟨Nat.le_of_ble_eq_true rfl, Nat.le_of_ble_eq_true rfl⟩ (fun r_371 u_372 H locs hw hP hD hS => ?_)
            obtain ⟨he_r_371, hw⟩ := hw
            have hr_r_371 := hw
            refine lv_icmp_ge (tgt := 72) hx hb dX12_apart_56 (by decide) (fun c_374 => ?_) (fun c_374 => ?_)
            · have b_375 := z_fgeT c_374
              obtain ⟨x_376, he_x_376⟩ : ∃ z : Int32, z = v_275 + 1 := ⟨_, rfl⟩
              have hq_x_376 := z_addq he_x_376 (rfl : v_275.toInt = _) hk_1 (by omega) (by omega)
              refine lv_iinc (v := x_376) (lv' := [(4, .int x_376), (0, .ref h0), (1, .int r), (2, .int o), (3, .int v_274)]) hx hb dX12_apart_72 hl (k := 4) rfl ((z_ofi (by decide +kernel)).trans he_x_376.symm) (by decide) rfl (fun ls hl => ?_)
              refine lv_goto (tgt := 34) hx hb dX12_apart_75 (by decide) ?_
              have hX_377 : F_r_apart m_thereMany g_c g_there r o = F_r_apart_L34a g_c o n_11 n_12 n_L34a v_274 x_376 := by
                refine hF_L34a.trans ?_
                refine (F_r_apart_L34a_s ..).trans ?_
                extract_lets -merge -useContext +onlyGivenNames w9 y9; have e9 : r_343 = w9 := he_r_343; clear_value w9; subst e9
                refine (if_neg c_346).trans ?_
                refine (if_neg c_358).trans ?_
                extract_lets -merge -useContext +onlyGivenNames w9 y9; have e9 : r_368 = w9 := he_r_368; clear_value w9; subst e9
                extract_lets -merge -useContext +onlyGivenNames w9 y9; have e9 : r_371 = w9 := he_r_371; clear_value w9; subst e9
                refine (if_pos c_374).trans ?_
                try (extract_lets -merge -useContext +onlyGivenNames y9; have e9 : x_376 = y9 := (by first | exact he_x_376 | exact he_x_376.symm); clear_value y9; subst e9)
                exact rfl
              have hP := hP.sub (ws' := [(h0, .inr (12, [.int 0, .int 0, .long m_above, .long m_under, .ref a_traySort, .ref a_trayMany, .ref a_numbers, .ref a_tape, .int m_taped, .int m_textEnd, .int m_faultKind, .int m_faultAt, .int m_bad, .int m_badAt, .int m_token, .int m_at, .int m_behind, .int m_number, .int m_letters, .long m_word, .ref a_c, .ref a_words, .int m_markMany, .ref a_there, .ref a_tried, .ref a_best, .ref a_found, .int n_11, .int m_foundMany, .int m_orderHow, .int m_orderRing, .int m_orderMany, .int m_hasBest, .long m_bestTop, .long m_bestBy, .ref a_weights, .ref a_shared, .int m_random, .int m_truePlace, .int m_trueWay, .int m_seconds, .int m_done, .int m_feelings, .int m_tries, .int m_leftOver, .int m_playDoor, .int m_playRing, .int m_isOpen, .int m_isOver, .int m_wasTried, .int m_hasPlayed, .ref a_feltNow, .ref a_last, .ref a_kept, .int m_hasSeconds, .int m_hasTurned, .int m_hasRound, .ref a_hasFeels, .ref a_isOn, .int m_firstAct, .long m_meanTop, .long m_meanBy, .ref a_order, .int m_rowMany, .int m_newSteps])), (a_c, .inl (cA.1 0, 1825, .inl g_c)), (a_there, .inl (cA.1 0, 10, .inl n_12))]) [1, 2, 0] rfl
              have hD := hD.sub (ws' := [(h0, .inr (12, [.int 0, .int 0, .long m_above, .long m_under, .ref a_traySort, .ref a_trayMany, .ref a_numbers, .ref a_tape, .int m_taped, .int m_textEnd, .int m_faultKind, .int m_faultAt, .int m_bad, .int m_badAt, .int m_token, .int m_at, .int m_behind, .int m_number, .int m_letters, .long m_word, .ref a_c, .ref a_words, .int m_markMany, .ref a_there, .ref a_tried, .ref a_best, .ref a_found, .int n_11, .int m_foundMany, .int m_orderHow, .int m_orderRing, .int m_orderMany, .int m_hasBest, .long m_bestTop, .long m_bestBy, .ref a_weights, .ref a_shared, .int m_random, .int m_truePlace, .int m_trueWay, .int m_seconds, .int m_done, .int m_feelings, .int m_tries, .int m_leftOver, .int m_playDoor, .int m_playRing, .int m_isOpen, .int m_isOver, .int m_wasTried, .int m_hasPlayed, .ref a_feltNow, .ref a_last, .ref a_kept, .int m_hasSeconds, .int m_hasTurned, .int m_hasRound, .ref a_hasFeels, .ref a_isOn, .int m_firstAct, .long m_meanTop, .long m_meanBy, .ref a_order, .int m_rowMany, .int m_newSteps])), (a_c, .inl (cA.1 0, 1825, .inl g_c)), (a_there, .inl (cA.1 0, 10, .inl n_12))]) [1, 2, 0] (by decide) rfl
              exact ih_342 v_274 x_376 H locs ls (by omega) hr_v_274 (by omega) hX_377 hP hD hS (lv_sub hl [1, 2, 3, 4, 0] rfl)
            · have b_378 := z_fltF c_374
              refine lv_aload_n hx hb dX12_apart_59 rfl (lv_at hl 0 rfl) ?_
              refine lv_iload hx hb dX12_apart_60 (lv_at hl 4 rfl) ?_
              refine lv_iload_n hx hb dX12_apart_62 rfl (lv_at hl 2 rfl) ?_
              refine z_callVi (As := [.int v_275, .int o]) (rest := []) (wr := []) ⟨hx, hb, hml, hown, hts⟩ hK hE hT hP hD hS hA (r_tellsAll l G cA h0 0 0 m_above m_under a_traySort a_trayMany a_numbers a_tape m_taped m_textEnd m_faultKind m_faultAt m_bad m_badAt m_token m_at m_behind m_number m_letters m_word a_c a_words m_markMany a_there a_tried a_best a_found n_11 m_foundMany m_orderHow m_orderRing m_orderMany m_hasBest m_bestTop m_bestBy a_weights a_shared m_random m_truePlace m_trueWay m_seconds m_done m_feelings m_tries m_leftOver m_playDoor m_playRing m_isOpen m_isOver m_wasTried m_hasPlayed a_feltNow a_last a_kept m_hasSeconds m_hasTurned m_hasRound a_hasFeels a_isOn m_firstAct m_meanTop m_meanBy a_order m_rowMany m_newSteps g_c n_12 v_275 o hr_o hz_o hr_n_11 hC_g_c hC_n_12) lk_RX12_463 ⟨rfl, rfl⟩ ⟨Nat.le_of_ble_eq_true rfl, Nat.le_of_ble_eq_true rfl⟩ 12 rfl rfl rfl [1, 2, 0] [] rfl rfl (by decide) rfl hl.1 rfl (lv_room (Nat.le_of_ble_eq_true rfl)) dX12_apart_63 ⟨Nat.le_of_ble_eq_true rfl, Nat.le_of_ble_eq_true rfl⟩ (fun r_379 u_380 H locs hw hP hD hS => ?_)
              obtain ⟨he_r_379, hw⟩ := hw
              rcases hw with ⟨rfl, -⟩ | ⟨rfl, -⟩
              · skip
                refine lv_if_eq (tgt := 72) hx hb dX12_apart_66 (by decide) (fun _ => ?_) (fun h9 => absurd (by decide +kernel) h9)
                obtain ⟨x_382, he_x_382⟩ : ∃ z : Int32, z = v_275 + 1 := ⟨_, rfl⟩
                have hq_x_382 := z_addq he_x_382 (rfl : v_275.toInt = _) hk_1 (by omega) (by omega)
                refine lv_iinc (v := x_382) (lv' := [(4, .int x_382), (0, .ref h0), (1, .int r), (2, .int o), (3, .int v_274)]) hx hb dX12_apart_72 hl (k := 4) rfl ((z_ofi (by decide +kernel)).trans he_x_382.symm) (by decide) rfl (fun ls hl => ?_)
                refine lv_goto (tgt := 34) hx hb dX12_apart_75 (by decide) ?_
                have hX_383 : F_r_apart m_thereMany g_c g_there r o = F_r_apart_L34a g_c o n_11 n_12 n_L34a v_274 x_382 := by
                  refine hF_L34a.trans ?_
                  refine (F_r_apart_L34a_s ..).trans ?_
                  extract_lets -merge -useContext +onlyGivenNames w9 y9; have e9 : r_343 = w9 := he_r_343; clear_value w9; subst e9
                  refine (if_neg c_346).trans ?_
                  refine (if_neg c_358).trans ?_
                  extract_lets -merge -useContext +onlyGivenNames w9 y9; have e9 : r_368 = w9 := he_r_368; clear_value w9; subst e9
                  extract_lets -merge -useContext +onlyGivenNames w9 y9; have e9 : r_371 = w9 := he_r_371; clear_value w9; subst e9
                  refine (if_neg c_374).trans ?_
                  extract_lets -merge -useContext +onlyGivenNames w9 y9; have e9 : (0 : Int32) = w9 := he_r_379; clear_value w9; subst e9
                  refine (if_pos rfl).trans ?_
                  try (extract_lets -merge -useContext +onlyGivenNames y9; have e9 : x_382 = y9 := (by first | exact he_x_382 | exact he_x_382.symm); clear_value y9; subst e9)
                  exact rfl
                exact ih_342 v_274 x_382 H locs ls (by omega) hr_v_274 (by omega) hX_383 hP hD hS (lv_sub hl [1, 2, 3, 4, 0] rfl)
              · skip
                refine lv_if_eq (tgt := 72) hx hb dX12_apart_66 (by decide) (fun h9 => absurd h9 (by decide +kernel)) (fun _ => ?_)
                refine lv_iload hx hb dX12_apart_69 (lv_at hl 4 rfl) ?_
                refine lv_istore_n (lv' := [(3, .int v_275), (0, .ref h0), (1, .int r), (2, .int o), (4, .int v_275)]) hx hb dX12_apart_71 rfl hl (by decide) rfl (fun ls hl => ?_)
                obtain ⟨x_384, he_x_384⟩ : ∃ z : Int32, z = v_275 + 1 := ⟨_, rfl⟩
                have hq_x_384 := z_addq he_x_384 (rfl : v_275.toInt = _) hk_1 (by omega) (by omega)
                refine lv_iinc (v := x_384) (lv' := [(4, .int x_384), (3, .int v_275), (0, .ref h0), (1, .int r), (2, .int o)]) hx hb dX12_apart_72 hl (k := 4) rfl ((z_ofi (by decide +kernel)).trans he_x_384.symm) (by decide) rfl (fun ls hl => ?_)
                refine lv_goto (tgt := 34) hx hb dX12_apart_75 (by decide) ?_
                have hX_385 : F_r_apart m_thereMany g_c g_there r o = F_r_apart_L34a g_c o n_11 n_12 n_L34a v_275 x_384 := by
                  refine hF_L34a.trans ?_
                  refine (F_r_apart_L34a_s ..).trans ?_
                  extract_lets -merge -useContext +onlyGivenNames w9 y9; have e9 : r_343 = w9 := he_r_343; clear_value w9; subst e9
                  refine (if_neg c_346).trans ?_
                  refine (if_neg c_358).trans ?_
                  extract_lets -merge -useContext +onlyGivenNames w9 y9; have e9 : r_368 = w9 := he_r_368; clear_value w9; subst e9
                  extract_lets -merge -useContext +onlyGivenNames w9 y9; have e9 : r_371 = w9 := he_r_371; clear_value w9; subst e9
                  refine (if_neg c_374).trans ?_
                  extract_lets -merge -useContext +onlyGivenNames w9 y9; have e9 : (1 : Int32) = w9 := he_r_379; clear_value w9; subst e9
                  refine (if_neg (show ¬ (1 : Int32) = 0 by decide)).trans ?_
                  try (extract_lets -merge -useContext +onlyGivenNames y9; have e9 : x_384 = y9 := (by first | exact he_x_384 | exact he_x_384.symm); clear_value y9; subst e9)
                  exact rfl
                exact ih_342 v_275 x_384 H locs ls (by omega) (by omega) (by omega) hX_385 hP hD hS (lv_sub hl [2, 3, 4, 1, 0] rfl)
    have hX_386 : F_r_apart m_thereMany g_c g_there r o = F_r_apart_L34a g_c o n_11 n_12 ((2147483647 - (0 : Int32).toInt).toNat + 1) (-1 : Int32) (0 : Int32) := by
      refine (F_r_apart_s ..).trans ?_
      extract_lets -merge -useContext +onlyGivenNames w9 y9; have e9 : (1 : Int32) = w9 := he_r_1; clear_value w9; subst e9
      refine (if_neg (show ¬ (1 : Int32) = 0 by decide)).trans ?_
      extract_lets -merge -useContext +onlyGivenNames w9 y2_0 y2_1; have e9 : (n_11, n_12) = w9 := ((z_tS he_n_11 he_n_12.symm)).symm; clear_value w9; subst e9
      exact rfl
    exact hlp_341 ((2147483647 - (0 : Int32).toInt).toNat + 1) (-1) 0 _ _ _ (Nat.lt_succ_self _) (by decide +kernel) (by decide +kernel) hX_386 hP hD hS (lv_sub hl [2, 3, 4, 1, 0] rfl)
set_option maxHeartbeats 40000000 in
set_option maxRecDepth 100000 in
theorem r_filed (l : Launch) (G : va_G) (cA : zCA) (h0 : Nat) (m_status : Int32) (m_thrown : Int32) (m_above : Int64) (m_under : Int64) (a_traySort : Nat) (a_trayMany : Nat) (a_numbers : Nat) (a_tape : Nat) (m_taped : Int32) (m_textEnd : Int32) (m_faultKind : Int32) (m_faultAt : Int32) (m_bad : Int32) (m_badAt : Int32) (m_token : Int32) (m_at : Int32) (m_behind : Int32) (m_number : Int32) (m_letters : Int32) (m_word : Int64) (a_c : Nat) (a_words : Nat) (m_markMany : Int32) (a_there : Nat) (a_tried : Nat) (a_best : Nat) (a_found : Nat) (m_thereMany : Int32) (m_foundMany : Int32) (m_orderHow : Int32) (m_orderRing : Int32) (m_orderMany : Int32) (m_hasBest : Int32) (m_bestTop : Int64) (m_bestBy : Int64) (a_weights : Nat) (a_shared : Nat) (m_random : Int32) (m_truePlace : Int32) (m_trueWay : Int32) (m_seconds : Int32) (m_done : Int32) (m_feelings : Int32) (m_tries : Int32) (m_leftOver : Int32) (m_playDoor : Int32) (m_playRing : Int32) (m_isOpen : Int32) (m_isOver : Int32) (m_wasTried : Int32) (m_hasPlayed : Int32) (a_feltNow : Nat) (a_last : Nat) (a_kept : Nat) (m_hasSeconds : Int32) (m_hasTurned : Int32) (m_hasRound : Int32) (a_hasFeels : Nat) (a_isOn : Nat) (m_firstAct : Int32) (m_meanTop : Int64) (m_meanBy : Int64) (a_order : Nat) (m_rowMany : Int32) (m_newSteps : Int32) (g_c : Nat → Int32) (g_there : Nat → Int32) (r : Int32) (k : Int32) (hr_m_thereMany : 0 ≤ m_thereMany.toInt ∧ m_thereMany.toInt ≤ 10) (hC_g_c : zC g_c) (hC_g_there : zRg 10 0 9 g_there) : zCi l yX12_filed cX12_filed 8 (some .int) ({ frames := 2, cells := 0, slots := 0, locals := 50 }) G cA [.ref h0, .int r, .int k] [(h0, .inr (12, [.int m_status, .int m_thrown, .long m_above, .long m_under, .ref a_traySort, .ref a_trayMany, .ref a_numbers, .ref a_tape, .int m_taped, .int m_textEnd, .int m_faultKind, .int m_faultAt, .int m_bad, .int m_badAt, .int m_token, .int m_at, .int m_behind, .int m_number, .int m_letters, .long m_word, .ref a_c, .ref a_words, .int m_markMany, .ref a_there, .ref a_tried, .ref a_best, .ref a_found, .int m_thereMany, .int m_foundMany, .int m_orderHow, .int m_orderRing, .int m_orderMany, .int m_hasBest, .long m_bestTop, .long m_bestBy, .ref a_weights, .ref a_shared, .int m_random, .int m_truePlace, .int m_trueWay, .int m_seconds, .int m_done, .int m_feelings, .int m_tries, .int m_leftOver, .int m_playDoor, .int m_playRing, .int m_isOpen, .int m_isOver, .int m_wasTried, .int m_hasPlayed, .ref a_feltNow, .ref a_last, .ref a_kept, .int m_hasSeconds, .int m_hasTurned, .int m_hasRound, .ref a_hasFeels, .ref a_isOn, .int m_firstAct, .long m_meanTop, .long m_meanBy, .ref a_order, .int m_rowMany, .int m_newSteps])), (a_c, .inl (cA.1 0, 1825, .inl g_c)), (a_there, .inl (cA.1 0, 10, .inl g_there))] (S := Int32 × Int32 × Int32 × (Nat → Int32)) (fun (r_0 : Int32) (u : Int32 × Int32 × Int32 × (Nat → Int32)) => (r_0 = (F_r_filed m_thereMany g_c g_there r k).1) ∧ (u.1 = (F_r_filed m_thereMany g_c g_there r k).2.1) ∧ (u.2.1 = (F_r_filed m_thereMany g_c g_there r k).2.2.1) ∧ (u.2.2.1 = (F_r_filed m_thereMany g_c g_there r k).2.2.2.1) ∧ (u.2.2.2 = (F_r_filed m_thereMany g_c g_there r k).2.2.2.2) ∧ ((0 ≤ u.2.1.toInt ∧ u.2.1.toInt ≤ 0) ∧ (0 ≤ u.2.2.1.toInt ∧ u.2.2.1.toInt ≤ 10) ∧ (zRg 10 0 9 u.2.2.2))) (fun (u : Int32 × Int32 × Int32 × (Nat → Int32)) => [(h0, .inr (12, [.int u.1, .int u.2.1, .long m_above, .long m_under, .ref a_traySort, .ref a_trayMany, .ref a_numbers, .ref a_tape, .int m_taped, .int m_textEnd, .int m_faultKind, .int m_faultAt, .int m_bad, .int m_badAt, .int m_token, .int m_at, .int m_behind, .int m_number, .int m_letters, .long m_word, .ref a_c, .ref a_words, .int m_markMany, .ref a_there, .ref a_tried, .ref a_best, .ref a_found, .int u.2.2.1, .int m_foundMany, .int m_orderHow, .int m_orderRing, .int m_orderMany, .int m_hasBest, .long m_bestTop, .long m_bestBy, .ref a_weights, .ref a_shared, .int m_random, .int m_truePlace, .int m_trueWay, .int m_seconds, .int m_done, .int m_feelings, .int m_tries, .int m_leftOver, .int m_playDoor, .int m_playRing, .int m_isOpen, .int m_isOver, .int m_wasTried, .int m_hasPlayed, .ref a_feltNow, .ref a_last, .ref a_kept, .int m_hasSeconds, .int m_hasTurned, .int m_hasRound, .ref a_hasFeels, .ref a_isOn, .int m_firstAct, .long m_meanTop, .long m_meanBy, .ref a_order, .int m_rowMany, .int m_newSteps])), (a_c, .inl (cA.1 0, 1825, .inl g_c)), (a_there, .inl (cA.1 0, 10, .inl u.2.2.2))]) 0 0 := by
  have hk_0 : (0 : Int32).toInt = 0 := by decide +kernel
  have hk_1 : (1 : Int32).toInt = 1 := by decide +kernel
  have hk_2 : (2 : Int32).toInt = 2 := by decide +kernel
  have hk_5 : (5 : Int32).toInt = 5 := by decide +kernel
  have hk_9 : (9 : Int32).toInt = 9 := by decide +kernel
  have hkl_2 : (2 : Int64).toInt = 2 := by decide +kernel
  have hkl_9 : (9 : Int64).toInt = 9 := by decide +kernel
  refine z_start2i (own := RX12) (by decide) (Nat.le_of_ble_eq_true rfl) rfl ?_
  intro p e s m args below meth c A ls Q hx hb hml hts hown hK hE hT hP hD hS hA hl hret
  have hl : lv_has ls 8 [(0, .ref h0), (1, .int r), (2, .int k)] := hl
  refine lv_aload_n hx hb dX12_filed_0 rfl (lv_at hl 0 rfl) ?_
  refine lv_iconst (v := 0) hx hb dX12_filed_1 (by decide) ?_
  refine va_put (D := G) (ci := 12) (v := .int 0) (ty := .int) (C := RX12) (T := TX12) (N := 65) hx hb hts inT12 tyX12 tyX12_ok nmX12 hown hK hP hD hS 0 rfl rfl 1 (by decide) (hts _ tw_1886) (fun _ h9 => h9) rfl (tyX12_ok 1 (by decide)) rfl rfl (Nat.le_of_ble_eq_true rfl) dX12_filed_2 (fun H locs hP hD hS => ?_)
  refine lv_aload_n hx hb dX12_filed_5 rfl (lv_at hl 0 rfl) ?_
  refine lv_iconst (v := 0) hx hb dX12_filed_6 (by decide) ?_
  refine va_put (D := G) (ci := 12) (v := .int 0) (ty := .int) (C := RX12) (T := TX12) (N := 65) hx hb hts inT12 tyX12 tyX12_ok nmX12 hown hK hP hD hS 0 rfl rfl 0 (by decide) (hts _ tw_1885) (fun _ h9 => h9) rfl (tyX12_ok 0 (by decide)) rfl rfl (Nat.le_of_ble_eq_true rfl) dX12_filed_7 (fun H locs hP hD hS => ?_)
  refine lv_aload_n hx hb dX12_filed_10 rfl (lv_at hl 0 rfl) ?_
  refine lv_iload_n hx hb dX12_filed_11 rfl (lv_at hl 1 rfl) ?_
  refine z_callVi (As := [.int r]) (rest := []) (wr := [(a_there, .inl (cA.1 0, 10, .inl g_there))]) ⟨hx, hb, hml, hown, hts⟩ hK hE hT hP hD hS hA (r_isRing l G cA h0 0 0 m_above m_under a_traySort a_trayMany a_numbers a_tape m_taped m_textEnd m_faultKind m_faultAt m_bad m_badAt m_token m_at m_behind m_number m_letters m_word a_c a_words m_markMany a_there a_tried a_best a_found m_thereMany m_foundMany m_orderHow m_orderRing m_orderMany m_hasBest m_bestTop m_bestBy a_weights a_shared m_random m_truePlace m_trueWay m_seconds m_done m_feelings m_tries m_leftOver m_playDoor m_playRing m_isOpen m_isOver m_wasTried m_hasPlayed a_feltNow a_last a_kept m_hasSeconds m_hasTurned m_hasRound a_hasFeels a_isOn m_firstAct m_meanTop m_meanBy a_order m_rowMany m_newSteps g_c r hC_g_c) lk_RX12_289 ⟨rfl, rfl⟩ ⟨Nat.le_of_ble_eq_true rfl, Nat.le_of_ble_eq_true rfl⟩ 12 rfl rfl rfl [0, 1] [2] rfl rfl (by decide) rfl hl.1 rfl (lv_room (Nat.le_of_ble_eq_true rfl)) dX12_filed_12 ⟨Nat.le_of_ble_eq_true rfl, Nat.le_of_ble_eq_true rfl⟩ (fun r_1 u_2 H locs hw hP hD hS => ?_)
  obtain ⟨he_r_1, hw⟩ := hw
  rcases hw with ⟨rfl, -⟩ | ⟨rfl, hf_4, hf_5⟩
  · skip
    refine lv_if_ne (tgt := 24) hx hb dX12_filed_15 (by decide) (fun h9 => absurd (by decide +kernel) h9) (fun _ => ?_)
    refine lv_aload_n hx hb dX12_filed_18 rfl (lv_at hl 0 rfl) ?_
    refine lv_iconst (v := 2) hx hb dX12_filed_19 (by decide) ?_
    refine z_callVi (As := [.int 2]) (rest := []) (wr := [(a_there, .inl (cA.1 0, 10, .inl g_there)), (a_c, .inl (cA.1 0, 1825, .inl g_c))]) ⟨hx, hb, hml, hown, hts⟩ hK hE hT hP hD hS hA (r_refuse l G cA h0 0 0 m_above m_under a_traySort a_trayMany a_numbers a_tape m_taped m_textEnd m_faultKind m_faultAt m_bad m_badAt m_token m_at m_behind m_number m_letters m_word a_c a_words m_markMany a_there a_tried a_best a_found m_thereMany m_foundMany m_orderHow m_orderRing m_orderMany m_hasBest m_bestTop m_bestBy a_weights a_shared m_random m_truePlace m_trueWay m_seconds m_done m_feelings m_tries m_leftOver m_playDoor m_playRing m_isOpen m_isOver m_wasTried m_hasPlayed a_feltNow a_last a_kept m_hasSeconds m_hasTurned m_hasRound a_hasFeels a_isOn m_firstAct m_meanTop m_meanBy a_order m_rowMany m_newSteps 2) lk_RX12_269 ⟨rfl, rfl⟩ ⟨Nat.le_of_ble_eq_true rfl, Nat.le_of_ble_eq_true rfl⟩ 12 rfl rfl rfl [1] [0, 2] rfl rfl (by decide) rfl hl.1 rfl (lv_room (Nat.le_of_ble_eq_true rfl)) dX12_filed_20 ⟨Nat.le_of_ble_eq_true rfl, Nat.le_of_ble_eq_true rfl⟩ (fun r_7 u_8 H locs hw hP hD hS => ?_)
    obtain ⟨n_6, rfl⟩ : ∃ z, z = u_8 := ⟨_, rfl⟩
    obtain ⟨he_r_7, he_n_6, hw⟩ := hw
    have hr_r_7 := hw
    have hpost : (0 ≤ (0 : Int32).toInt ∧ (0 : Int32).toInt ≤ 0) ∧ (0 ≤ m_thereMany.toInt ∧ m_thereMany.toInt ≤ 10) ∧ (zRg 10 0 9 g_there) := ⟨(by decide +kernel), hr_m_thereMany, hC_g_there⟩
    have hX_10 : F_r_filed m_thereMany g_c g_there r k = ((r_7, n_6, (0 : Int32), m_thereMany, g_there) : Int32 × Int32 × Int32 × Int32 × (Nat → Int32)) := by
      refine (F_r_filed_s ..).trans ?_
      extract_lets -merge -useContext +onlyGivenNames w9 y9; have e9 : (0 : Int32) = w9 := he_r_1; clear_value w9; subst e9
      refine (if_pos rfl).trans ?_
      extract_lets -merge -useContext +onlyGivenNames w9 y2_0 y2_1; have e9 : (r_7, n_6) = w9 := ((z_tS he_r_7 he_n_6.symm)).symm; clear_value w9; subst e9
      exact rfl
    exact hret _ _ _ _ _ _ (n_6, 0, m_thereMany, g_there) [2, 1, 0] hP hD hS rfl (by decide) dX12_filed_23 ⟨(congrArg (fun z9 => z9.1) hX_10).symm, (congrArg (fun z9 => z9.2.1) hX_10).symm, (congrArg (fun z9 => z9.2.2.1) hX_10).symm, (congrArg (fun z9 => z9.2.2.2.1) hX_10).symm, (congrArg (fun z9 => z9.2.2.2.2) hX_10).symm, hpost⟩
  · skip
    refine lv_if_ne (tgt := 24) hx hb dX12_filed_15 (by decide) (fun _ => ?_) (fun h9 => absurd h9 (by decide +kernel))
    refine lv_iload_n hx hb dX12_filed_24 rfl (lv_at hl 2 rfl) ?_
    refine lv_i2l (v := (k).toInt64) hx hb dX12_filed_25 rfl ?_
    refine lv_topl (fun x_11 he_x_11 => ?_)
    have hq_x_11 := z_i2l he_x_11
    have hL_k := z_full k
    refine lv_ldc2 (v := 2) hx hb hown (hts _ tw_2292) dX12_filed_26 ?_
    refine lv_ldc2 (v := 9) hx hb hown (hts _ tw_2591) dX12_filed_29 ?_
    refine z_callSi (As := [.long x_11, .long 2, .long 9]) (rest := []) (wr := [(a_there, .inl (cA.1 0, 10, .inl g_there)), (h0, .inr (12, [.int 0, .int 0, .long m_above, .long m_under, .ref a_traySort, .ref a_trayMany, .ref a_numbers, .ref a_tape, .int m_taped, .int m_textEnd, .int m_faultKind, .int m_faultAt, .int m_bad, .int m_badAt, .int m_token, .int m_at, .int m_behind, .int m_number, .int m_letters, .long m_word, .ref a_c, .ref a_words, .int m_markMany, .ref a_there, .ref a_tried, .ref a_best, .ref a_found, .int m_thereMany, .int m_foundMany, .int m_orderHow, .int m_orderRing, .int m_orderMany, .int m_hasBest, .long m_bestTop, .long m_bestBy, .ref a_weights, .ref a_shared, .int m_random, .int m_truePlace, .int m_trueWay, .int m_seconds, .int m_done, .int m_feelings, .int m_tries, .int m_leftOver, .int m_playDoor, .int m_playRing, .int m_isOpen, .int m_isOver, .int m_wasTried, .int m_hasPlayed, .ref a_feltNow, .ref a_last, .ref a_kept, .int m_hasSeconds, .int m_hasTurned, .int m_hasRound, .ref a_hasFeels, .ref a_isOn, .int m_firstAct, .long m_meanTop, .long m_meanBy, .ref a_order, .int m_rowMany, .int m_newSteps])), (a_c, .inl (cA.1 0, 1825, .inl g_c))]) ⟨hx, hb, hml, hown, hts⟩ hK hE hT hP hD hS hA (r_isIn l G cA x_11 2 9) lk_RX12_117 ⟨rfl, rfl⟩ ⟨Nat.le_of_ble_eq_true rfl, Nat.le_of_ble_eq_true rfl⟩ [] [0, 1, 2] rfl rfl (by decide) rfl hl.1 rfl (lv_room (Nat.le_of_ble_eq_true rfl)) dX12_filed_32 ⟨Nat.le_of_ble_eq_true rfl, Nat.le_of_ble_eq_true rfl⟩ (fun r_12 u_13 H locs hw hP hD hS => ?_)
    obtain ⟨he_r_12, hw⟩ := hw
    rcases hw with ⟨rfl, hf_15⟩ | ⟨rfl, hf_16⟩
    · skip
      refine lv_if_ne (tgt := 44) hx hb dX12_filed_35 (by decide) (fun h9 => absurd (by decide +kernel) h9) (fun _ => ?_)
      refine lv_aload_n hx hb dX12_filed_38 rfl (lv_at hl 0 rfl) ?_
      refine lv_iconst (v := 5) hx hb dX12_filed_39 (by decide) ?_
      refine z_callVi (As := [.int 5]) (rest := []) (wr := [(a_there, .inl (cA.1 0, 10, .inl g_there)), (a_c, .inl (cA.1 0, 1825, .inl g_c))]) ⟨hx, hb, hml, hown, hts⟩ hK hE hT hP hD hS hA (r_refuse l G cA h0 0 0 m_above m_under a_traySort a_trayMany a_numbers a_tape m_taped m_textEnd m_faultKind m_faultAt m_bad m_badAt m_token m_at m_behind m_number m_letters m_word a_c a_words m_markMany a_there a_tried a_best a_found m_thereMany m_foundMany m_orderHow m_orderRing m_orderMany m_hasBest m_bestTop m_bestBy a_weights a_shared m_random m_truePlace m_trueWay m_seconds m_done m_feelings m_tries m_leftOver m_playDoor m_playRing m_isOpen m_isOver m_wasTried m_hasPlayed a_feltNow a_last a_kept m_hasSeconds m_hasTurned m_hasRound a_hasFeels a_isOn m_firstAct m_meanTop m_meanBy a_order m_rowMany m_newSteps 5) lk_RX12_269 ⟨rfl, rfl⟩ ⟨Nat.le_of_ble_eq_true rfl, Nat.le_of_ble_eq_true rfl⟩ 12 rfl rfl rfl [1] [0, 2] rfl rfl (by decide) rfl hl.1 rfl (lv_room (Nat.le_of_ble_eq_true rfl)) dX12_filed_40 ⟨Nat.le_of_ble_eq_true rfl, Nat.le_of_ble_eq_true rfl⟩ (fun r_18 u_19 H locs hw hP hD hS => ?_)
      obtain ⟨n_17, rfl⟩ : ∃ z, z = u_19 := ⟨_, rfl⟩
      obtain ⟨he_r_18, he_n_17, hw⟩ := hw
      have hr_r_18 := hw
      have hpost : (0 ≤ (0 : Int32).toInt ∧ (0 : Int32).toInt ≤ 0) ∧ (0 ≤ m_thereMany.toInt ∧ m_thereMany.toInt ≤ 10) ∧ (zRg 10 0 9 g_there) := ⟨(by decide +kernel), hr_m_thereMany, hC_g_there⟩
      have hX_21 : F_r_filed m_thereMany g_c g_there r k = ((r_18, n_17, (0 : Int32), m_thereMany, g_there) : Int32 × Int32 × Int32 × Int32 × (Nat → Int32)) := by
        refine (F_r_filed_s ..).trans ?_
        extract_lets -merge -useContext +onlyGivenNames w9 y9; have e9 : (1 : Int32) = w9 := he_r_1; clear_value w9; subst e9
        refine (if_neg (show ¬ (1 : Int32) = 0 by decide)).trans ?_
        try (extract_lets -merge -useContext +onlyGivenNames y9; have e9 : x_11 = y9 := (by first | exact he_x_11 | exact he_x_11.symm); clear_value y9; subst e9)
        extract_lets -merge -useContext +onlyGivenNames w9 y9; have e9 : (0 : Int32) = w9 := he_r_12; clear_value w9; subst e9
        refine (if_pos rfl).trans ?_
        extract_lets -merge -useContext +onlyGivenNames w9 y5_0 y5_1; have e9 : (r_18, n_17) = w9 := ((z_tS he_r_18 he_n_17.symm)).symm; clear_value w9; subst e9
        exact rfl
      exact hret _ _ _ _ _ _ (n_17, 0, m_thereMany, g_there) [2, 1, 0] hP hD hS rfl (by decide) dX12_filed_43 ⟨(congrArg (fun z9 => z9.1) hX_21).symm, (congrArg (fun z9 => z9.2.1) hX_21).symm, (congrArg (fun z9 => z9.2.2.1) hX_21).symm, (congrArg (fun z9 => z9.2.2.2.1) hX_21).symm, (congrArg (fun z9 => z9.2.2.2.2) hX_21).symm, hpost⟩
    · skip
      refine lv_if_ne (tgt := 44) hx hb dX12_filed_35 (by decide) (fun _ => ?_) (fun h9 => absurd h9 (by decide +kernel))
      refine lv_aload_n hx hb dX12_filed_44 rfl (lv_at hl 0 rfl) ?_
      refine lv_iload_n hx hb dX12_filed_45 rfl (lv_at hl 1 rfl) ?_
      refine z_callVv (As := [.int r]) (rest := []) (wr := []) ⟨hx, hb, hml, hown, hts⟩ hK hE hT hP hD hS hA (r_gather l G cA h0 0 0 m_above m_under a_traySort a_trayMany a_numbers a_tape m_taped m_textEnd m_faultKind m_faultAt m_bad m_badAt m_token m_at m_behind m_number m_letters m_word a_c a_words m_markMany a_there a_tried a_best a_found m_thereMany m_foundMany m_orderHow m_orderRing m_orderMany m_hasBest m_bestTop m_bestBy a_weights a_shared m_random m_truePlace m_trueWay m_seconds m_done m_feelings m_tries m_leftOver m_playDoor m_playRing m_isOpen m_isOver m_wasTried m_hasPlayed a_feltNow a_last a_kept m_hasSeconds m_hasTurned m_hasRound a_hasFeels a_isOn m_firstAct m_meanTop m_meanBy a_order m_rowMany m_newSteps g_c g_there r (by omega) hr_m_thereMany hC_g_c hC_g_there) lk_RX12_292 ⟨rfl, rfl⟩ ⟨Nat.le_of_ble_eq_true rfl, Nat.le_of_ble_eq_true rfl⟩ 12 rfl rfl rfl [1, 2, 0] [] rfl rfl (by decide) rfl hl.1 rfl (lv_room (Nat.le_of_ble_eq_true rfl)) dX12_filed_46 ⟨Nat.le_of_ble_eq_true rfl, Nat.le_of_ble_eq_true rfl⟩ (fun u_25 H locs hw hP hD hS => ?_)
      obtain ⟨n_22, n_23⟩ := u_25
      try dsimp only at hw
      obtain ⟨he_n_22, he_n_23, hw⟩ := hw
      obtain ⟨hr_n_22, hC_n_23, hf_27, hf_28⟩ := hw
      refine lv_iconst (v := 0) hx hb dX12_filed_49 (by decide) ?_
      refine lv_istore_n (lv' := [(3, .int 0), (0, .ref h0), (1, .int r), (2, .int k)]) hx hb dX12_filed_50 rfl hl (by decide) rfl (fun ls hl => ?_)
      refine lv_iconst (v := 0) hx hb dX12_filed_51 (by decide) ?_
      refine lv_istore (lv' := [(4, .int 0), (3, .int 0), (0, .ref h0), (1, .int r), (2, .int k)]) hx hb dX12_filed_52 hl (by decide) rfl (fun ls hl => ?_)
      have hlp_49925 : ∀ (n_L54a : Nat) (v_47760 : Int32) (v_47761 : Int32) (H : Heap) (locs : List Loc) (ls : Array Slot), (2147483647 - v_47761.toInt).toNat < n_L54a → (0 ≤ v_47761.toInt ∧ v_47761.toInt ≤ 10) → (F_r_filed m_thereMany g_c g_there r k = F_r_filed_L54a g_c k n_22 n_23 n_L54a v_47760 v_47761) → va_P G vwCl [(h0, .inr (12, [.int 0, .int 0, .long m_above, .long m_under, .ref a_traySort, .ref a_trayMany, .ref a_numbers, .ref a_tape, .int m_taped, .int m_textEnd, .int m_faultKind, .int m_faultAt, .int m_bad, .int m_badAt, .int m_token, .int m_at, .int m_behind, .int m_number, .int m_letters, .long m_word, .ref a_c, .ref a_words, .int m_markMany, .ref a_there, .ref a_tried, .ref a_best, .ref a_found, .int n_22, .int m_foundMany, .int m_orderHow, .int m_orderRing, .int m_orderMany, .int m_hasBest, .long m_bestTop, .long m_bestBy, .ref a_weights, .ref a_shared, .int m_random, .int m_truePlace, .int m_trueWay, .int m_seconds, .int m_done, .int m_feelings, .int m_tries, .int m_leftOver, .int m_playDoor, .int m_playRing, .int m_isOpen, .int m_isOver, .int m_wasTried, .int m_hasPlayed, .ref a_feltNow, .ref a_last, .ref a_kept, .int m_hasSeconds, .int m_hasTurned, .int m_hasRound, .ref a_hasFeels, .ref a_isOn, .int m_firstAct, .long m_meanTop, .long m_meanBy, .ref a_order, .int m_rowMany, .int m_newSteps])), (a_c, .inl (cA.1 0, 1825, .inl g_c)), (a_there, .inl (cA.1 0, 10, .inl n_23))] H → va_D A [(h0, .inr (12, [.int 0, .int 0, .long m_above, .long m_under, .ref a_traySort, .ref a_trayMany, .ref a_numbers, .ref a_tape, .int m_taped, .int m_textEnd, .int m_faultKind, .int m_faultAt, .int m_bad, .int m_badAt, .int m_token, .int m_at, .int m_behind, .int m_number, .int m_letters, .long m_word, .ref a_c, .ref a_words, .int m_markMany, .ref a_there, .ref a_tried, .ref a_best, .ref a_found, .int n_22, .int m_foundMany, .int m_orderHow, .int m_orderRing, .int m_orderMany, .int m_hasBest, .long m_bestTop, .long m_bestBy, .ref a_weights, .ref a_shared, .int m_random, .int m_truePlace, .int m_trueWay, .int m_seconds, .int m_done, .int m_feelings, .int m_tries, .int m_leftOver, .int m_playDoor, .int m_playRing, .int m_isOpen, .int m_isOver, .int m_wasTried, .int m_hasPlayed, .ref a_feltNow, .ref a_last, .ref a_kept, .int m_hasSeconds, .int m_hasTurned, .int m_hasRound, .ref a_hasFeels, .ref a_isOn, .int m_firstAct, .long m_meanTop, .long m_meanBy, .ref a_order, .int m_rowMany, .int m_newSteps])), (a_c, .inl (cA.1 0, 1825, .inl g_c)), (a_there, .inl (cA.1 0, 10, .inl n_23))] → va_S A s.heap H locs → lv_has ls 8 [(0, .ref h0), (1, .int r), (2, .int k), (3, .int v_47760), (4, .int v_47761)] → W p l e ({ frames := 2, cells := 0, slots := 0, locals := 50 }) s m args below meth c H locs 0 0 Q (F0 m 54 ls []) := by
        intro n_L54a
        induction n_L54a with
        | zero =>
          intro v_47760 v_47761 H locs ls hmu_hlp_49925 hr_v_47761 hF_L54a hP hD hS hl
          exact absurd hmu_hlp_49925 (Nat.not_lt_zero _)
        | succ n_L54a ih_49926 =>
          intro v_47760 v_47761 H locs ls hmu_hlp_49925 hr_v_47761 hF_L54a hP hD hS hl
          refine lv_iload hx hb dX12_filed_54 (lv_at hl 4 rfl) ?_
          refine lv_aload_n hx hb dX12_filed_56 rfl (lv_at hl 0 rfl) ?_
          refine va_get (D := G) (ci := 12) (v := .int n_22) (C := RX12) (T := TX12) (N := 65) hx hb hts inT12 hown hK hP 0 rfl rfl 27 (by decide) (hts _ tw_1912) (fun _ h9 => h9) rfl dX12_filed_57 ?_
          refine lv_icmp_ge (tgt := 169) hx hb dX12_filed_60 (by decide) (fun c_49927 => ?_) (fun c_49927 => ?_)
          · have b_49928 := z_fgeT c_49927
            refine lv_iload_n hx hb dX12_filed_169 rfl (lv_at hl 3 rfl) ?_
            have hpost : (0 ≤ (0 : Int32).toInt ∧ (0 : Int32).toInt ≤ 0) ∧ (0 ≤ n_22.toInt ∧ n_22.toInt ≤ 10) ∧ (zRg 10 0 9 n_23) := ⟨(by decide +kernel), hr_n_22, hC_n_23⟩
            have hX_49929 : F_r_filed m_thereMany g_c g_there r k = ((v_47760, (0 : Int32), (0 : Int32), n_22, n_23) : Int32 × Int32 × Int32 × Int32 × (Nat → Int32)) := by
              refine hF_L54a.trans ?_
              refine (F_r_filed_L54a_s ..).trans ?_
              refine (if_pos c_49927).trans ?_
              exact rfl
            exact hret _ _ _ _ _ _ (0, 0, n_22, n_23) [0, 1, 2] hP hD hS rfl (by decide) dX12_filed_170 ⟨(congrArg (fun z9 => z9.1) hX_49929).symm, (congrArg (fun z9 => z9.2.1) hX_49929).symm, (congrArg (fun z9 => z9.2.2.1) hX_49929).symm, (congrArg (fun z9 => z9.2.2.2.1) hX_49929).symm, (congrArg (fun z9 => z9.2.2.2.2) hX_49929).symm, hpost⟩
          · have b_49930 := z_fltF c_49927
            refine lv_iconst (v := 0) hx hb dX12_filed_63 (by decide) ?_
            refine lv_istore (lv' := [(5, .int 0), (0, .ref h0), (1, .int r), (2, .int k), (3, .int v_47760), (4, .int v_47761)]) hx hb dX12_filed_64 hl (by decide) rfl (fun ls hl => ?_)
            refine lv_iconst (v := 0) hx hb dX12_filed_66 (by decide) ?_
            refine lv_istore (lv' := [(6, .int 0), (5, .int 0), (0, .ref h0), (1, .int r), (2, .int k), (3, .int v_47760), (4, .int v_47761)]) hx hb dX12_filed_67 hl (by decide) rfl (fun ls hl => ?_)
            refine lv_iconst (v := 0) hx hb dX12_filed_69 (by decide) ?_
            refine lv_istore (lv' := [(7, .int 0), (6, .int 0), (5, .int 0), (0, .ref h0), (1, .int r), (2, .int k), (3, .int v_47760), (4, .int v_47761)]) hx hb dX12_filed_70 hl (by decide) rfl (fun ls hl => ?_)
            have hlp_50990 : ∀ (n_L72a : Nat) (v_50933 : Int32) (v_50934 : Int32) (v_50935 : Int32) (H : Heap) (locs : List Loc) (ls : Array Slot), (2147483647 - v_50935.toInt).toNat < n_L72a → (0 ≤ v_50935.toInt ∧ v_50935.toInt ≤ 10) → (F_r_filed m_thereMany g_c g_there r k = F_r_filed_L72a g_c k n_22 n_23 v_47760 v_47761 (F_r_filed_L54a g_c k n_22 n_23 n_L54a) n_L72a v_50933 v_50934 v_50935) → va_P G vwCl [(h0, .inr (12, [.int 0, .int 0, .long m_above, .long m_under, .ref a_traySort, .ref a_trayMany, .ref a_numbers, .ref a_tape, .int m_taped, .int m_textEnd, .int m_faultKind, .int m_faultAt, .int m_bad, .int m_badAt, .int m_token, .int m_at, .int m_behind, .int m_number, .int m_letters, .long m_word, .ref a_c, .ref a_words, .int m_markMany, .ref a_there, .ref a_tried, .ref a_best, .ref a_found, .int n_22, .int m_foundMany, .int m_orderHow, .int m_orderRing, .int m_orderMany, .int m_hasBest, .long m_bestTop, .long m_bestBy, .ref a_weights, .ref a_shared, .int m_random, .int m_truePlace, .int m_trueWay, .int m_seconds, .int m_done, .int m_feelings, .int m_tries, .int m_leftOver, .int m_playDoor, .int m_playRing, .int m_isOpen, .int m_isOver, .int m_wasTried, .int m_hasPlayed, .ref a_feltNow, .ref a_last, .ref a_kept, .int m_hasSeconds, .int m_hasTurned, .int m_hasRound, .ref a_hasFeels, .ref a_isOn, .int m_firstAct, .long m_meanTop, .long m_meanBy, .ref a_order, .int m_rowMany, .int m_newSteps])), (a_c, .inl (cA.1 0, 1825, .inl g_c)), (a_there, .inl (cA.1 0, 10, .inl n_23))] H → va_D A [(h0, .inr (12, [.int 0, .int 0, .long m_above, .long m_under, .ref a_traySort, .ref a_trayMany, .ref a_numbers, .ref a_tape, .int m_taped, .int m_textEnd, .int m_faultKind, .int m_faultAt, .int m_bad, .int m_badAt, .int m_token, .int m_at, .int m_behind, .int m_number, .int m_letters, .long m_word, .ref a_c, .ref a_words, .int m_markMany, .ref a_there, .ref a_tried, .ref a_best, .ref a_found, .int n_22, .int m_foundMany, .int m_orderHow, .int m_orderRing, .int m_orderMany, .int m_hasBest, .long m_bestTop, .long m_bestBy, .ref a_weights, .ref a_shared, .int m_random, .int m_truePlace, .int m_trueWay, .int m_seconds, .int m_done, .int m_feelings, .int m_tries, .int m_leftOver, .int m_playDoor, .int m_playRing, .int m_isOpen, .int m_isOver, .int m_wasTried, .int m_hasPlayed, .ref a_feltNow, .ref a_last, .ref a_kept, .int m_hasSeconds, .int m_hasTurned, .int m_hasRound, .ref a_hasFeels, .ref a_isOn, .int m_firstAct, .long m_meanTop, .long m_meanBy, .ref a_order, .int m_rowMany, .int m_newSteps])), (a_c, .inl (cA.1 0, 1825, .inl g_c)), (a_there, .inl (cA.1 0, 10, .inl n_23))] → va_S A s.heap H locs → lv_has ls 8 [(0, .ref h0), (1, .int r), (2, .int k), (3, .int v_47760), (4, .int v_47761), (5, .int v_50933), (6, .int v_50934), (7, .int v_50935)] → W p l e ({ frames := 2, cells := 0, slots := 0, locals := 50 }) s m args below meth c H locs 0 0 Q (F0 m 72 ls []) := by
              intro n_L72a
              induction n_L72a with
              | zero =>
                intro v_50933 v_50934 v_50935 H locs ls hmu_hlp_50990 hr_v_50935 hF_L72a hP hD hS hl
                exact absurd hmu_hlp_50990 (Nat.not_lt_zero _)
              | succ n_L72a ih_50991 =>
                intro v_50933 v_50934 v_50935 H locs ls hmu_hlp_50990 hr_v_50935 hF_L72a hP hD hS hl
                refine lv_iload hx hb dX12_filed_72 (lv_at hl 7 rfl) ?_
                refine lv_aload_n hx hb dX12_filed_74 rfl (lv_at hl 0 rfl) ?_
                refine va_get (D := G) (ci := 12) (v := .int n_22) (C := RX12) (T := TX12) (N := 65) hx hb hts inT12 hown hK hP 0 rfl rfl 27 (by decide) (hts _ tw_1912) (fun _ h9 => h9) rfl dX12_filed_75 ?_
                refine lv_icmp_ge (tgt := 137) hx hb dX12_filed_78 (by decide) (fun c_50992 => ?_) (fun c_50992 => ?_)
                · have b_50993 := z_fgeT c_50992
                  refine lv_iload hx hb dX12_filed_137 (lv_at hl 5 rfl) ?_
                  refine lv_iload_n hx hb dX12_filed_139 rfl (lv_at hl 2 rfl) ?_
                  refine lv_icmp_le (tgt := 150) hx hb dX12_filed_140 (by decide) (fun c_50994 => ?_) (fun c_50994 => ?_)
                  · have b_50995 := z_fleT c_50994
                    refine lv_iload_n hx hb dX12_filed_150 rfl (lv_at hl 3 rfl) ?_
                    refine lv_iload hx hb dX12_filed_151 (lv_at hl 6 rfl) ?_
                    refine lv_if_le (tgt := 160) hx hb dX12_filed_153 (by decide) (fun c_50996 => ?_) (fun c_50996 => ?_)
                    · have b_50997 := z_fleT c_50996
                      refine lv_iconst (v := 0) hx hb dX12_filed_160 (by decide) ?_
                      refine lv_iadd hx hb dX12_filed_161 ?_
                      have hL_v_47760 := z_full v_47760
                      refine lv_topi (fun x_50998 he_x_50998 => ?_)
                      have hq_x_50998 := z_addq he_x_50998 (rfl : v_47760.toInt = _) hk_0 (by omega) (by omega)
                      refine lv_istore_n (lv' := [(3, .int x_50998), (0, .ref h0), (1, .int r), (2, .int k), (4, .int v_47761), (5, .int v_50933), (6, .int v_50934), (7, .int v_50935)]) hx hb dX12_filed_162 rfl hl (by decide) rfl (fun ls hl => ?_)
                      obtain ⟨x_50999, he_x_50999⟩ : ∃ z : Int32, z = v_47761 + 1 := ⟨_, rfl⟩
                      have hq_x_50999 := z_addq he_x_50999 (rfl : v_47761.toInt = _) hk_1 (by omega) (by omega)
                      refine lv_iinc (v := x_50999) (lv' := [(4, .int x_50999), (3, .int x_50998), (0, .ref h0), (1, .int r), (2, .int k), (5, .int v_50933), (6, .int v_50934), (7, .int v_50935)]) hx hb dX12_filed_163 hl (k := 4) rfl ((z_ofi (by decide +kernel)).trans he_x_50999.symm) (by decide) rfl (fun ls hl => ?_)
                      refine lv_goto (tgt := 54) hx hb dX12_filed_166 (by decide) ?_
                      have hX_51000 : F_r_filed m_thereMany g_c g_there r k = F_r_filed_L54a g_c k n_22 n_23 n_L54a x_50998 x_50999 := by
                        refine hF_L72a.trans ?_
                        refine (F_r_filed_L72a_s ..).trans ?_
                        refine (if_pos c_50992).trans ?_
                        refine (if_pos c_50994).trans ?_
                        refine (if_pos c_50996).trans ?_
                        try (extract_lets -merge -useContext +onlyGivenNames y9; have e9 : x_50998 = y9 := (by first | exact he_x_50998 | exact he_x_50998.symm); clear_value y9; subst e9)
                        try (extract_lets -merge -useContext +onlyGivenNames y9; have e9 : x_50999 = y9 := (by first | exact he_x_50999 | exact he_x_50999.symm); clear_value y9; subst e9)
                        exact rfl
                      exact ih_49926 x_50998 x_50999 H locs ls (by omega) (by omega) hX_51000 hP hD hS (lv_sub hl [2, 3, 4, 1, 0] rfl)
                    · have b_51001 := z_fgtF c_50996
                      refine lv_iconst (v := 1) hx hb dX12_filed_156 (by decide) ?_
                      refine lv_goto (tgt := 161) hx hb dX12_filed_157 (by decide) ?_
                      refine lv_iadd hx hb dX12_filed_161 ?_
                      have hL_v_47760 := z_full v_47760
                      refine lv_topi (fun x_51002 he_x_51002 => ?_)
                      refine lv_istore_n (lv' := [(3, .int x_51002), (0, .ref h0), (1, .int r), (2, .int k), (4, .int v_47761), (5, .int v_50933), (6, .int v_50934), (7, .int v_50935)]) hx hb dX12_filed_162 rfl hl (by decide) rfl (fun ls hl => ?_)
                      obtain ⟨x_51003, he_x_51003⟩ : ∃ z : Int32, z = v_47761 + 1 := ⟨_, rfl⟩
                      have hq_x_51003 := z_addq he_x_51003 (rfl : v_47761.toInt = _) hk_1 (by omega) (by omega)
                      refine lv_iinc (v := x_51003) (lv' := [(4, .int x_51003), (3, .int x_51002), (0, .ref h0), (1, .int r), (2, .int k), (5, .int v_50933), (6, .int v_50934), (7, .int v_50935)]) hx hb dX12_filed_163 hl (k := 4) rfl ((z_ofi (by decide +kernel)).trans he_x_51003.symm) (by decide) rfl (fun ls hl => ?_)
                      refine lv_goto (tgt := 54) hx hb dX12_filed_166 (by decide) ?_
                      have hX_51004 : F_r_filed m_thereMany g_c g_there r k = F_r_filed_L54a g_c k n_22 n_23 n_L54a x_51002 x_51003 := by
                        refine hF_L72a.trans ?_
                        refine (F_r_filed_L72a_s ..).trans ?_
                        refine (if_pos c_50992).trans ?_
                        refine (if_pos c_50994).trans ?_
                        refine (if_neg c_50996).trans ?_
                        try (extract_lets -merge -useContext +onlyGivenNames y9; have e9 : x_51002 = y9 := (by first | exact he_x_51002 | exact he_x_51002.symm); clear_value y9; subst e9)
                        try (extract_lets -merge -useContext +onlyGivenNames y9; have e9 : x_51003 = y9 := (by first | exact he_x_51003 | exact he_x_51003.symm); clear_value y9; subst e9)
                        exact rfl
                      exact ih_49926 x_51002 x_51003 H locs ls (by omega) (by omega) hX_51004 hP hD hS (lv_sub hl [2, 3, 4, 1, 0] rfl)
                  · have b_51005 := z_fgtF c_50994
                    refine lv_aload_n hx hb dX12_filed_143 rfl (lv_at hl 0 rfl) ?_
                    refine lv_bipush (v := 9) hx hb dX12_filed_144 (by decide) ?_
                    refine z_callVi (As := [.int 9]) (rest := []) (wr := [(a_c, .inl (cA.1 0, 1825, .inl g_c)), (a_there, .inl (cA.1 0, 10, .inl n_23))]) ⟨hx, hb, hml, hown, hts⟩ hK hE hT hP hD hS hA (r_refuse l G cA h0 0 0 m_above m_under a_traySort a_trayMany a_numbers a_tape m_taped m_textEnd m_faultKind m_faultAt m_bad m_badAt m_token m_at m_behind m_number m_letters m_word a_c a_words m_markMany a_there a_tried a_best a_found n_22 m_foundMany m_orderHow m_orderRing m_orderMany m_hasBest m_bestTop m_bestBy a_weights a_shared m_random m_truePlace m_trueWay m_seconds m_done m_feelings m_tries m_leftOver m_playDoor m_playRing m_isOpen m_isOver m_wasTried m_hasPlayed a_feltNow a_last a_kept m_hasSeconds m_hasTurned m_hasRound a_hasFeels a_isOn m_firstAct m_meanTop m_meanBy a_order m_rowMany m_newSteps 9) lk_RX12_269 ⟨rfl, rfl⟩ ⟨Nat.le_of_ble_eq_true rfl, Nat.le_of_ble_eq_true rfl⟩ 12 rfl rfl rfl [0] [1, 2] rfl rfl (by decide) rfl hl.1 rfl (lv_room (Nat.le_of_ble_eq_true rfl)) dX12_filed_146 ⟨Nat.le_of_ble_eq_true rfl, Nat.le_of_ble_eq_true rfl⟩ (fun r_51007 u_51008 H locs hw hP hD hS => ?_)
                    obtain ⟨n_51006, rfl⟩ : ∃ z, z = u_51008 := ⟨_, rfl⟩
                    obtain ⟨he_r_51007, he_n_51006, hw⟩ := hw
                    have hr_r_51007 := hw
                    have hpost : (0 ≤ (0 : Int32).toInt ∧ (0 : Int32).toInt ≤ 0) ∧ (0 ≤ n_22.toInt ∧ n_22.toInt ≤ 10) ∧ (zRg 10 0 9 n_23) := ⟨(by decide +kernel), hr_n_22, hC_n_23⟩
                    have hX_51010 : F_r_filed m_thereMany g_c g_there r k = ((r_51007, n_51006, (0 : Int32), n_22, n_23) : Int32 × Int32 × Int32 × Int32 × (Nat → Int32)) := by
                      refine hF_L72a.trans ?_
                      refine (F_r_filed_L72a_s ..).trans ?_
                      refine (if_pos c_50992).trans ?_
                      refine (if_neg c_50994).trans ?_
                      extract_lets -merge -useContext +onlyGivenNames w9 y2_0 y2_1; have e9 : (r_51007, n_51006) = w9 := ((z_tS he_r_51007 he_n_51006.symm)).symm; clear_value w9; subst e9
                      exact rfl
                    exact hret _ _ _ _ _ _ (n_51006, 0, n_22, n_23) [2, 0, 1] hP hD hS rfl (by decide) dX12_filed_149 ⟨(congrArg (fun z9 => z9.1) hX_51010).symm, (congrArg (fun z9 => z9.2.1) hX_51010).symm, (congrArg (fun z9 => z9.2.2.1) hX_51010).symm, (congrArg (fun z9 => z9.2.2.2.1) hX_51010).symm, (congrArg (fun z9 => z9.2.2.2.2) hX_51010).symm, hpost⟩
                · have b_51011 := z_fltF c_50992
                  refine lv_aload_n hx hb dX12_filed_81 rfl (lv_at hl 0 rfl) ?_
                  refine lv_aload_n hx hb dX12_filed_82 rfl (lv_at hl 0 rfl) ?_
                  refine va_get (D := G) (ci := 12) (v := .ref a_there) (C := RX12) (T := TX12) (N := 65) hx hb hts inT12 hown hK hP 0 rfl rfl 23 (by decide) (hts _ tw_1908) (fun _ h9 => h9) rfl dX12_filed_83 ?_
                  refine lv_iload hx hb dX12_filed_86 (lv_at hl 4 rfl) ?_
                  refine va_iald hx hb hK hP 2 0 rfl rfl (z_inN (by omega) (by omega)) dX12_filed_88 ?_
                  refine lv_topi (fun x_51012 he_x_51012 => ?_)
                  have hr_x_51012 := z_rg hC_n_23 he_x_51012 (by omega) (by omega)
                  refine lv_iconst (v := 0) hx hb dX12_filed_89 (by decide) ?_
                  refine lv_aload_n hx hb dX12_filed_90 rfl (lv_at hl 0 rfl) ?_
                  refine va_get (D := G) (ci := 12) (v := .ref a_there) (C := RX12) (T := TX12) (N := 65) hx hb hts inT12 hown hK hP 0 rfl rfl 23 (by decide) (hts _ tw_1908) (fun _ h9 => h9) rfl dX12_filed_91 ?_
                  refine lv_iload hx hb dX12_filed_94 (lv_at hl 7 rfl) ?_
                  refine va_iald hx hb hK hP 2 0 rfl rfl (z_inN (by omega) (by omega)) dX12_filed_96 ?_
                  refine lv_topi (fun x_51013 he_x_51013 => ?_)
                  have hr_x_51013 := z_rg hC_n_23 he_x_51013 (by omega) (by omega)
                  refine lv_iconst (v := 0) hx hb dX12_filed_97 (by decide) ?_
                  refine lv_aload_n hx hb dX12_filed_98 rfl (lv_at hl 0 rfl) ?_
                  refine z_callVi (As := []) (rest := [.int 0, .int x_51013, .int 0, .int x_51012, .ref h0]) (wr := [(a_there, .inl (cA.1 0, 10, .inl n_23))]) ⟨hx, hb, hml, hown, hts⟩ hK hE hT hP hD hS hA (r_all l G cA h0 0 0 m_above m_under a_traySort a_trayMany a_numbers a_tape m_taped m_textEnd m_faultKind m_faultAt m_bad m_badAt m_token m_at m_behind m_number m_letters m_word a_c a_words m_markMany a_there a_tried a_best a_found n_22 m_foundMany m_orderHow m_orderRing m_orderMany m_hasBest m_bestTop m_bestBy a_weights a_shared m_random m_truePlace m_trueWay m_seconds m_done m_feelings m_tries m_leftOver m_playDoor m_playRing m_isOpen m_isOver m_wasTried m_hasPlayed a_feltNow a_last a_kept m_hasSeconds m_hasTurned m_hasRound a_hasFeels a_isOn m_firstAct m_meanTop m_meanBy a_order m_rowMany m_newSteps g_c hC_g_c) lk_RX12_457 ⟨rfl, rfl⟩ ⟨Nat.le_of_ble_eq_true rfl, Nat.le_of_ble_eq_true rfl⟩ 12 rfl rfl rfl [0, 1] [2] rfl rfl (by decide) rfl hl.1 rfl (lv_room (Nat.le_of_ble_eq_true rfl)) dX12_filed_99 ⟨Nat.le_of_ble_eq_true rfl, Nat.le_of_ble_eq_true rfl⟩ (fun r_51014 u_51015 H locs hw hP hD hS => ?_)
                  obtain ⟨he_r_51014, hw⟩ := hw
                  have hr_r_51014 := hw
                  refine z_callVi (As := [.int x_51012, .int 0, .int x_51013, .int 0, .int r_51014]) (rest := []) (wr := [(a_there, .inl (cA.1 0, 10, .inl n_23))]) ⟨hx, hb, hml, hown, hts⟩ hK hE hT hP hD hS hA (r_differ l G cA h0 0 0 m_above m_under a_traySort a_trayMany a_numbers a_tape m_taped m_textEnd m_faultKind m_faultAt m_bad m_badAt m_token m_at m_behind m_number m_letters m_word a_c a_words m_markMany a_there a_tried a_best a_found n_22 m_foundMany m_orderHow m_orderRing m_orderMany m_hasBest m_bestTop m_bestBy a_weights a_shared m_random m_truePlace m_trueWay m_seconds m_done m_feelings m_tries m_leftOver m_playDoor m_playRing m_isOpen m_isOver m_wasTried m_hasPlayed a_feltNow a_last a_kept m_hasSeconds m_hasTurned m_hasRound a_hasFeels a_isOn m_firstAct m_meanTop m_meanBy a_order m_rowMany m_newSteps g_c x_51012 0 x_51013 0 r_51014 hr_x_51012 (by decide +kernel) hr_x_51013 (by decide +kernel) hC_g_c) lk_RX12_453 ⟨rfl, rfl⟩ ⟨Nat.le_of_ble_eq_true rfl, Nat.le_of_ble_eq_true rfl⟩ 12 rfl rfl rfl [1, 2] [0] rfl rfl (by decide) rfl hl.1 rfl (lv_room (Nat.le_of_ble_eq_true rfl)) dX12_filed_102 ⟨Nat.le_of_ble_eq_true rfl, Nat.le_of_ble_eq_true rfl⟩ (fun r_51017 u_51018 H locs hw hP hD hS => ?_)
                  obtain ⟨he_r_51017, hw⟩ := hw
                  rcases hw with ⟨rfl, -⟩ | ⟨rfl, -⟩
                  · skip
                    refine lv_if_eq (tgt := 111) hx hb dX12_filed_105 (by decide) (fun _ => ?_) (fun h9 => absurd (by decide +kernel) h9)
                    have hL_v_50933 := z_full v_50933
                    obtain ⟨x_51020, he_x_51020⟩ : ∃ z : Int32, z = v_50933 + 1 := ⟨_, rfl⟩
                    refine lv_iinc (v := x_51020) (lv' := [(5, .int x_51020), (0, .ref h0), (1, .int r), (2, .int k), (3, .int v_47760), (4, .int v_47761), (6, .int v_50934), (7, .int v_50935)]) hx hb dX12_filed_111 hl (k := 5) rfl ((z_ofi (by decide +kernel)).trans he_x_51020.symm) (by decide) rfl (fun ls hl => ?_)
                    refine lv_iload hx hb dX12_filed_114 (lv_at hl 6 rfl) ?_
                    refine lv_iload hx hb dX12_filed_116 (lv_at hl 7 rfl) ?_
                    refine lv_iload hx hb dX12_filed_118 (lv_at hl 5 rfl) ?_
                    refine lv_icmp_ge (tgt := 127) hx hb dX12_filed_120 (by decide) (fun c_51021 => ?_) (fun c_51021 => ?_)
                    · have b_51022 := z_fgeT c_51021
                      refine lv_iconst (v := 0) hx hb dX12_filed_127 (by decide) ?_
                      refine lv_iadd hx hb dX12_filed_128 ?_
                      have hL_v_50934 := z_full v_50934
                      refine lv_topi (fun x_51023 he_x_51023 => ?_)
                      have hq_x_51023 := z_addq he_x_51023 (rfl : v_50934.toInt = _) hk_0 (by omega) (by omega)
                      refine lv_istore (lv' := [(6, .int x_51023), (5, .int x_51020), (0, .ref h0), (1, .int r), (2, .int k), (3, .int v_47760), (4, .int v_47761), (7, .int v_50935)]) hx hb dX12_filed_129 hl (by decide) rfl (fun ls hl => ?_)
                      obtain ⟨x_51024, he_x_51024⟩ : ∃ z : Int32, z = v_50935 + 1 := ⟨_, rfl⟩
                      have hq_x_51024 := z_addq he_x_51024 (rfl : v_50935.toInt = _) hk_1 (by omega) (by omega)
                      refine lv_iinc (v := x_51024) (lv' := [(7, .int x_51024), (6, .int x_51023), (5, .int x_51020), (0, .ref h0), (1, .int r), (2, .int k), (3, .int v_47760), (4, .int v_47761)]) hx hb dX12_filed_131 hl (k := 7) rfl ((z_ofi (by decide +kernel)).trans he_x_51024.symm) (by decide) rfl (fun ls hl => ?_)
                      refine lv_goto (tgt := 72) hx hb dX12_filed_134 (by decide) ?_
                      have hX_51025 : F_r_filed m_thereMany g_c g_there r k = F_r_filed_L72a g_c k n_22 n_23 v_47760 v_47761 (F_r_filed_L54a g_c k n_22 n_23 n_L54a) n_L72a x_51020 x_51023 x_51024 := by
                        refine hF_L72a.trans ?_
                        refine (F_r_filed_L72a_s ..).trans ?_
                        refine (if_neg c_50992).trans ?_
                        try (extract_lets -merge -useContext +onlyGivenNames y9; have e9 : x_51012 = y9 := (by first | exact he_x_51012 | exact he_x_51012.symm); clear_value y9; subst e9)
                        try (extract_lets -merge -useContext +onlyGivenNames y9; have e9 : x_51013 = y9 := (by first | exact he_x_51013 | exact he_x_51013.symm); clear_value y9; subst e9)
                        extract_lets -merge -useContext +onlyGivenNames w9 y9; have e9 : r_51014 = w9 := he_r_51014; clear_value w9; subst e9
                        extract_lets -merge -useContext +onlyGivenNames w9 y9; have e9 : (0 : Int32) = w9 := he_r_51017; clear_value w9; subst e9
                        refine (if_pos rfl).trans ?_
                        try (extract_lets -merge -useContext +onlyGivenNames y9; have e9 : x_51020 = y9 := (by first | exact he_x_51020 | exact he_x_51020.symm); clear_value y9; subst e9)
                        refine (if_pos c_51021).trans ?_
                        try (extract_lets -merge -useContext +onlyGivenNames y9; have e9 : x_51023 = y9 := (by first | exact he_x_51023 | exact he_x_51023.symm); clear_value y9; subst e9)
                        try (extract_lets -merge -useContext +onlyGivenNames y9; have e9 : x_51024 = y9 := (by first | exact he_x_51024 | exact he_x_51024.symm); clear_value y9; subst e9)
                        exact rfl
                      have hP := hP.sub (ws' := [(h0, .inr (12, [.int 0, .int 0, .long m_above, .long m_under, .ref a_traySort, .ref a_trayMany, .ref a_numbers, .ref a_tape, .int m_taped, .int m_textEnd, .int m_faultKind, .int m_faultAt, .int m_bad, .int m_badAt, .int m_token, .int m_at, .int m_behind, .int m_number, .int m_letters, .long m_word, .ref a_c, .ref a_words, .int m_markMany, .ref a_there, .ref a_tried, .ref a_best, .ref a_found, .int n_22, .int m_foundMany, .int m_orderHow, .int m_orderRing, .int m_orderMany, .int m_hasBest, .long m_bestTop, .long m_bestBy, .ref a_weights, .ref a_shared, .int m_random, .int m_truePlace, .int m_trueWay, .int m_seconds, .int m_done, .int m_feelings, .int m_tries, .int m_leftOver, .int m_playDoor, .int m_playRing, .int m_isOpen, .int m_isOver, .int m_wasTried, .int m_hasPlayed, .ref a_feltNow, .ref a_last, .ref a_kept, .int m_hasSeconds, .int m_hasTurned, .int m_hasRound, .ref a_hasFeels, .ref a_isOn, .int m_firstAct, .long m_meanTop, .long m_meanBy, .ref a_order, .int m_rowMany, .int m_newSteps])), (a_c, .inl (cA.1 0, 1825, .inl g_c)), (a_there, .inl (cA.1 0, 10, .inl n_23))]) [1, 2, 0] rfl
                      have hD := hD.sub (ws' := [(h0, .inr (12, [.int 0, .int 0, .long m_above, .long m_under, .ref a_traySort, .ref a_trayMany, .ref a_numbers, .ref a_tape, .int m_taped, .int m_textEnd, .int m_faultKind, .int m_faultAt, .int m_bad, .int m_badAt, .int m_token, .int m_at, .int m_behind, .int m_number, .int m_letters, .long m_word, .ref a_c, .ref a_words, .int m_markMany, .ref a_there, .ref a_tried, .ref a_best, .ref a_found, .int n_22, .int m_foundMany, .int m_orderHow, .int m_orderRing, .int m_orderMany, .int m_hasBest, .long m_bestTop, .long m_bestBy, .ref a_weights, .ref a_shared, .int m_random, .int m_truePlace, .int m_trueWay, .int m_seconds, .int m_done, .int m_feelings, .int m_tries, .int m_leftOver, .int m_playDoor, .int m_playRing, .int m_isOpen, .int m_isOver, .int m_wasTried, .int m_hasPlayed, .ref a_feltNow, .ref a_last, .ref a_kept, .int m_hasSeconds, .int m_hasTurned, .int m_hasRound, .ref a_hasFeels, .ref a_isOn, .int m_firstAct, .long m_meanTop, .long m_meanBy, .ref a_order, .int m_rowMany, .int m_newSteps])), (a_c, .inl (cA.1 0, 1825, .inl g_c)), (a_there, .inl (cA.1 0, 10, .inl n_23))]) [1, 2, 0] (by decide) rfl
                      exact ih_50991 x_51020 x_51023 x_51024 H locs ls (by omega) (by omega) hX_51025 hP hD hS (lv_sub hl [3, 4, 5, 6, 7, 2, 1, 0] rfl)
                    · have b_51026 := z_fltF c_51021
                      refine lv_iconst (v := 1) hx hb dX12_filed_123 (by decide) ?_
                      refine lv_goto (tgt := 128) hx hb dX12_filed_124 (by decide) ?_
                      refine lv_iadd hx hb dX12_filed_128 ?_
                      have hL_v_50934 := z_full v_50934
                      refine lv_topi (fun x_51027 he_x_51027 => ?_)
                      refine lv_istore (lv' := [(6, .int x_51027), (5, .int x_51020), (0, .ref h0), (1, .int r), (2, .int k), (3, .int v_47760), (4, .int v_47761), (7, .int v_50935)]) hx hb dX12_filed_129 hl (by decide) rfl (fun ls hl => ?_)
                      obtain ⟨x_51028, he_x_51028⟩ : ∃ z : Int32, z = v_50935 + 1 := ⟨_, rfl⟩
                      have hq_x_51028 := z_addq he_x_51028 (rfl : v_50935.toInt = _) hk_1 (by omega) (by omega)
                      refine lv_iinc (v := x_51028) (lv' := [(7, .int x_51028), (6, .int x_51027), (5, .int x_51020), (0, .ref h0), (1, .int r), (2, .int k), (3, .int v_47760), (4, .int v_47761)]) hx hb dX12_filed_131 hl (k := 7) rfl ((z_ofi (by decide +kernel)).trans he_x_51028.symm) (by decide) rfl (fun ls hl => ?_)
                      refine lv_goto (tgt := 72) hx hb dX12_filed_134 (by decide) ?_
                      have hX_51029 : F_r_filed m_thereMany g_c g_there r k = F_r_filed_L72a g_c k n_22 n_23 v_47760 v_47761 (F_r_filed_L54a g_c k n_22 n_23 n_L54a) n_L72a x_51020 x_51027 x_51028 := by
                        refine hF_L72a.trans ?_
                        refine (F_r_filed_L72a_s ..).trans ?_
                        refine (if_neg c_50992).trans ?_
                        try (extract_lets -merge -useContext +onlyGivenNames y9; have e9 : x_51012 = y9 := (by first | exact he_x_51012 | exact he_x_51012.symm); clear_value y9; subst e9)
                        try (extract_lets -merge -useContext +onlyGivenNames y9; have e9 : x_51013 = y9 := (by first | exact he_x_51013 | exact he_x_51013.symm); clear_value y9; subst e9)
                        extract_lets -merge -useContext +onlyGivenNames w9 y9; have e9 : r_51014 = w9 := he_r_51014; clear_value w9; subst e9
                        extract_lets -merge -useContext +onlyGivenNames w9 y9; have e9 : (0 : Int32) = w9 := he_r_51017; clear_value w9; subst e9
                        refine (if_pos rfl).trans ?_
                        try (extract_lets -merge -useContext +onlyGivenNames y9; have e9 : x_51020 = y9 := (by first | exact he_x_51020 | exact he_x_51020.symm); clear_value y9; subst e9)
                        refine (if_neg c_51021).trans ?_
                        try (extract_lets -merge -useContext +onlyGivenNames y9; have e9 : x_51027 = y9 := (by first | exact he_x_51027 | exact he_x_51027.symm); clear_value y9; subst e9)
                        try (extract_lets -merge -useContext +onlyGivenNames y9; have e9 : x_51028 = y9 := (by first | exact he_x_51028 | exact he_x_51028.symm); clear_value y9; subst e9)
                        exact rfl
                      have hP := hP.sub (ws' := [(h0, .inr (12, [.int 0, .int 0, .long m_above, .long m_under, .ref a_traySort, .ref a_trayMany, .ref a_numbers, .ref a_tape, .int m_taped, .int m_textEnd, .int m_faultKind, .int m_faultAt, .int m_bad, .int m_badAt, .int m_token, .int m_at, .int m_behind, .int m_number, .int m_letters, .long m_word, .ref a_c, .ref a_words, .int m_markMany, .ref a_there, .ref a_tried, .ref a_best, .ref a_found, .int n_22, .int m_foundMany, .int m_orderHow, .int m_orderRing, .int m_orderMany, .int m_hasBest, .long m_bestTop, .long m_bestBy, .ref a_weights, .ref a_shared, .int m_random, .int m_truePlace, .int m_trueWay, .int m_seconds, .int m_done, .int m_feelings, .int m_tries, .int m_leftOver, .int m_playDoor, .int m_playRing, .int m_isOpen, .int m_isOver, .int m_wasTried, .int m_hasPlayed, .ref a_feltNow, .ref a_last, .ref a_kept, .int m_hasSeconds, .int m_hasTurned, .int m_hasRound, .ref a_hasFeels, .ref a_isOn, .int m_firstAct, .long m_meanTop, .long m_meanBy, .ref a_order, .int m_rowMany, .int m_newSteps])), (a_c, .inl (cA.1 0, 1825, .inl g_c)), (a_there, .inl (cA.1 0, 10, .inl n_23))]) [1, 2, 0] rfl
                      have hD := hD.sub (ws' := [(h0, .inr (12, [.int 0, .int 0, .long m_above, .long m_under, .ref a_traySort, .ref a_trayMany, .ref a_numbers, .ref a_tape, .int m_taped, .int m_textEnd, .int m_faultKind, .int m_faultAt, .int m_bad, .int m_badAt, .int m_token, .int m_at, .int m_behind, .int m_number, .int m_letters, .long m_word, .ref a_c, .ref a_words, .int m_markMany, .ref a_there, .ref a_tried, .ref a_best, .ref a_found, .int n_22, .int m_foundMany, .int m_orderHow, .int m_orderRing, .int m_orderMany, .int m_hasBest, .long m_bestTop, .long m_bestBy, .ref a_weights, .ref a_shared, .int m_random, .int m_truePlace, .int m_trueWay, .int m_seconds, .int m_done, .int m_feelings, .int m_tries, .int m_leftOver, .int m_playDoor, .int m_playRing, .int m_isOpen, .int m_isOver, .int m_wasTried, .int m_hasPlayed, .ref a_feltNow, .ref a_last, .ref a_kept, .int m_hasSeconds, .int m_hasTurned, .int m_hasRound, .ref a_hasFeels, .ref a_isOn, .int m_firstAct, .long m_meanTop, .long m_meanBy, .ref a_order, .int m_rowMany, .int m_newSteps])), (a_c, .inl (cA.1 0, 1825, .inl g_c)), (a_there, .inl (cA.1 0, 10, .inl n_23))]) [1, 2, 0] (by decide) rfl
                      exact ih_50991 x_51020 x_51027 x_51028 H locs ls (by omega) (by omega) hX_51029 hP hD hS (lv_sub hl [3, 4, 5, 6, 7, 2, 1, 0] rfl)
                  · skip
                    refine lv_if_eq (tgt := 111) hx hb dX12_filed_105 (by decide) (fun h9 => absurd h9 (by decide +kernel)) (fun _ => ?_)
                    refine lv_goto (tgt := 131) hx hb dX12_filed_108 (by decide) ?_
                    obtain ⟨x_51030, he_x_51030⟩ : ∃ z : Int32, z = v_50935 + 1 := ⟨_, rfl⟩
                    have hq_x_51030 := z_addq he_x_51030 (rfl : v_50935.toInt = _) hk_1 (by omega) (by omega)
                    refine lv_iinc (v := x_51030) (lv' := [(7, .int x_51030), (0, .ref h0), (1, .int r), (2, .int k), (3, .int v_47760), (4, .int v_47761), (5, .int v_50933), (6, .int v_50934)]) hx hb dX12_filed_131 hl (k := 7) rfl ((z_ofi (by decide +kernel)).trans he_x_51030.symm) (by decide) rfl (fun ls hl => ?_)
                    refine lv_goto (tgt := 72) hx hb dX12_filed_134 (by decide) ?_
                    have hX_51031 : F_r_filed m_thereMany g_c g_there r k = F_r_filed_L72a g_c k n_22 n_23 v_47760 v_47761 (F_r_filed_L54a g_c k n_22 n_23 n_L54a) n_L72a v_50933 v_50934 x_51030 := by
                      refine hF_L72a.trans ?_
                      refine (F_r_filed_L72a_s ..).trans ?_
                      refine (if_neg c_50992).trans ?_
                      try (extract_lets -merge -useContext +onlyGivenNames y9; have e9 : x_51012 = y9 := (by first | exact he_x_51012 | exact he_x_51012.symm); clear_value y9; subst e9)
                      try (extract_lets -merge -useContext +onlyGivenNames y9; have e9 : x_51013 = y9 := (by first | exact he_x_51013 | exact he_x_51013.symm); clear_value y9; subst e9)
                      extract_lets -merge -useContext +onlyGivenNames w9 y9; have e9 : r_51014 = w9 := he_r_51014; clear_value w9; subst e9
                      extract_lets -merge -useContext +onlyGivenNames w9 y9; have e9 : (1 : Int32) = w9 := he_r_51017; clear_value w9; subst e9
                      refine (if_neg (show ¬ (1 : Int32) = 0 by decide)).trans ?_
                      try (extract_lets -merge -useContext +onlyGivenNames y9; have e9 : x_51030 = y9 := (by first | exact he_x_51030 | exact he_x_51030.symm); clear_value y9; subst e9)
                      exact rfl
                    have hP := hP.sub (ws' := [(h0, .inr (12, [.int 0, .int 0, .long m_above, .long m_under, .ref a_traySort, .ref a_trayMany, .ref a_numbers, .ref a_tape, .int m_taped, .int m_textEnd, .int m_faultKind, .int m_faultAt, .int m_bad, .int m_badAt, .int m_token, .int m_at, .int m_behind, .int m_number, .int m_letters, .long m_word, .ref a_c, .ref a_words, .int m_markMany, .ref a_there, .ref a_tried, .ref a_best, .ref a_found, .int n_22, .int m_foundMany, .int m_orderHow, .int m_orderRing, .int m_orderMany, .int m_hasBest, .long m_bestTop, .long m_bestBy, .ref a_weights, .ref a_shared, .int m_random, .int m_truePlace, .int m_trueWay, .int m_seconds, .int m_done, .int m_feelings, .int m_tries, .int m_leftOver, .int m_playDoor, .int m_playRing, .int m_isOpen, .int m_isOver, .int m_wasTried, .int m_hasPlayed, .ref a_feltNow, .ref a_last, .ref a_kept, .int m_hasSeconds, .int m_hasTurned, .int m_hasRound, .ref a_hasFeels, .ref a_isOn, .int m_firstAct, .long m_meanTop, .long m_meanBy, .ref a_order, .int m_rowMany, .int m_newSteps])), (a_c, .inl (cA.1 0, 1825, .inl g_c)), (a_there, .inl (cA.1 0, 10, .inl n_23))]) [1, 2, 0] rfl
                    have hD := hD.sub (ws' := [(h0, .inr (12, [.int 0, .int 0, .long m_above, .long m_under, .ref a_traySort, .ref a_trayMany, .ref a_numbers, .ref a_tape, .int m_taped, .int m_textEnd, .int m_faultKind, .int m_faultAt, .int m_bad, .int m_badAt, .int m_token, .int m_at, .int m_behind, .int m_number, .int m_letters, .long m_word, .ref a_c, .ref a_words, .int m_markMany, .ref a_there, .ref a_tried, .ref a_best, .ref a_found, .int n_22, .int m_foundMany, .int m_orderHow, .int m_orderRing, .int m_orderMany, .int m_hasBest, .long m_bestTop, .long m_bestBy, .ref a_weights, .ref a_shared, .int m_random, .int m_truePlace, .int m_trueWay, .int m_seconds, .int m_done, .int m_feelings, .int m_tries, .int m_leftOver, .int m_playDoor, .int m_playRing, .int m_isOpen, .int m_isOver, .int m_wasTried, .int m_hasPlayed, .ref a_feltNow, .ref a_last, .ref a_kept, .int m_hasSeconds, .int m_hasTurned, .int m_hasRound, .ref a_hasFeels, .ref a_isOn, .int m_firstAct, .long m_meanTop, .long m_meanBy, .ref a_order, .int m_rowMany, .int m_newSteps])), (a_c, .inl (cA.1 0, 1825, .inl g_c)), (a_there, .inl (cA.1 0, 10, .inl n_23))]) [1, 2, 0] (by decide) rfl
                    exact ih_50991 v_50933 v_50934 x_51030 H locs ls (by omega) (by omega) hX_51031 hP hD hS (lv_sub hl [1, 2, 3, 4, 5, 6, 7, 0] rfl)
            have hX_51032 : F_r_filed m_thereMany g_c g_there r k = F_r_filed_L72a g_c k n_22 n_23 v_47760 v_47761 (F_r_filed_L54a g_c k n_22 n_23 n_L54a) ((2147483647 - (0 : Int32).toInt).toNat + 1) (0 : Int32) (0 : Int32) (0 : Int32) := by
              refine hF_L54a.trans ?_
              refine (F_r_filed_L54a_s ..).trans ?_
              refine (if_neg c_49927).trans ?_
              exact rfl
            exact hlp_50990 ((2147483647 - (0 : Int32).toInt).toNat + 1) 0 0 0 _ _ _ (Nat.lt_succ_self _) (by decide +kernel) hX_51032 hP hD hS (lv_sub hl [3, 4, 5, 6, 7, 2, 1, 0] rfl)
      have hX_51033 : F_r_filed m_thereMany g_c g_there r k = F_r_filed_L54a g_c k n_22 n_23 ((2147483647 - (0 : Int32).toInt).toNat + 1) (0 : Int32) (0 : Int32) := by
        refine (F_r_filed_s ..).trans ?_
        extract_lets -merge -useContext +onlyGivenNames w9 y9; have e9 : (1 : Int32) = w9 := he_r_1; clear_value w9; subst e9
        refine (if_neg (show ¬ (1 : Int32) = 0 by decide)).trans ?_
        try (extract_lets -merge -useContext +onlyGivenNames y9; have e9 : x_11 = y9 := (by first | exact he_x_11 | exact he_x_11.symm); clear_value y9; subst e9)
        extract_lets -merge -useContext +onlyGivenNames w9 y9; have e9 : (1 : Int32) = w9 := he_r_12; clear_value w9; subst e9
        refine (if_neg (show ¬ (1 : Int32) = 0 by decide)).trans ?_
        extract_lets -merge -useContext +onlyGivenNames w9 y5_0 y5_1; have e9 : (n_22, n_23) = w9 := ((z_tS he_n_22 he_n_23.symm)).symm; clear_value w9; subst e9
        exact rfl
      exact hlp_49925 ((2147483647 - (0 : Int32).toInt).toNat + 1) 0 0 _ _ _ (Nat.lt_succ_self _) (by decide +kernel) hX_51033 hP hD hS (lv_sub hl [2, 3, 4, 1, 0] rfl)
set_option maxHeartbeats 4000000 in
set_option maxRecDepth 100000 in
theorem r_areSame (l : Launch) (G : va_G) (cA : zCA) (h0 : Nat) (m_status : Int32) (m_thrown : Int32) (m_above : Int64) (m_under : Int64) (a_traySort : Nat) (a_trayMany : Nat) (a_numbers : Nat) (a_tape : Nat) (m_taped : Int32) (m_textEnd : Int32) (m_faultKind : Int32) (m_faultAt : Int32) (m_bad : Int32) (m_badAt : Int32) (m_token : Int32) (m_at : Int32) (m_behind : Int32) (m_number : Int32) (m_letters : Int32) (m_word : Int64) (a_c : Nat) (a_words : Nat) (m_markMany : Int32) (a_there : Nat) (a_tried : Nat) (a_best : Nat) (a_found : Nat) (m_thereMany : Int32) (m_foundMany : Int32) (m_orderHow : Int32) (m_orderRing : Int32) (m_orderMany : Int32) (m_hasBest : Int32) (m_bestTop : Int64) (m_bestBy : Int64) (a_weights : Nat) (a_shared : Nat) (m_random : Int32) (m_truePlace : Int32) (m_trueWay : Int32) (m_seconds : Int32) (m_done : Int32) (m_feelings : Int32) (m_tries : Int32) (m_leftOver : Int32) (m_playDoor : Int32) (m_playRing : Int32) (m_isOpen : Int32) (m_isOver : Int32) (m_wasTried : Int32) (m_hasPlayed : Int32) (a_feltNow : Nat) (a_last : Nat) (a_kept : Nat) (m_hasSeconds : Int32) (m_hasTurned : Int32) (m_hasRound : Int32) (a_hasFeels : Nat) (a_isOn : Nat) (m_firstAct : Int32) (m_meanTop : Int64) (m_meanBy : Int64) (a_order : Nat) (m_rowMany : Int32) (m_newSteps : Int32) (g_c : Nat → Int32) (g_there : Nat → Int32) (pp : Int32) (q : Int32) (w : Int32) (nn : Int32) (hr_pp : 0 ≤ pp.toInt ∧ pp.toInt ≤ 9) (hr_q : 0 ≤ q.toInt ∧ q.toInt ≤ 9) (hr_w : 0 ≤ w.toInt ∧ w.toInt ≤ 1) (hr_nn : 0 ≤ nn.toInt ∧ nn.toInt ≤ 10) (hr_m_thereMany : 0 ≤ m_thereMany.toInt ∧ m_thereMany.toInt ≤ 10) (hC_g_c : zC g_c) (hC_g_there : zRg 10 0 9 g_there) (hp_0 : nn.toInt ≤ m_thereMany.toInt) : zCi l yX12_areSame cX12_areSame 7 (some .boolean) ({ frames := 2, cells := 0, slots := 0, locals := 50 }) G cA [.ref h0, .int pp, .int q, .int w, .int nn] [(h0, .inr (12, [.int m_status, .int m_thrown, .long m_above, .long m_under, .ref a_traySort, .ref a_trayMany, .ref a_numbers, .ref a_tape, .int m_taped, .int m_textEnd, .int m_faultKind, .int m_faultAt, .int m_bad, .int m_badAt, .int m_token, .int m_at, .int m_behind, .int m_number, .int m_letters, .long m_word, .ref a_c, .ref a_words, .int m_markMany, .ref a_there, .ref a_tried, .ref a_best, .ref a_found, .int m_thereMany, .int m_foundMany, .int m_orderHow, .int m_orderRing, .int m_orderMany, .int m_hasBest, .long m_bestTop, .long m_bestBy, .ref a_weights, .ref a_shared, .int m_random, .int m_truePlace, .int m_trueWay, .int m_seconds, .int m_done, .int m_feelings, .int m_tries, .int m_leftOver, .int m_playDoor, .int m_playRing, .int m_isOpen, .int m_isOver, .int m_wasTried, .int m_hasPlayed, .ref a_feltNow, .ref a_last, .ref a_kept, .int m_hasSeconds, .int m_hasTurned, .int m_hasRound, .ref a_hasFeels, .ref a_isOn, .int m_firstAct, .long m_meanTop, .long m_meanBy, .ref a_order, .int m_rowMany, .int m_newSteps])), (a_c, .inl (cA.1 0, 1825, .inl g_c)), (a_there, .inl (cA.1 0, 10, .inl g_there))] (S := Unit) (fun (r : Int32) (u : Unit) => (r = 0 ∧ True) ∨ (r = 1 ∧ True)) (fun (u : Unit) => [(h0, .inr (12, [.int m_status, .int m_thrown, .long m_above, .long m_under, .ref a_traySort, .ref a_trayMany, .ref a_numbers, .ref a_tape, .int m_taped, .int m_textEnd, .int m_faultKind, .int m_faultAt, .int m_bad, .int m_badAt, .int m_token, .int m_at, .int m_behind, .int m_number, .int m_letters, .long m_word, .ref a_c, .ref a_words, .int m_markMany, .ref a_there, .ref a_tried, .ref a_best, .ref a_found, .int m_thereMany, .int m_foundMany, .int m_orderHow, .int m_orderRing, .int m_orderMany, .int m_hasBest, .long m_bestTop, .long m_bestBy, .ref a_weights, .ref a_shared, .int m_random, .int m_truePlace, .int m_trueWay, .int m_seconds, .int m_done, .int m_feelings, .int m_tries, .int m_leftOver, .int m_playDoor, .int m_playRing, .int m_isOpen, .int m_isOver, .int m_wasTried, .int m_hasPlayed, .ref a_feltNow, .ref a_last, .ref a_kept, .int m_hasSeconds, .int m_hasTurned, .int m_hasRound, .ref a_hasFeels, .ref a_isOn, .int m_firstAct, .long m_meanTop, .long m_meanBy, .ref a_order, .int m_rowMany, .int m_newSteps])), (a_c, .inl (cA.1 0, 1825, .inl g_c)), (a_there, .inl (cA.1 0, 10, .inl g_there))]) 0 0 := by
  have hk_0 : (0 : Int32).toInt = 0 := by decide +kernel
  have hk_1 : (1 : Int32).toInt = 1 := by decide +kernel
  refine z_start2z (own := RX12) (by decide) (Nat.le_of_ble_eq_true rfl) rfl ?_
  intro p e s m args below meth c A ls Q hx hb hml hts hown hK hE hT hP hD hS hA hl hret
  have hl : lv_has ls 7 [(0, .ref h0), (1, .int pp), (2, .int q), (3, .int w), (4, .int nn)] := hl
  refine lv_iconst (v := 0) hx hb dX12_areSame_0 (by decide) ?_
  refine lv_istore (lv' := [(5, .int 0), (0, .ref h0), (1, .int pp), (2, .int q), (3, .int w), (4, .int nn)]) hx hb dX12_areSame_1 hl (by decide) rfl (fun ls hl => ?_)
  have hlp_382 : ∀ (n : Nat) (v_350 : Int32) (H : Heap) (locs : List Loc) (ls : Array Slot), (2147483647 - v_350.toInt).toNat < n → (0 ≤ v_350.toInt ∧ v_350.toInt ≤ 10) → va_P G vwCl [(h0, .inr (12, [.int m_status, .int m_thrown, .long m_above, .long m_under, .ref a_traySort, .ref a_trayMany, .ref a_numbers, .ref a_tape, .int m_taped, .int m_textEnd, .int m_faultKind, .int m_faultAt, .int m_bad, .int m_badAt, .int m_token, .int m_at, .int m_behind, .int m_number, .int m_letters, .long m_word, .ref a_c, .ref a_words, .int m_markMany, .ref a_there, .ref a_tried, .ref a_best, .ref a_found, .int m_thereMany, .int m_foundMany, .int m_orderHow, .int m_orderRing, .int m_orderMany, .int m_hasBest, .long m_bestTop, .long m_bestBy, .ref a_weights, .ref a_shared, .int m_random, .int m_truePlace, .int m_trueWay, .int m_seconds, .int m_done, .int m_feelings, .int m_tries, .int m_leftOver, .int m_playDoor, .int m_playRing, .int m_isOpen, .int m_isOver, .int m_wasTried, .int m_hasPlayed, .ref a_feltNow, .ref a_last, .ref a_kept, .int m_hasSeconds, .int m_hasTurned, .int m_hasRound, .ref a_hasFeels, .ref a_isOn, .int m_firstAct, .long m_meanTop, .long m_meanBy, .ref a_order, .int m_rowMany, .int m_newSteps])), (a_c, .inl (cA.1 0, 1825, .inl g_c)), (a_there, .inl (cA.1 0, 10, .inl g_there))] H → va_D A [(h0, .inr (12, [.int m_status, .int m_thrown, .long m_above, .long m_under, .ref a_traySort, .ref a_trayMany, .ref a_numbers, .ref a_tape, .int m_taped, .int m_textEnd, .int m_faultKind, .int m_faultAt, .int m_bad, .int m_badAt, .int m_token, .int m_at, .int m_behind, .int m_number, .int m_letters, .long m_word, .ref a_c, .ref a_words, .int m_markMany, .ref a_there, .ref a_tried, .ref a_best, .ref a_found, .int m_thereMany, .int m_foundMany, .int m_orderHow, .int m_orderRing, .int m_orderMany, .int m_hasBest, .long m_bestTop, .long m_bestBy, .ref a_weights, .ref a_shared, .int m_random, .int m_truePlace, .int m_trueWay, .int m_seconds, .int m_done, .int m_feelings, .int m_tries, .int m_leftOver, .int m_playDoor, .int m_playRing, .int m_isOpen, .int m_isOver, .int m_wasTried, .int m_hasPlayed, .ref a_feltNow, .ref a_last, .ref a_kept, .int m_hasSeconds, .int m_hasTurned, .int m_hasRound, .ref a_hasFeels, .ref a_isOn, .int m_firstAct, .long m_meanTop, .long m_meanBy, .ref a_order, .int m_rowMany, .int m_newSteps])), (a_c, .inl (cA.1 0, 1825, .inl g_c)), (a_there, .inl (cA.1 0, 10, .inl g_there))] → va_S A s.heap H locs → lv_has ls 7 [(0, .ref h0), (1, .int pp), (2, .int q), (3, .int w), (4, .int nn), (5, .int v_350)] → W p l e ({ frames := 2, cells := 0, slots := 0, locals := 50 }) s m args below meth c H locs 0 0 Q (F0 m 3 ls []) := by
    intro n
    induction n with
    | zero =>
      intro v_350 H locs ls hmu_hlp_382 hr_v_350 hP hD hS hl
      exact absurd hmu_hlp_382 (Nat.not_lt_zero _)
    | succ n ih_383 =>
      intro v_350 H locs ls hmu_hlp_382 hr_v_350 hP hD hS hl
      refine lv_iload hx hb dX12_areSame_3 (lv_at hl 5 rfl) ?_
      refine lv_iload hx hb dX12_areSame_5 (lv_at hl 4 rfl) ?_
      refine lv_icmp_ge (tgt := 84) hx hb dX12_areSame_7 (by decide) (fun c_384 => ?_) (fun c_384 => ?_)
      · have b_385 := z_fgeT c_384
        refine lv_iconst (v := 1) hx hb dX12_areSame_84 (by decide) ?_
        have hpost : ((1 : Int32) = 0 ∧ True) ∨ ((1 : Int32) = 1 ∧ True) := (Or.inr ⟨rfl, trivial⟩)
        exact hret _ _ _ _ _ _ () [0, 1, 2] hP hD hS rfl (by decide) dX12_areSame_85 (Or.inr rfl) hpost
      · have b_386 := z_fltF c_384
        have hn_k_387 : 1 ≤ m_thereMany.toInt ∧ m_thereMany.toInt ≤ 10 := by omega
        refine lv_iload_n hx hb dX12_areSame_10 rfl (lv_at hl 3 rfl) ?_
        refine lv_if_ne (tgt := 26) hx hb dX12_areSame_11 (by decide) (fun c_388 => ?_) (fun c_388 => ?_)
        · have b_389 := z_fneT c_388
          refine lv_iload_n hx hb dX12_areSame_26 rfl (lv_at hl 2 rfl) ?_
          refine lv_iload hx hb dX12_areSame_27 (lv_at hl 5 rfl) ?_
          refine lv_isub hx hb dX12_areSame_29 ?_
          refine lv_topi (fun x_390 he_x_390 => ?_)
          have hq_x_390 := z_subq he_x_390 (rfl : q.toInt = _) (rfl : v_350.toInt = _) (by omega) (by omega)
          refine lv_aload_n hx hb dX12_areSame_30 rfl (lv_at hl 0 rfl) ?_
          refine va_get (D := G) (ci := 12) (v := .int m_thereMany) (C := RX12) (T := TX12) (N := 65) hx hb hts inT12 hown hK hP 0 rfl rfl 27 (by decide) (hts _ tw_1912) (fun _ h9 => h9) rfl dX12_areSame_31 ?_
          refine lv_iadd hx hb dX12_areSame_34 ?_
          refine lv_topi (fun x_391 he_x_391 => ?_)
          have hq_x_391 := z_addq he_x_391 (rfl : x_390.toInt = _) (rfl : m_thereMany.toInt = _) (by omega) (by omega)
          refine lv_aload_n hx hb dX12_areSame_35 rfl (lv_at hl 0 rfl) ?_
          refine va_get (D := G) (ci := 12) (v := .int m_thereMany) (C := RX12) (T := TX12) (N := 65) hx hb hts inT12 hown hK hP 0 rfl rfl 27 (by decide) (hts _ tw_1912) (fun _ h9 => h9) rfl dX12_areSame_36 ?_
          have hn_k_392 : 1 ≤ x_391.toInt ∧ x_391.toInt ≤ 19 := by omega
          refine lv_irem hx hb dX12_areSame_39 (z_nz (by omega)) ?_
          refine lv_topi (fun x_393 he_x_393 => ?_)
          have hr_x_393 := z_remr he_x_393 (by omega) (by omega)
          refine lv_istore (lv' := [(6, .int x_393), (0, .ref h0), (1, .int pp), (2, .int q), (3, .int w), (4, .int nn), (5, .int v_350)]) hx hb dX12_areSame_40 hl (by decide) rfl (fun ls hl => ?_)
          refine lv_aload_n hx hb dX12_areSame_42 rfl (lv_at hl 1 rfl) ?_
          refine lv_aload_n hx hb dX12_areSame_43 rfl (lv_at hl 1 rfl) ?_
          refine va_get (D := G) (ci := 12) (v := .ref a_there) (C := RX12) (T := TX12) (N := 65) hx hb hts inT12 hown hK hP 0 rfl rfl 23 (by decide) (hts _ tw_1908) (fun _ h9 => h9) rfl dX12_areSame_44 ?_
          refine lv_iload_n hx hb dX12_areSame_47 rfl (lv_at hl 2 rfl) ?_
          refine lv_iload hx hb dX12_areSame_48 (lv_at hl 6 rfl) ?_
          refine lv_iadd hx hb dX12_areSame_50 ?_
          refine lv_topi (fun x_394 he_x_394 => ?_)
          have hq_x_394 := z_addq he_x_394 (rfl : pp.toInt = _) (rfl : v_350.toInt = _) (by omega) (by omega)
          refine lv_aload_n hx hb dX12_areSame_51 rfl (lv_at hl 1 rfl) ?_
          refine va_get (D := G) (ci := 12) (v := .int m_thereMany) (C := RX12) (T := TX12) (N := 65) hx hb hts inT12 hown hK hP 0 rfl rfl 27 (by decide) (hts _ tw_1912) (fun _ h9 => h9) rfl dX12_areSame_52 ?_
          refine lv_irem hx hb dX12_areSame_55 (z_nz (by omega)) ?_
          refine lv_topi (fun x_395 he_x_395 => ?_)
          have hr_x_395 := z_remr he_x_395 (by omega) (by omega)
          refine va_iald hx hb hK hP 2 0 rfl rfl (z_inN (by omega) (by omega)) dX12_areSame_56 ?_
          refine lv_topi (fun x_396 he_x_396 => ?_)
          have hr_x_396 := z_rg hC_g_there he_x_396 (by omega) (by omega)
          refine lv_iconst (v := 0) hx hb dX12_areSame_57 (by decide) ?_
          refine lv_aload_n hx hb dX12_areSame_58 rfl (lv_at hl 1 rfl) ?_
          refine va_get (D := G) (ci := 12) (v := .ref a_there) (C := RX12) (T := TX12) (N := 65) hx hb hts inT12 hown hK hP 0 rfl rfl 23 (by decide) (hts _ tw_1908) (fun _ h9 => h9) rfl dX12_areSame_59 ?_
          refine lv_iload hx hb dX12_areSame_62 (lv_at hl 0 rfl) ?_
          refine va_iald hx hb hK hP 2 0 rfl rfl (z_inN (by omega) (by omega)) dX12_areSame_64 ?_
          refine lv_topi (fun x_397 he_x_397 => ?_)
          have hr_x_397 := z_rg hC_g_there he_x_397 (by omega) (by omega)
          refine lv_iload_n hx hb dX12_areSame_65 rfl (lv_at hl 4 rfl) ?_
          refine lv_aload_n hx hb dX12_areSame_66 rfl (lv_at hl 1 rfl) ?_
          refine z_callVi (As := []) (rest := [.int w, .int x_397, .int 0, .int x_396, .ref h0]) (wr := [(a_there, .inl (cA.1 0, 10, .inl g_there))]) ⟨hx, hb, hml, hown, hts⟩ hK hE hT hP hD hS hA (r_all l G cA h0 m_status m_thrown m_above m_under a_traySort a_trayMany a_numbers a_tape m_taped m_textEnd m_faultKind m_faultAt m_bad m_badAt m_token m_at m_behind m_number m_letters m_word a_c a_words m_markMany a_there a_tried a_best a_found m_thereMany m_foundMany m_orderHow m_orderRing m_orderMany m_hasBest m_bestTop m_bestBy a_weights a_shared m_random m_truePlace m_trueWay m_seconds m_done m_feelings m_tries m_leftOver m_playDoor m_playRing m_isOpen m_isOver m_wasTried m_hasPlayed a_feltNow a_last a_kept m_hasSeconds m_hasTurned m_hasRound a_hasFeels a_isOn m_firstAct m_meanTop m_meanBy a_order m_rowMany m_newSteps g_c hC_g_c) lk_RX12_457 ⟨rfl, rfl⟩ ⟨Nat.le_of_ble_eq_true rfl, Nat.le_of_ble_eq_true rfl⟩ 12 rfl rfl rfl [0, 1] [2] rfl rfl (by decide) rfl hl.1 rfl (lv_room (Nat.le_of_ble_eq_true rfl)) dX12_areSame_67 ⟨Nat.le_of_ble_eq_true rfl, Nat.le_of_ble_eq_true rfl⟩ (fun r_398 u_399 H locs hw hP hD hS => ?_)
          obtain ⟨he_r_398, hw⟩ := hw
          have hr_r_398 := hw
          refine z_callVi (As := [.int x_396, .int 0, .int x_397, .int w, .int r_398]) (rest := []) (wr := [(a_there, .inl (cA.1 0, 10, .inl g_there))]) ⟨hx, hb, hml, hown, hts⟩ hK hE hT hP hD hS hA (r_differ l G cA h0 m_status m_thrown m_above m_under a_traySort a_trayMany a_numbers a_tape m_taped m_textEnd m_faultKind m_faultAt m_bad m_badAt m_token m_at m_behind m_number m_letters m_word a_c a_words m_markMany a_there a_tried a_best a_found m_thereMany m_foundMany m_orderHow m_orderRing m_orderMany m_hasBest m_bestTop m_bestBy a_weights a_shared m_random m_truePlace m_trueWay m_seconds m_done m_feelings m_tries m_leftOver m_playDoor m_playRing m_isOpen m_isOver m_wasTried m_hasPlayed a_feltNow a_last a_kept m_hasSeconds m_hasTurned m_hasRound a_hasFeels a_isOn m_firstAct m_meanTop m_meanBy a_order m_rowMany m_newSteps g_c x_396 0 x_397 w r_398 hr_x_396 (by decide +kernel) hr_x_397 hr_w hC_g_c) lk_RX12_453 ⟨rfl, rfl⟩ ⟨Nat.le_of_ble_eq_true rfl, Nat.le_of_ble_eq_true rfl⟩ 12 rfl rfl rfl [1, 2] [0] rfl rfl (by decide) rfl hl.1 rfl (lv_room (Nat.le_of_ble_eq_true rfl)) dX12_areSame_70 ⟨Nat.le_of_ble_eq_true rfl, Nat.le_of_ble_eq_true rfl⟩ (fun r_400 u_401 H locs hw hP hD hS => ?_)
          obtain ⟨he_r_400, hw⟩ := hw
          rcases hw with ⟨rfl, -⟩ | ⟨rfl, -⟩
          · skip
            refine lv_if_eq (tgt := 78) hx hb dX12_areSame_73 (by decide) (fun _ => ?_) (fun h9 => absurd (by decide +kernel) h9)
            obtain ⟨x_402, he_x_402⟩ : ∃ z : Int32, z = v_350 + 1 := ⟨_, rfl⟩
            have hq_x_402 := z_addq he_x_402 (rfl : v_350.toInt = _) hk_1 (by omega) (by omega)
            refine lv_iinc (v := x_402) (lv' := [(5, .int x_402), (6, .int x_393), (0, .ref h0), (1, .int pp), (2, .int q), (3, .int w), (4, .int nn)]) hx hb dX12_areSame_78 hl (k := 6) rfl ((z_ofi (by decide +kernel)).trans he_x_402.symm) (by decide) rfl (fun ls hl => ?_)
            refine lv_goto (tgt := 3) hx hb dX12_areSame_81 (by decide) ?_
            have hP := hP.sub (ws' := [(h0, .inr (12, [.int m_status, .int m_thrown, .long m_above, .long m_under, .ref a_traySort, .ref a_trayMany, .ref a_numbers, .ref a_tape, .int m_taped, .int m_textEnd, .int m_faultKind, .int m_faultAt, .int m_bad, .int m_badAt, .int m_token, .int m_at, .int m_behind, .int m_number, .int m_letters, .long m_word, .ref a_c, .ref a_words, .int m_markMany, .ref a_there, .ref a_tried, .ref a_best, .ref a_found, .int m_thereMany, .int m_foundMany, .int m_orderHow, .int m_orderRing, .int m_orderMany, .int m_hasBest, .long m_bestTop, .long m_bestBy, .ref a_weights, .ref a_shared, .int m_random, .int m_truePlace, .int m_trueWay, .int m_seconds, .int m_done, .int m_feelings, .int m_tries, .int m_leftOver, .int m_playDoor, .int m_playRing, .int m_isOpen, .int m_isOver, .int m_wasTried, .int m_hasPlayed, .ref a_feltNow, .ref a_last, .ref a_kept, .int m_hasSeconds, .int m_hasTurned, .int m_hasRound, .ref a_hasFeels, .ref a_isOn, .int m_firstAct, .long m_meanTop, .long m_meanBy, .ref a_order, .int m_rowMany, .int m_newSteps])), (a_c, .inl (cA.1 0, 1825, .inl g_c)), (a_there, .inl (cA.1 0, 10, .inl g_there))]) [1, 2, 0] rfl
            have hD := hD.sub (ws' := [(h0, .inr (12, [.int m_status, .int m_thrown, .long m_above, .long m_under, .ref a_traySort, .ref a_trayMany, .ref a_numbers, .ref a_tape, .int m_taped, .int m_textEnd, .int m_faultKind, .int m_faultAt, .int m_bad, .int m_badAt, .int m_token, .int m_at, .int m_behind, .int m_number, .int m_letters, .long m_word, .ref a_c, .ref a_words, .int m_markMany, .ref a_there, .ref a_tried, .ref a_best, .ref a_found, .int m_thereMany, .int m_foundMany, .int m_orderHow, .int m_orderRing, .int m_orderMany, .int m_hasBest, .long m_bestTop, .long m_bestBy, .ref a_weights, .ref a_shared, .int m_random, .int m_truePlace, .int m_trueWay, .int m_seconds, .int m_done, .int m_feelings, .int m_tries, .int m_leftOver, .int m_playDoor, .int m_playRing, .int m_isOpen, .int m_isOver, .int m_wasTried, .int m_hasPlayed, .ref a_feltNow, .ref a_last, .ref a_kept, .int m_hasSeconds, .int m_hasTurned, .int m_hasRound, .ref a_hasFeels, .ref a_isOn, .int m_firstAct, .long m_meanTop, .long m_meanBy, .ref a_order, .int m_rowMany, .int m_newSteps])), (a_c, .inl (cA.1 0, 1825, .inl g_c)), (a_there, .inl (cA.1 0, 10, .inl g_there))]) [1, 2, 0] (by decide) rfl
            exact ih_383 x_402 H locs ls (by omega) (by omega) hP hD hS (lv_sub hl [2, 3, 4, 5, 6, 0] rfl)
          · skip
            refine lv_if_eq (tgt := 78) hx hb dX12_areSame_73 (by decide) (fun h9 => absurd h9 (by decide +kernel)) (fun _ => ?_)
            refine lv_iconst (v := 0) hx hb dX12_areSame_76 (by decide) ?_
            have hpost : ((0 : Int32) = 0 ∧ True) ∨ ((0 : Int32) = 1 ∧ True) := (Or.inl ⟨rfl, trivial⟩)
            exact hret _ _ _ _ _ _ () [1, 2, 0] hP hD hS rfl (by decide) dX12_areSame_77 (Or.inl rfl) hpost
        · have b_403 := z_feqF c_388
          refine lv_iload_n hx hb dX12_areSame_14 rfl (lv_at hl 2 rfl) ?_
          refine lv_iload hx hb dX12_areSame_15 (lv_at hl 5 rfl) ?_
          refine lv_iadd hx hb dX12_areSame_17 ?_
          refine lv_topi (fun x_404 he_x_404 => ?_)
          have hq_x_404 := z_addq he_x_404 (rfl : q.toInt = _) (rfl : v_350.toInt = _) (by omega) (by omega)
          refine lv_aload_n hx hb dX12_areSame_18 rfl (lv_at hl 0 rfl) ?_
          refine va_get (D := G) (ci := 12) (v := .int m_thereMany) (C := RX12) (T := TX12) (N := 65) hx hb hts inT12 hown hK hP 0 rfl rfl 27 (by decide) (hts _ tw_1912) (fun _ h9 => h9) rfl dX12_areSame_19 ?_
          refine lv_irem hx hb dX12_areSame_22 (z_nz (by omega)) ?_
          refine lv_topi (fun x_405 he_x_405 => ?_)
          have hr_x_405 := z_remr he_x_405 (by omega) (by omega)
          refine lv_goto (tgt := 40) hx hb dX12_areSame_23 (by decide) ?_
          refine lv_istore (lv' := [(6, .int x_405), (0, .ref h0), (1, .int pp), (2, .int q), (3, .int w), (4, .int nn), (5, .int v_350)]) hx hb dX12_areSame_40 hl (by decide) rfl (fun ls hl => ?_)
          refine lv_aload_n hx hb dX12_areSame_42 rfl (lv_at hl 1 rfl) ?_
          refine lv_aload_n hx hb dX12_areSame_43 rfl (lv_at hl 1 rfl) ?_
          refine va_get (D := G) (ci := 12) (v := .ref a_there) (C := RX12) (T := TX12) (N := 65) hx hb hts inT12 hown hK hP 0 rfl rfl 23 (by decide) (hts _ tw_1908) (fun _ h9 => h9) rfl dX12_areSame_44 ?_
          refine lv_iload_n hx hb dX12_areSame_47 rfl (lv_at hl 2 rfl) ?_
          refine lv_iload hx hb dX12_areSame_48 (lv_at hl 6 rfl) ?_
          refine lv_iadd hx hb dX12_areSame_50 ?_
          refine lv_topi (fun x_406 he_x_406 => ?_)
          have hq_x_406 := z_addq he_x_406 (rfl : pp.toInt = _) (rfl : v_350.toInt = _) (by omega) (by omega)
          refine lv_aload_n hx hb dX12_areSame_51 rfl (lv_at hl 1 rfl) ?_
          refine va_get (D := G) (ci := 12) (v := .int m_thereMany) (C := RX12) (T := TX12) (N := 65) hx hb hts inT12 hown hK hP 0 rfl rfl 27 (by decide) (hts _ tw_1912) (fun _ h9 => h9) rfl dX12_areSame_52 ?_
          refine lv_irem hx hb dX12_areSame_55 (z_nz (by omega)) ?_
          refine lv_topi (fun x_407 he_x_407 => ?_)
          have hr_x_407 := z_remr he_x_407 (by omega) (by omega)
          refine va_iald hx hb hK hP 2 0 rfl rfl (z_inN (by omega) (by omega)) dX12_areSame_56 ?_
          refine lv_topi (fun x_408 he_x_408 => ?_)
          have hr_x_408 := z_rg hC_g_there he_x_408 (by omega) (by omega)
          refine lv_iconst (v := 0) hx hb dX12_areSame_57 (by decide) ?_
          refine lv_aload_n hx hb dX12_areSame_58 rfl (lv_at hl 1 rfl) ?_
          refine va_get (D := G) (ci := 12) (v := .ref a_there) (C := RX12) (T := TX12) (N := 65) hx hb hts inT12 hown hK hP 0 rfl rfl 23 (by decide) (hts _ tw_1908) (fun _ h9 => h9) rfl dX12_areSame_59 ?_
          refine lv_iload hx hb dX12_areSame_62 (lv_at hl 0 rfl) ?_
          refine va_iald hx hb hK hP 2 0 rfl rfl (z_inN (by omega) (by omega)) dX12_areSame_64 ?_
          refine lv_topi (fun x_409 he_x_409 => ?_)
          have hr_x_409 := z_rg hC_g_there he_x_409 (by omega) (by omega)
          refine lv_iload_n hx hb dX12_areSame_65 rfl (lv_at hl 4 rfl) ?_
          refine lv_aload_n hx hb dX12_areSame_66 rfl (lv_at hl 1 rfl) ?_
          refine z_callVi (As := []) (rest := [.int w, .int x_409, .int 0, .int x_408, .ref h0]) (wr := [(a_there, .inl (cA.1 0, 10, .inl g_there))]) ⟨hx, hb, hml, hown, hts⟩ hK hE hT hP hD hS hA (r_all l G cA h0 m_status m_thrown m_above m_under a_traySort a_trayMany a_numbers a_tape m_taped m_textEnd m_faultKind m_faultAt m_bad m_badAt m_token m_at m_behind m_number m_letters m_word a_c a_words m_markMany a_there a_tried a_best a_found m_thereMany m_foundMany m_orderHow m_orderRing m_orderMany m_hasBest m_bestTop m_bestBy a_weights a_shared m_random m_truePlace m_trueWay m_seconds m_done m_feelings m_tries m_leftOver m_playDoor m_playRing m_isOpen m_isOver m_wasTried m_hasPlayed a_feltNow a_last a_kept m_hasSeconds m_hasTurned m_hasRound a_hasFeels a_isOn m_firstAct m_meanTop m_meanBy a_order m_rowMany m_newSteps g_c hC_g_c) lk_RX12_457 ⟨rfl, rfl⟩ ⟨Nat.le_of_ble_eq_true rfl, Nat.le_of_ble_eq_true rfl⟩ 12 rfl rfl rfl [0, 1] [2] rfl rfl (by decide) rfl hl.1 rfl (lv_room (Nat.le_of_ble_eq_true rfl)) dX12_areSame_67 ⟨Nat.le_of_ble_eq_true rfl, Nat.le_of_ble_eq_true rfl⟩ (fun r_410 u_411 H locs hw hP hD hS => ?_)
          obtain ⟨he_r_410, hw⟩ := hw
          have hr_r_410 := hw
          refine z_callVi (As := [.int x_408, .int 0, .int x_409, .int w, .int r_410]) (rest := []) (wr := [(a_there, .inl (cA.1 0, 10, .inl g_there))]) ⟨hx, hb, hml, hown, hts⟩ hK hE hT hP hD hS hA (r_differ l G cA h0 m_status m_thrown m_above m_under a_traySort a_trayMany a_numbers a_tape m_taped m_textEnd m_faultKind m_faultAt m_bad m_badAt m_token m_at m_behind m_number m_letters m_word a_c a_words m_markMany a_there a_tried a_best a_found m_thereMany m_foundMany m_orderHow m_orderRing m_orderMany m_hasBest m_bestTop m_bestBy a_weights a_shared m_random m_truePlace m_trueWay m_seconds m_done m_feelings m_tries m_leftOver m_playDoor m_playRing m_isOpen m_isOver m_wasTried m_hasPlayed a_feltNow a_last a_kept m_hasSeconds m_hasTurned m_hasRound a_hasFeels a_isOn m_firstAct m_meanTop m_meanBy a_order m_rowMany m_newSteps g_c x_408 0 x_409 w r_410 hr_x_408 (by decide +kernel) hr_x_409 hr_w hC_g_c) lk_RX12_453 ⟨rfl, rfl⟩ ⟨Nat.le_of_ble_eq_true rfl, Nat.le_of_ble_eq_true rfl⟩ 12 rfl rfl rfl [1, 2] [0] rfl rfl (by decide) rfl hl.1 rfl (lv_room (Nat.le_of_ble_eq_true rfl)) dX12_areSame_70 ⟨Nat.le_of_ble_eq_true rfl, Nat.le_of_ble_eq_true rfl⟩ (fun r_412 u_413 H locs hw hP hD hS => ?_)
          obtain ⟨he_r_412, hw⟩ := hw
          rcases hw with ⟨rfl, -⟩ | ⟨rfl, -⟩
          · skip
            refine lv_if_eq (tgt := 78) hx hb dX12_areSame_73 (by decide) (fun _ => ?_) (fun h9 => absurd (by decide +kernel) h9)
            obtain ⟨x_414, he_x_414⟩ : ∃ z : Int32, z = v_350 + 1 := ⟨_, rfl⟩
            have hq_x_414 := z_addq he_x_414 (rfl : v_350.toInt = _) hk_1 (by omega) (by omega)
            refine lv_iinc (v := x_414) (lv' := [(5, .int x_414), (6, .int x_405), (0, .ref h0), (1, .int pp), (2, .int q), (3, .int w), (4, .int nn)]) hx hb dX12_areSame_78 hl (k := 6) rfl ((z_ofi (by decide +kernel)).trans he_x_414.symm) (by decide) rfl (fun ls hl => ?_)
            refine lv_goto (tgt := 3) hx hb dX12_areSame_81 (by decide) ?_
            have hP := hP.sub (ws' := [(h0, .inr (12, [.int m_status, .int m_thrown, .long m_above, .long m_under, .ref a_traySort, .ref a_trayMany, .ref a_numbers, .ref a_tape, .int m_taped, .int m_textEnd, .int m_faultKind, .int m_faultAt, .int m_bad, .int m_badAt, .int m_token, .int m_at, .int m_behind, .int m_number, .int m_letters, .long m_word, .ref a_c, .ref a_words, .int m_markMany, .ref a_there, .ref a_tried, .ref a_best, .ref a_found, .int m_thereMany, .int m_foundMany, .int m_orderHow, .int m_orderRing, .int m_orderMany, .int m_hasBest, .long m_bestTop, .long m_bestBy, .ref a_weights, .ref a_shared, .int m_random, .int m_truePlace, .int m_trueWay, .int m_seconds, .int m_done, .int m_feelings, .int m_tries, .int m_leftOver, .int m_playDoor, .int m_playRing, .int m_isOpen, .int m_isOver, .int m_wasTried, .int m_hasPlayed, .ref a_feltNow, .ref a_last, .ref a_kept, .int m_hasSeconds, .int m_hasTurned, .int m_hasRound, .ref a_hasFeels, .ref a_isOn, .int m_firstAct, .long m_meanTop, .long m_meanBy, .ref a_order, .int m_rowMany, .int m_newSteps])), (a_c, .inl (cA.1 0, 1825, .inl g_c)), (a_there, .inl (cA.1 0, 10, .inl g_there))]) [1, 2, 0] rfl
            have hD := hD.sub (ws' := [(h0, .inr (12, [.int m_status, .int m_thrown, .long m_above, .long m_under, .ref a_traySort, .ref a_trayMany, .ref a_numbers, .ref a_tape, .int m_taped, .int m_textEnd, .int m_faultKind, .int m_faultAt, .int m_bad, .int m_badAt, .int m_token, .int m_at, .int m_behind, .int m_number, .int m_letters, .long m_word, .ref a_c, .ref a_words, .int m_markMany, .ref a_there, .ref a_tried, .ref a_best, .ref a_found, .int m_thereMany, .int m_foundMany, .int m_orderHow, .int m_orderRing, .int m_orderMany, .int m_hasBest, .long m_bestTop, .long m_bestBy, .ref a_weights, .ref a_shared, .int m_random, .int m_truePlace, .int m_trueWay, .int m_seconds, .int m_done, .int m_feelings, .int m_tries, .int m_leftOver, .int m_playDoor, .int m_playRing, .int m_isOpen, .int m_isOver, .int m_wasTried, .int m_hasPlayed, .ref a_feltNow, .ref a_last, .ref a_kept, .int m_hasSeconds, .int m_hasTurned, .int m_hasRound, .ref a_hasFeels, .ref a_isOn, .int m_firstAct, .long m_meanTop, .long m_meanBy, .ref a_order, .int m_rowMany, .int m_newSteps])), (a_c, .inl (cA.1 0, 1825, .inl g_c)), (a_there, .inl (cA.1 0, 10, .inl g_there))]) [1, 2, 0] (by decide) rfl
            exact ih_383 x_414 H locs ls (by omega) (by omega) hP hD hS (lv_sub hl [2, 3, 4, 5, 6, 0] rfl)
          · skip
            refine lv_if_eq (tgt := 78) hx hb dX12_areSame_73 (by decide) (fun h9 => absurd h9 (by decide +kernel)) (fun _ => ?_)
            refine lv_iconst (v := 0) hx hb dX12_areSame_76 (by decide) ?_
            have hpost : ((0 : Int32) = 0 ∧ True) ∨ ((0 : Int32) = 1 ∧ True) := (Or.inl ⟨rfl, trivial⟩)
            exact hret _ _ _ _ _ _ () [1, 2, 0] hP hD hS rfl (by decide) dX12_areSame_77 (Or.inl rfl) hpost
  exact hlp_382 _ 0 _ _ _ (Nat.lt_succ_self _) (by decide +kernel) hP hD hS (lv_sub hl [1, 2, 3, 4, 5, 0] rfl)
