set_option maxHeartbeats 40000000 in
set_option maxRecDepth 100000 in
theorem r_laid (l : Launch) (G : va_G) (cA : zCA) (h0 : Nat) (m_status : Int32) (m_thrown : Int32) (m_above : Int64) (m_under : Int64) (a_traySort : Nat) (a_trayMany : Nat) (a_numbers : Nat) (a_tape : Nat) (m_taped : Int32) (m_textEnd : Int32) (m_faultKind : Int32) (m_faultAt : Int32) (m_bad : Int32) (m_badAt : Int32) (m_token : Int32) (m_at : Int32) (m_behind : Int32) (m_number : Int32) (m_letters : Int32) (m_word : Int64) (a_c : Nat) (a_words : Nat) (m_markMany : Int32) (a_there : Nat) (a_tried : Nat) (a_best : Nat) (a_found : Nat) (m_thereMany : Int32) (m_foundMany : Int32) (m_orderHow : Int32) (m_orderRing : Int32) (m_orderMany : Int32) (m_hasBest : Int32) (m_bestTop : Int64) (m_bestBy : Int64) (a_weights : Nat) (a_shared : Nat) (m_random : Int32) (m_truePlace : Int32) (m_trueWay : Int32) (m_seconds : Int32) (m_done : Int32) (m_feelings : Int32) (m_tries : Int32) (m_leftOver : Int32) (m_playDoor : Int32) (m_playRing : Int32) (m_isOpen : Int32) (m_isOver : Int32) (m_wasTried : Int32) (m_hasPlayed : Int32) (a_feltNow : Nat) (a_last : Nat) (a_kept : Nat) (m_hasSeconds : Int32) (m_hasTurned : Int32) (m_hasRound : Int32) (a_hasFeels : Nat) (a_isOn : Nat) (m_firstAct : Int32) (m_meanTop : Int64) (m_meanBy : Int64) (a_order : Nat) (m_rowMany : Int32) (m_newSteps : Int32) (g_c : Nat → Int32) (g_there : Nat → Int32) (g_tried : Nat → Int32) (g_best : Nat → Int32) (g_found : Nat → Int32) (g_order : Nat → Int32) (r : Int32) (o : Int32) (hr_o : 0 ≤ o.toInt ∧ o.toInt ≤ 1) (hz_o : o = 0 ∨ o = 1) (hr_m_thereMany : 0 ≤ m_thereMany.toInt ∧ m_thereMany.toInt ≤ 10) (hr_m_foundMany : 0 ≤ m_foundMany.toInt ∧ m_foundMany.toInt ≤ 10) (hr_m_orderMany : 0 ≤ m_orderMany.toInt ∧ m_orderMany.toInt ≤ 10) (hr_m_orderHow : 0 ≤ m_orderHow.toInt ∧ m_orderHow.toInt ≤ 2) (hr_m_hasBest : 0 ≤ m_hasBest.toInt ∧ m_hasBest.toInt ≤ 1) (hz_m_hasBest : m_hasBest = 0 ∨ m_hasBest = 1) (hC_g_c : zC g_c) (hC_g_there : zRg 10 0 9 g_there) (hC_g_tried : zRg 10 0 9 g_tried) (hC_g_best : zRg 10 0 9 g_best) (hC_g_found : zRg 10 0 9 g_found) (hC_g_order : zRg 10 0 9 g_order) : zCi l yX12_laid cX12_laid 3 (some .int) ({ frames := 13, cells := 0, slots := 0, locals := 294 }) G cA [.ref h0, .int r, .int o] [(h0, .inr (12, [.int m_status, .int m_thrown, .long m_above, .long m_under, .ref a_traySort, .ref a_trayMany, .ref a_numbers, .ref a_tape, .int m_taped, .int m_textEnd, .int m_faultKind, .int m_faultAt, .int m_bad, .int m_badAt, .int m_token, .int m_at, .int m_behind, .int m_number, .int m_letters, .long m_word, .ref a_c, .ref a_words, .int m_markMany, .ref a_there, .ref a_tried, .ref a_best, .ref a_found, .int m_thereMany, .int m_foundMany, .int m_orderHow, .int m_orderRing, .int m_orderMany, .int m_hasBest, .long m_bestTop, .long m_bestBy, .ref a_weights, .ref a_shared, .int m_random, .int m_truePlace, .int m_trueWay, .int m_seconds, .int m_done, .int m_feelings, .int m_tries, .int m_leftOver, .int m_playDoor, .int m_playRing, .int m_isOpen, .int m_isOver, .int m_wasTried, .int m_hasPlayed, .ref a_feltNow, .ref a_last, .ref a_kept, .int m_hasSeconds, .int m_hasTurned, .int m_hasRound, .ref a_hasFeels, .ref a_isOn, .int m_firstAct, .long m_meanTop, .long m_meanBy, .ref a_order, .int m_rowMany, .int m_newSteps])), (a_c, .inl (cA.1 0, 1825, .inl g_c)), (a_there, .inl (cA.1 0, 10, .inl g_there)), (a_tried, .inl (cA.1 0, 10, .inl g_tried)), (a_best, .inl (cA.1 0, 10, .inl g_best)), (a_found, .inl (cA.1 0, 10, .inl g_found)), (a_order, .inl (cA.1 0, 10, .inl g_order))] (S := Int32 × Int32 × Int32 × (Nat → Int32) × Int64 × Int64 × Int32 × Int32 × Int32 × Int32 × Int64 × Int64 × Int64 × Int64 × (Nat → Int32) × (Nat → Int32) × (Nat → Int32) × (Nat → Int32)) (fun (r_0 : Int32) (u : Int32 × Int32 × Int32 × (Nat → Int32) × Int64 × Int64 × Int32 × Int32 × Int32 × Int32 × Int64 × Int64 × Int64 × Int64 × (Nat → Int32) × (Nat → Int32) × (Nat → Int32) × (Nat → Int32)) => (r_0 = (F_r_laid m_bestTop m_bestBy g_c g_there g_tried g_best g_found g_order r o)) ∧ (((-1) ≤ r_0.toInt ∧ r_0.toInt ≤ 9) ∧ (0 ≤ u.2.1.toInt ∧ u.2.1.toInt ≤ 0) ∧ (0 ≤ u.2.2.1.toInt ∧ u.2.2.1.toInt ≤ 10) ∧ (zRg 10 0 9 u.2.2.2.1) ∧ (0 ≤ u.2.2.2.2.2.2.1.toInt ∧ u.2.2.2.2.2.2.1.toInt ≤ 10) ∧ (0 ≤ u.2.2.2.2.2.2.2.1.toInt ∧ u.2.2.2.2.2.2.2.1.toInt ≤ 2) ∧ (0 ≤ u.2.2.2.2.2.2.2.2.1.toInt ∧ u.2.2.2.2.2.2.2.2.1.toInt ≤ 10) ∧ (u.2.2.2.2.2.2.2.2.2.1 = 0 ∨ u.2.2.2.2.2.2.2.2.2.1 = 1) ∧ (0 ≤ u.2.2.2.2.2.2.2.2.2.1.toInt ∧ u.2.2.2.2.2.2.2.2.2.1.toInt ≤ 1) ∧ (zRg 10 0 9 u.2.2.2.2.2.2.2.2.2.2.2.2.2.2.1) ∧ (zRg 10 0 9 u.2.2.2.2.2.2.2.2.2.2.2.2.2.2.2.1) ∧ (zRg 10 0 9 u.2.2.2.2.2.2.2.2.2.2.2.2.2.2.2.2.1) ∧ (zRg 10 0 9 u.2.2.2.2.2.2.2.2.2.2.2.2.2.2.2.2.2))) (fun (u : Int32 × Int32 × Int32 × (Nat → Int32) × Int64 × Int64 × Int32 × Int32 × Int32 × Int32 × Int64 × Int64 × Int64 × Int64 × (Nat → Int32) × (Nat → Int32) × (Nat → Int32) × (Nat → Int32)) => [(h0, .inr (12, [.int u.1, .int u.2.1, .long u.2.2.2.2.1, .long u.2.2.2.2.2.1, .ref a_traySort, .ref a_trayMany, .ref a_numbers, .ref a_tape, .int m_taped, .int m_textEnd, .int m_faultKind, .int m_faultAt, .int m_bad, .int m_badAt, .int m_token, .int m_at, .int m_behind, .int m_number, .int m_letters, .long m_word, .ref a_c, .ref a_words, .int m_markMany, .ref a_there, .ref a_tried, .ref a_best, .ref a_found, .int u.2.2.1, .int u.2.2.2.2.2.2.1, .int u.2.2.2.2.2.2.2.1, .int m_orderRing, .int u.2.2.2.2.2.2.2.2.1, .int u.2.2.2.2.2.2.2.2.2.1, .long u.2.2.2.2.2.2.2.2.2.2.1, .long u.2.2.2.2.2.2.2.2.2.2.2.1, .ref a_weights, .ref a_shared, .int m_random, .int m_truePlace, .int m_trueWay, .int m_seconds, .int m_done, .int m_feelings, .int m_tries, .int m_leftOver, .int m_playDoor, .int m_playRing, .int m_isOpen, .int m_isOver, .int m_wasTried, .int m_hasPlayed, .ref a_feltNow, .ref a_last, .ref a_kept, .int m_hasSeconds, .int m_hasTurned, .int m_hasRound, .ref a_hasFeels, .ref a_isOn, .int m_firstAct, .long u.2.2.2.2.2.2.2.2.2.2.2.2.1, .long u.2.2.2.2.2.2.2.2.2.2.2.2.2.1, .ref a_order, .int m_rowMany, .int m_newSteps])), (a_c, .inl (cA.1 0, 1825, .inl g_c)), (a_there, .inl (cA.1 0, 10, .inl u.2.2.2.1)), (a_tried, .inl (cA.1 0, 10, .inl u.2.2.2.2.2.2.2.2.2.2.2.2.2.2.1)), (a_best, .inl (cA.1 0, 10, .inl u.2.2.2.2.2.2.2.2.2.2.2.2.2.2.2.1)), (a_found, .inl (cA.1 0, 10, .inl u.2.2.2.2.2.2.2.2.2.2.2.2.2.2.2.2.1)), (a_order, .inl (cA.1 0, 10, .inl u.2.2.2.2.2.2.2.2.2.2.2.2.2.2.2.2.2))]) 0 0 := by
  have hk_0 : (0 : Int32).toInt = 0 := by decide +kernel
  have hk_1 : (1 : Int32).toInt = 1 := by decide +kernel
  have hk_2 : (2 : Int32).toInt = 2 := by decide +kernel
  have hk_6 : (6 : Int32).toInt = 6 := by decide +kernel
  have hk_7 : (7 : Int32).toInt = 7 := by decide +kernel
  have hk_8 : (8 : Int32).toInt = 8 := by decide +kernel
  have hkl_0 : (0 : Int64).toInt = 0 := by decide +kernel
  refine z_start2i (own := RX12) (by decide) (Nat.le_of_ble_eq_true rfl) rfl ?_
  intro p e s m args below meth c A ls Q hx hb hml hts hown hK hE hT hP hD hS hA hl hret
  have hl : lv_has ls 3 [(0, .ref h0), (1, .int r), (2, .int o)] := hl
  refine lv_aload_n hx hb dX12_laid_0 rfl (lv_at hl 0 rfl) ?_
  refine lv_iconst (v := 0) hx hb dX12_laid_1 (by decide) ?_
  refine va_put (D := G) (ci := 12) (v := .int 0) (ty := .int) (C := RX12) (T := TX12) (N := 65) hx hb hts inT12 tyX12 tyX12_ok nmX12 hown hK hP hD hS 0 rfl rfl 1 (by decide) (hts _ tw_1886) (fun _ h9 => h9) rfl (tyX12_ok 1 (by decide)) rfl rfl (Nat.le_of_ble_eq_true rfl) dX12_laid_2 (fun H locs hP hD hS => ?_)
  refine lv_aload_n hx hb dX12_laid_5 rfl (lv_at hl 0 rfl) ?_
  refine lv_iconst (v := 0) hx hb dX12_laid_6 (by decide) ?_
  refine va_put (D := G) (ci := 12) (v := .int 0) (ty := .int) (C := RX12) (T := TX12) (N := 65) hx hb hts inT12 tyX12 tyX12_ok nmX12 hown hK hP hD hS 0 rfl rfl 0 (by decide) (hts _ tw_1885) (fun _ h9 => h9) rfl (tyX12_ok 0 (by decide)) rfl rfl (Nat.le_of_ble_eq_true rfl) dX12_laid_7 (fun H locs hP hD hS => ?_)
  refine lv_aload_n hx hb dX12_laid_10 rfl (lv_at hl 0 rfl) ?_
  refine lv_iload_n hx hb dX12_laid_11 rfl (lv_at hl 1 rfl) ?_
  refine z_callVi (As := [.int r]) (rest := []) (wr := [(a_there, .inl (cA.1 0, 10, .inl g_there)), (a_tried, .inl (cA.1 0, 10, .inl g_tried)), (a_best, .inl (cA.1 0, 10, .inl g_best)), (a_found, .inl (cA.1 0, 10, .inl g_found)), (a_order, .inl (cA.1 0, 10, .inl g_order))]) ⟨hx, hb, hml, hown, hts⟩ hK hE hT hP hD hS hA (r_isRing l G cA h0 0 0 m_above m_under a_traySort a_trayMany a_numbers a_tape m_taped m_textEnd m_faultKind m_faultAt m_bad m_badAt m_token m_at m_behind m_number m_letters m_word a_c a_words m_markMany a_there a_tried a_best a_found m_thereMany m_foundMany m_orderHow m_orderRing m_orderMany m_hasBest m_bestTop m_bestBy a_weights a_shared m_random m_truePlace m_trueWay m_seconds m_done m_feelings m_tries m_leftOver m_playDoor m_playRing m_isOpen m_isOver m_wasTried m_hasPlayed a_feltNow a_last a_kept m_hasSeconds m_hasTurned m_hasRound a_hasFeels a_isOn m_firstAct m_meanTop m_meanBy a_order m_rowMany m_newSteps g_c r hC_g_c) lk_RX12_289 ⟨rfl, rfl⟩ ⟨Nat.le_of_ble_eq_true rfl, Nat.le_of_ble_eq_true rfl⟩ 12 rfl rfl rfl [0, 1] [2, 3, 4, 5, 6] rfl rfl (by decide) rfl hl.1 rfl (lv_room (Nat.le_of_ble_eq_true rfl)) dX12_laid_12 ⟨Nat.le_of_ble_eq_true rfl, Nat.le_of_ble_eq_true rfl⟩ (fun r_1 u_2 H locs hw hP hD hS => ?_)
  obtain ⟨he_r_1, hw⟩ := hw
  rcases hw with ⟨rfl, -⟩ | ⟨rfl, hf_4, hf_5⟩
  · skip
    refine lv_if_ne (tgt := 24) hx hb dX12_laid_15 (by decide) (fun h9 => absurd (by decide +kernel) h9) (fun _ => ?_)
    refine lv_aload_n hx hb dX12_laid_18 rfl (lv_at hl 0 rfl) ?_
    refine lv_iconst (v := 2) hx hb dX12_laid_19 (by decide) ?_
    refine z_callVi (As := [.int 2]) (rest := []) (wr := [(a_there, .inl (cA.1 0, 10, .inl g_there)), (a_tried, .inl (cA.1 0, 10, .inl g_tried)), (a_best, .inl (cA.1 0, 10, .inl g_best)), (a_found, .inl (cA.1 0, 10, .inl g_found)), (a_order, .inl (cA.1 0, 10, .inl g_order)), (a_c, .inl (cA.1 0, 1825, .inl g_c))]) ⟨hx, hb, hml, hown, hts⟩ hK hE hT hP hD hS hA (r_refuse l G cA h0 0 0 m_above m_under a_traySort a_trayMany a_numbers a_tape m_taped m_textEnd m_faultKind m_faultAt m_bad m_badAt m_token m_at m_behind m_number m_letters m_word a_c a_words m_markMany a_there a_tried a_best a_found m_thereMany m_foundMany m_orderHow m_orderRing m_orderMany m_hasBest m_bestTop m_bestBy a_weights a_shared m_random m_truePlace m_trueWay m_seconds m_done m_feelings m_tries m_leftOver m_playDoor m_playRing m_isOpen m_isOver m_wasTried m_hasPlayed a_feltNow a_last a_kept m_hasSeconds m_hasTurned m_hasRound a_hasFeels a_isOn m_firstAct m_meanTop m_meanBy a_order m_rowMany m_newSteps 2) lk_RX12_269 ⟨rfl, rfl⟩ ⟨Nat.le_of_ble_eq_true rfl, Nat.le_of_ble_eq_true rfl⟩ 12 rfl rfl rfl [5] [0, 1, 2, 3, 4, 6] rfl rfl (by decide) rfl hl.1 rfl (lv_room (Nat.le_of_ble_eq_true rfl)) dX12_laid_20 ⟨Nat.le_of_ble_eq_true rfl, Nat.le_of_ble_eq_true rfl⟩ (fun r_7 u_8 H locs hw hP hD hS => ?_)
    obtain ⟨n_6, rfl⟩ : ∃ z, z = u_8 := ⟨_, rfl⟩
    obtain ⟨he_r_7, he_n_6, hw⟩ := hw
    have hr_r_7 := hw
    have hpost : ((-1) ≤ r_7.toInt ∧ r_7.toInt ≤ 9) ∧ (0 ≤ (0 : Int32).toInt ∧ (0 : Int32).toInt ≤ 0) ∧ (0 ≤ m_thereMany.toInt ∧ m_thereMany.toInt ≤ 10) ∧ (zRg 10 0 9 g_there) ∧ (0 ≤ m_foundMany.toInt ∧ m_foundMany.toInt ≤ 10) ∧ (0 ≤ m_orderHow.toInt ∧ m_orderHow.toInt ≤ 2) ∧ (0 ≤ m_orderMany.toInt ∧ m_orderMany.toInt ≤ 10) ∧ (m_hasBest = 0 ∨ m_hasBest = 1) ∧ (0 ≤ m_hasBest.toInt ∧ m_hasBest.toInt ≤ 1) ∧ (zRg 10 0 9 g_tried) ∧ (zRg 10 0 9 g_best) ∧ (zRg 10 0 9 g_found) ∧ (zRg 10 0 9 g_order) := ⟨(z_rgw hr_r_7 (by decide) (by decide)), (by decide +kernel), hr_m_thereMany, hC_g_there, hr_m_foundMany, hr_m_orderHow, hr_m_orderMany, hz_m_hasBest, hr_m_hasBest, hC_g_tried, hC_g_best, hC_g_found, hC_g_order⟩
    have hX_10 : F_r_laid m_bestTop m_bestBy g_c g_there g_tried g_best g_found g_order r o = (r_7 : Int32) := by
      refine (F_r_laid_s ..).trans ?_
      extract_lets -merge -useContext +onlyGivenNames w9 y9; have e9 : (0 : Int32) = w9 := he_r_1; clear_value w9; subst e9
      refine (if_pos rfl).trans ?_
      extract_lets -merge -useContext +onlyGivenNames w9 y2_0 y2_1; have e9 : (r_7, n_6) = w9 := ((z_tS he_r_7 he_n_6.symm)).symm; clear_value w9; subst e9
      exact rfl
    exact hret _ _ _ _ _ _ (n_6, 0, m_thereMany, g_there, m_above, m_under, m_foundMany, m_orderHow, m_orderMany, m_hasBest, m_bestTop, m_bestBy, m_meanTop, m_meanBy, g_tried, g_best, g_found, g_order) [6, 5, 0, 1, 2, 3, 4] hP hD hS rfl (by decide) dX12_laid_23 ⟨(congrArg (fun z9 => z9) hX_10).symm, hpost⟩
  · skip
    refine lv_if_ne (tgt := 24) hx hb dX12_laid_15 (by decide) (fun _ => ?_) (fun h9 => absurd h9 (by decide +kernel))
    refine lv_aload_n hx hb dX12_laid_24 rfl (lv_at hl 0 rfl) ?_
    refine lv_iload_n hx hb dX12_laid_25 rfl (lv_at hl 1 rfl) ?_
    refine z_callVv (As := [.int r]) (rest := []) (wr := [(a_tried, .inl (cA.1 0, 10, .inl g_tried)), (a_best, .inl (cA.1 0, 10, .inl g_best)), (a_found, .inl (cA.1 0, 10, .inl g_found)), (a_order, .inl (cA.1 0, 10, .inl g_order))]) ⟨hx, hb, hml, hown, hts⟩ hK hE hT hP hD hS hA (r_gather l G cA h0 0 0 m_above m_under a_traySort a_trayMany a_numbers a_tape m_taped m_textEnd m_faultKind m_faultAt m_bad m_badAt m_token m_at m_behind m_number m_letters m_word a_c a_words m_markMany a_there a_tried a_best a_found m_thereMany m_foundMany m_orderHow m_orderRing m_orderMany m_hasBest m_bestTop m_bestBy a_weights a_shared m_random m_truePlace m_trueWay m_seconds m_done m_feelings m_tries m_leftOver m_playDoor m_playRing m_isOpen m_isOver m_wasTried m_hasPlayed a_feltNow a_last a_kept m_hasSeconds m_hasTurned m_hasRound a_hasFeels a_isOn m_firstAct m_meanTop m_meanBy a_order m_rowMany m_newSteps g_c g_there r (by omega) hr_m_thereMany hC_g_c hC_g_there) lk_RX12_292 ⟨rfl, rfl⟩ ⟨Nat.le_of_ble_eq_true rfl, Nat.le_of_ble_eq_true rfl⟩ 12 rfl rfl rfl [5, 6, 0] [1, 2, 3, 4] rfl rfl (by decide) rfl hl.1 rfl (lv_room (Nat.le_of_ble_eq_true rfl)) dX12_laid_26 ⟨Nat.le_of_ble_eq_true rfl, Nat.le_of_ble_eq_true rfl⟩ (fun u_14 H locs hw hP hD hS => ?_)
    obtain ⟨n_11, n_12⟩ := u_14
    try dsimp only at hw
    obtain ⟨he_n_11, he_n_12, hw⟩ := hw
    obtain ⟨hr_n_11, hC_n_12, hf_16, hf_17⟩ := hw
    refine lv_aload_n hx hb dX12_laid_29 rfl (lv_at hl 0 rfl) ?_
    refine va_get (D := G) (ci := 12) (v := .int n_11) (C := RX12) (T := TX12) (N := 65) hx hb hts inT12 hown hK hP 4 rfl rfl 27 (by decide) (hts _ tw_1912) (fun _ h9 => h9) rfl dX12_laid_30 ?_
    refine lv_bipush (v := 6) hx hb dX12_laid_33 (by decide) ?_
    refine lv_icmp_le (tgt := 45) hx hb dX12_laid_35 (by decide) (fun c_18 => ?_) (fun c_18 => ?_)
    · have b_19 := z_fleT c_18
      refine lv_aload_n hx hb dX12_laid_45 rfl (lv_at hl 0 rfl) ?_
      refine va_get (D := G) (ci := 12) (v := .int n_11) (C := RX12) (T := TX12) (N := 65) hx hb hts inT12 hown hK hP 4 rfl rfl 27 (by decide) (hts _ tw_1912) (fun _ h9 => h9) rfl dX12_laid_46 ?_
      refine lv_if_le (tgt := 58) hx hb dX12_laid_49 (by decide) (fun c_20 => ?_) (fun c_20 => ?_)
      · have b_21 := z_fleT c_20
        refine lv_aload_n hx hb dX12_laid_58 rfl (lv_at hl 0 rfl) ?_
        refine va_get (D := G) (ci := 12) (v := .int n_11) (C := RX12) (T := TX12) (N := 65) hx hb hts inT12 hown hK hP 4 rfl rfl 27 (by decide) (hts _ tw_1912) (fun _ h9 => h9) rfl dX12_laid_59 ?_
        refine lv_if_eq (tgt := 74) hx hb dX12_laid_62 (by decide) (fun c_22 => ?_) (fun h9 => (z_no (by have h8 := z_fneF h9; omega)))
        have b_23 := z_feqT c_22
        refine lv_aload_n hx hb dX12_laid_74 rfl (lv_at hl 0 rfl) ?_
        refine lv_bipush (v := 8) hx hb dX12_laid_75 (by decide) ?_
        refine z_callVi (As := [.int 8]) (rest := []) (wr := [(a_tried, .inl (cA.1 0, 10, .inl g_tried)), (a_best, .inl (cA.1 0, 10, .inl g_best)), (a_found, .inl (cA.1 0, 10, .inl g_found)), (a_order, .inl (cA.1 0, 10, .inl g_order)), (a_c, .inl (cA.1 0, 1825, .inl g_c)), (a_there, .inl (cA.1 0, 10, .inl n_12))]) ⟨hx, hb, hml, hown, hts⟩ hK hE hT hP hD hS hA (r_refuse l G cA h0 0 0 m_above m_under a_traySort a_trayMany a_numbers a_tape m_taped m_textEnd m_faultKind m_faultAt m_bad m_badAt m_token m_at m_behind m_number m_letters m_word a_c a_words m_markMany a_there a_tried a_best a_found n_11 m_foundMany m_orderHow m_orderRing m_orderMany m_hasBest m_bestTop m_bestBy a_weights a_shared m_random m_truePlace m_trueWay m_seconds m_done m_feelings m_tries m_leftOver m_playDoor m_playRing m_isOpen m_isOver m_wasTried m_hasPlayed a_feltNow a_last a_kept m_hasSeconds m_hasTurned m_hasRound a_hasFeels a_isOn m_firstAct m_meanTop m_meanBy a_order m_rowMany m_newSteps 8) lk_RX12_269 ⟨rfl, rfl⟩ ⟨Nat.le_of_ble_eq_true rfl, Nat.le_of_ble_eq_true rfl⟩ 12 rfl rfl rfl [4] [0, 1, 2, 3, 5, 6] rfl rfl (by decide) rfl hl.1 rfl (lv_room (Nat.le_of_ble_eq_true rfl)) dX12_laid_77 ⟨Nat.le_of_ble_eq_true rfl, Nat.le_of_ble_eq_true rfl⟩ (fun r_25 u_26 H locs hw hP hD hS => ?_)
        obtain ⟨n_24, rfl⟩ : ∃ z, z = u_26 := ⟨_, rfl⟩
        obtain ⟨he_r_25, he_n_24, hw⟩ := hw
        have hr_r_25 := hw
        have hpost : ((-1) ≤ r_25.toInt ∧ r_25.toInt ≤ 9) ∧ (0 ≤ (0 : Int32).toInt ∧ (0 : Int32).toInt ≤ 0) ∧ (0 ≤ n_11.toInt ∧ n_11.toInt ≤ 10) ∧ (zRg 10 0 9 n_12) ∧ (0 ≤ m_foundMany.toInt ∧ m_foundMany.toInt ≤ 10) ∧ (0 ≤ m_orderHow.toInt ∧ m_orderHow.toInt ≤ 2) ∧ (0 ≤ m_orderMany.toInt ∧ m_orderMany.toInt ≤ 10) ∧ (m_hasBest = 0 ∨ m_hasBest = 1) ∧ (0 ≤ m_hasBest.toInt ∧ m_hasBest.toInt ≤ 1) ∧ (zRg 10 0 9 g_tried) ∧ (zRg 10 0 9 g_best) ∧ (zRg 10 0 9 g_found) ∧ (zRg 10 0 9 g_order) := ⟨(z_rgw hr_r_25 (by decide) (by decide)), (by decide +kernel), hr_n_11, hC_n_12, hr_m_foundMany, hr_m_orderHow, hr_m_orderMany, hz_m_hasBest, hr_m_hasBest, hC_g_tried, hC_g_best, hC_g_found, hC_g_order⟩
        have hX_28 : F_r_laid m_bestTop m_bestBy g_c g_there g_tried g_best g_found g_order r o = (r_25 : Int32) := by
          refine (F_r_laid_s ..).trans ?_
          extract_lets -merge -useContext +onlyGivenNames w9 y9; have e9 : (1 : Int32) = w9 := he_r_1; clear_value w9; subst e9
          refine (if_neg (show ¬ (1 : Int32) = 0 by decide)).trans ?_
          extract_lets -merge -useContext +onlyGivenNames w9 y2_0 y2_1; have e9 : (n_11, n_12) = w9 := ((z_tS he_n_11 he_n_12.symm)).symm; clear_value w9; subst e9
          refine (if_pos c_18).trans ?_
          refine (if_pos c_20).trans ?_
          extract_lets -merge -useContext +onlyGivenNames w9 y5_0 y5_1; have e9 : (r_25, n_24) = w9 := ((z_tS he_r_25 he_n_24.symm)).symm; clear_value w9; subst e9
          exact rfl
        exact hret _ _ _ _ _ _ (n_24, 0, n_11, n_12, m_above, m_under, m_foundMany, m_orderHow, m_orderMany, m_hasBest, m_bestTop, m_bestBy, m_meanTop, m_meanBy, g_tried, g_best, g_found, g_order) [6, 4, 5, 0, 1, 2, 3] hP hD hS rfl (by decide) dX12_laid_80 ⟨(congrArg (fun z9 => z9) hX_28).symm, hpost⟩
      · have b_29 := z_fgtF c_20
        refine lv_aload_n hx hb dX12_laid_52 rfl (lv_at hl 0 rfl) ?_
        refine lv_iconst (v := 0) hx hb dX12_laid_53 (by decide) ?_
        refine lv_iconst (v := 0) hx hb dX12_laid_54 (by decide) ?_
        refine z_callVv (As := [.int 0, .int 0]) (rest := []) (wr := [(a_tried, .inl (cA.1 0, 10, .inl g_tried)), (a_best, .inl (cA.1 0, 10, .inl g_best)), (a_found, .inl (cA.1 0, 10, .inl g_found)), (a_order, .inl (cA.1 0, 10, .inl g_order))]) ⟨hx, hb, hml, hown, hts⟩ hK hE hT hP hD hS hA (r_meanFrom l G cA h0 0 0 m_above m_under a_traySort a_trayMany a_numbers a_tape m_taped m_textEnd m_faultKind m_faultAt m_bad m_badAt m_token m_at m_behind m_number m_letters m_word a_c a_words m_markMany a_there a_tried a_best a_found n_11 m_foundMany m_orderHow m_orderRing m_orderMany m_hasBest m_bestTop m_bestBy a_weights a_shared m_random m_truePlace m_trueWay m_seconds m_done m_feelings m_tries m_leftOver m_playDoor m_playRing m_isOpen m_isOver m_wasTried m_hasPlayed a_feltNow a_last a_kept m_hasSeconds m_hasTurned m_hasRound a_hasFeels a_isOn m_firstAct m_meanTop m_meanBy a_order m_rowMany m_newSteps g_c n_12 0 0 (by decide +kernel) (by decide +kernel) hr_n_11 hC_g_c hC_n_12 (by omega)) lk_RX12_396 ⟨rfl, rfl⟩ ⟨Nat.le_of_ble_eq_true rfl, Nat.le_of_ble_eq_true rfl⟩ 12 rfl rfl rfl [4, 5, 6] [0, 1, 2, 3] rfl rfl (by decide) rfl hl.1 rfl (lv_room (Nat.le_of_ble_eq_true rfl)) dX12_laid_55 ⟨Nat.le_of_ble_eq_true rfl, Nat.le_of_ble_eq_true rfl⟩ (fun u_33 H locs hw hP hD hS => ?_)
        obtain ⟨n_30, n_31⟩ := u_33
        try dsimp only at hw
        obtain ⟨he_n_30, he_n_31, hw⟩ := hw
        obtain ⟨hr_n_31, hf_35⟩ := hw
        refine lv_aload_n hx hb dX12_laid_58 rfl (lv_at hl 0 rfl) ?_
        refine va_get (D := G) (ci := 12) (v := .int n_11) (C := RX12) (T := TX12) (N := 65) hx hb hts inT12 hown hK hP 4 rfl rfl 27 (by decide) (hts _ tw_1912) (fun _ h9 => h9) rfl dX12_laid_59 ?_
        refine lv_if_eq (tgt := 74) hx hb dX12_laid_62 (by decide) (fun h9 => (z_no (by have h8 := z_feqT h9; omega))) (fun c_36 => ?_)
        have b_37 := z_fneF c_36
        refine lv_aload_n hx hb dX12_laid_65 rfl (lv_at hl 0 rfl) ?_
        refine va_get (D := G) (ci := 12) (v := .long n_31) (C := RX12) (T := TX12) (N := 65) hx hb hts inT12 hown hK hP 4 rfl rfl 61 (by decide) (hts _ tw_1944) (fun _ h9 => h9) rfl dX12_laid_66 ?_
        refine lv_lconst (v := 0) hx hb dX12_laid_69 (by decide) ?_
        refine W.lcmp hx hb dX12_laid_70 ?_
        refine lv_if_ne (tgt := 81) hx hb dX12_laid_71 (by decide) (fun c_38 => ?_) (fun c_38 => ?_)
        · have b_39 := z_fneTl c_38
          refine lv_aload_n hx hb dX12_laid_81 rfl (lv_at hl 0 rfl) ?_
          refine lv_iload_n hx hb dX12_laid_82 rfl (lv_at hl 2 rfl) ?_
          refine lv_if_eq (tgt := 90) hx hb dX12_laid_83 (by decide) (fun c_40 => ?_) (fun c_40 => ?_)
          · have b_41 := z_feqT c_40
            refine lv_iconst (v := 0) hx hb dX12_laid_90 (by decide) ?_
            refine z_callVv (As := [.int 0]) (rest := []) (wr := []) ⟨hx, hb, hml, hown, hts⟩ hK hE hT hP hD hS hA (r_findOrder l G cA h0 0 0 m_above m_under a_traySort a_trayMany a_numbers a_tape m_taped m_textEnd m_faultKind m_faultAt m_bad m_badAt m_token m_at m_behind m_number m_letters m_word a_c a_words m_markMany a_there a_tried a_best a_found n_11 m_foundMany m_orderHow m_orderRing m_orderMany m_hasBest m_bestTop m_bestBy a_weights a_shared m_random m_truePlace m_trueWay m_seconds m_done m_feelings m_tries m_leftOver m_playDoor m_playRing m_isOpen m_isOver m_wasTried m_hasPlayed a_feltNow a_last a_kept m_hasSeconds m_hasTurned m_hasRound a_hasFeels a_isOn m_firstAct n_30 n_31 a_order m_rowMany m_newSteps g_c n_12 g_tried g_best g_found g_order 0 (by decide +kernel) (by omega) hr_m_foundMany hr_m_orderMany hr_m_orderHow hr_m_hasBest hz_m_hasBest hC_g_c hC_n_12 hC_g_tried hC_g_best hC_g_found hC_g_order (fun _ => ⟨(hf_35).elim (fun h => h.2) (fun h => z_no (by omega)), hf_17 (by omega)⟩)) lk_RX12_435 ⟨rfl, rfl⟩ ⟨Nat.le_of_ble_eq_true rfl, Nat.le_of_ble_eq_true rfl⟩ 12 rfl rfl rfl [4, 5, 6, 0, 1, 2, 3] [] rfl rfl (by decide) rfl hl.1 rfl (lv_room (Nat.le_of_ble_eq_true rfl)) dX12_laid_91 ⟨Nat.le_of_ble_eq_true rfl, Nat.le_of_ble_eq_true rfl⟩ (fun u_56 H locs hw hP hD hS => ?_)
            obtain ⟨n_42, n_43, n_44, n_45, n_46, n_47, n_48, n_49, n_50, n_51, n_52, n_53, n_54⟩ := u_56
            try dsimp only at hw
            obtain ⟨he_n_42, he_n_43, he_n_44, he_n_45, he_n_46, he_n_47, he_n_48, he_n_49, he_n_50, he_n_51, he_n_52, he_n_53, he_n_54, hw⟩ := hw
            obtain ⟨hr_n_42, hr_n_43, hr_n_44, hz_n_45, hr_n_45, hC_n_50, hC_n_51, hC_n_52, hC_n_53, hC_n_54, hf_58⟩ := hw
            have hone := hf_58 (by omega)
            refine lv_aload_n hx hb dX12_laid_94 rfl (lv_at hl 0 rfl) ?_
            refine lv_aload_n hx hb dX12_laid_95 rfl (lv_at hl 0 rfl) ?_
            refine va_get (D := G) (ci := 12) (v := .long n_46) (C := RX12) (T := TX12) (N := 65) hx hb hts inT12 hown hK hP 0 rfl rfl 33 (by decide) (hts _ tw_1917) (fun _ h9 => h9) rfl dX12_laid_96 ?_
            refine lv_aload_n hx hb dX12_laid_99 rfl (lv_at hl 0 rfl) ?_
            refine va_get (D := G) (ci := 12) (v := .long n_47) (C := RX12) (T := TX12) (N := 65) hx hb hts inT12 hown hK hP 0 rfl rfl 34 (by decide) (hts _ tw_1918) (fun _ h9 => h9) rfl dX12_laid_100 ?_
            refine z_callVi (As := [.long n_46, .long n_47]) (rest := []) (wr := [(a_c, .inl (cA.1 0, 1825, .inl g_c)), (a_there, .inl (cA.1 0, 10, .inl n_50)), (a_tried, .inl (cA.1 0, 10, .inl n_53)), (a_best, .inl (cA.1 0, 10, .inl n_51)), (a_found, .inl (cA.1 0, 10, .inl n_54)), (a_order, .inl (cA.1 0, 10, .inl n_52))]) ⟨hx, hb, hml, hown, hts⟩ hK hE hT hP hD hS hA (r_fraction l G cA h0 0 0 m_above m_under a_traySort a_trayMany a_numbers a_tape m_taped m_textEnd m_faultKind m_faultAt m_bad m_badAt m_token m_at m_behind m_number m_letters m_word a_c a_words m_markMany a_there a_tried a_best a_found n_11 n_42 n_43 m_orderRing n_44 n_45 n_46 n_47 a_weights a_shared m_random m_truePlace m_trueWay m_seconds m_done m_feelings m_tries m_leftOver m_playDoor m_playRing m_isOpen m_isOver m_wasTried m_hasPlayed a_feltNow a_last a_kept m_hasSeconds m_hasTurned m_hasRound a_hasFeels a_isOn m_firstAct n_48 n_49 a_order m_rowMany m_newSteps n_46 n_47 (by omega)) lk_RX12_352 ⟨rfl, rfl⟩ ⟨Nat.le_of_ble_eq_true rfl, Nat.le_of_ble_eq_true rfl⟩ 12 rfl rfl rfl [0] [1, 2, 3, 4, 5, 6] rfl rfl (by decide) rfl hl.1 rfl (lv_room (Nat.le_of_ble_eq_true rfl)) dX12_laid_103 ⟨Nat.le_of_ble_eq_true rfl, Nat.le_of_ble_eq_true rfl⟩ (fun r_61 u_62 H locs hw hP hD hS => ?_)
            obtain ⟨n_59, n_60⟩ := u_62
            try dsimp only at hw
            obtain ⟨rfl, -⟩ := hw
            refine lv_pop hx hb dX12_laid_106 rfl ?_
            refine lv_aload_n hx hb dX12_laid_107 rfl (lv_at hl 0 rfl) ?_
            refine va_get (D := G) (ci := 12) (v := .ref a_found) (C := RX12) (T := TX12) (N := 65) hx hb hts inT12 hown hK hP 6 rfl rfl 26 (by decide) (hts _ tw_1911) (fun _ h9 => h9) rfl dX12_laid_108 ?_
            refine lv_iconst (v := 0) hx hb dX12_laid_111 (by decide) ?_
            refine va_iald hx hb hK hP 4 0 rfl rfl (z_in (i := 0) (n := 10) (by decide +kernel) (by decide +kernel)) dX12_laid_112 ?_
            refine lv_topi (fun x_63 he_x_63 => ?_)
            have hr_x_63 := z_rg hC_n_54 he_x_63 (by decide +kernel) (by decide +kernel)
            have hpost : ((-1) ≤ x_63.toInt ∧ x_63.toInt ≤ 9) ∧ (0 ≤ (0 : Int32).toInt ∧ (0 : Int32).toInt ≤ 0) ∧ (0 ≤ n_11.toInt ∧ n_11.toInt ≤ 10) ∧ (zRg 10 0 9 n_50) ∧ (0 ≤ n_42.toInt ∧ n_42.toInt ≤ 10) ∧ (0 ≤ n_43.toInt ∧ n_43.toInt ≤ 2) ∧ (0 ≤ n_44.toInt ∧ n_44.toInt ≤ 10) ∧ (n_45 = 0 ∨ n_45 = 1) ∧ (0 ≤ n_45.toInt ∧ n_45.toInt ≤ 1) ∧ (zRg 10 0 9 n_53) ∧ (zRg 10 0 9 n_51) ∧ (zRg 10 0 9 n_54) ∧ (zRg 10 0 9 n_52) := ⟨(z_rgw hr_x_63 (by decide) (by decide)), (by decide +kernel), hr_n_11, hC_n_50, (z_rgw hr_n_42 (by decide) (by decide)), hr_n_43, (z_rgw hr_n_44 (by decide) (by decide)), hz_n_45, hr_n_45, hC_n_53, hC_n_51, hC_n_54, hC_n_52⟩
            have hX_64 : F_r_laid m_bestTop m_bestBy g_c g_there g_tried g_best g_found g_order r o = (x_63 : Int32) := by
              refine (F_r_laid_s ..).trans ?_
              extract_lets -merge -useContext +onlyGivenNames w9 y9; have e9 : (1 : Int32) = w9 := he_r_1; clear_value w9; subst e9
              refine (if_neg (show ¬ (1 : Int32) = 0 by decide)).trans ?_
              extract_lets -merge -useContext +onlyGivenNames w9 y2_0 y2_1; have e9 : (n_11, n_12) = w9 := ((z_tS he_n_11 he_n_12.symm)).symm; clear_value w9; subst e9
              refine (if_pos c_18).trans ?_
              refine (if_neg c_20).trans ?_
              extract_lets -merge -useContext +onlyGivenNames w9 y5_0 y5_1; have e9 : (n_30, n_31) = w9 := ((z_tS he_n_30 he_n_31.symm)).symm; clear_value w9; subst e9
              refine (if_neg c_38).trans ?_
              refine (if_pos c_40).trans ?_
              extract_lets -merge -useContext +onlyGivenNames w9 y8_0 y8_1 y8_2 y8_3 y8_4 y8_5 y8_6 y8_7 y8_8 y8_9 y8_10 y8_11 y8_12; have e9 : (n_42, n_43, n_44, n_45, n_46, n_47, n_48, n_49, n_50, n_51, n_52, n_53, n_54) = w9 := ((z_tS he_n_42 (z_tS he_n_43 (z_tS he_n_44 (z_tS he_n_45 (z_tS he_n_46 (z_tS he_n_47 (z_tS he_n_48 (z_tS he_n_49 (z_tS he_n_50 (z_tS he_n_51 (z_tS he_n_52 (z_tS he_n_53 he_n_54.symm))))))))))))).symm; clear_value w9; subst e9
              try (extract_lets -merge -useContext +onlyGivenNames y9; have e9 : x_63 = y9 := (by first | exact he_x_63 | exact he_x_63.symm); clear_value y9; subst e9)
              exact rfl
            exact hret _ _ _ _ _ _ (0, 0, n_11, n_50, n_59, n_60, n_42, n_43, n_44, n_45, n_46, n_47, n_48, n_49, n_53, n_51, n_54, n_52) [6, 0, 1, 2, 3, 4, 5] hP hD hS rfl (by decide) dX12_laid_113 ⟨(congrArg (fun z9 => z9) hX_64).symm, hpost⟩
          · have b_65 := z_fneF c_40
            refine lv_iconst (v := 1) hx hb dX12_laid_86 (by decide) ?_
            refine lv_goto (tgt := 91) hx hb dX12_laid_87 (by decide) ?_
            refine z_callVv (As := [.int 1]) (rest := []) (wr := []) ⟨hx, hb, hml, hown, hts⟩ hK hE hT hP hD hS hA (r_findOrder l G cA h0 0 0 m_above m_under a_traySort a_trayMany a_numbers a_tape m_taped m_textEnd m_faultKind m_faultAt m_bad m_badAt m_token m_at m_behind m_number m_letters m_word a_c a_words m_markMany a_there a_tried a_best a_found n_11 m_foundMany m_orderHow m_orderRing m_orderMany m_hasBest m_bestTop m_bestBy a_weights a_shared m_random m_truePlace m_trueWay m_seconds m_done m_feelings m_tries m_leftOver m_playDoor m_playRing m_isOpen m_isOver m_wasTried m_hasPlayed a_feltNow a_last a_kept m_hasSeconds m_hasTurned m_hasRound a_hasFeels a_isOn m_firstAct n_30 n_31 a_order m_rowMany m_newSteps g_c n_12 g_tried g_best g_found g_order 1 (by decide +kernel) (by omega) hr_m_foundMany hr_m_orderMany hr_m_orderHow hr_m_hasBest hz_m_hasBest hC_g_c hC_n_12 hC_g_tried hC_g_best hC_g_found hC_g_order (fun _ => ⟨(hf_35).elim (fun h => h.2) (fun h => z_no (by omega)), hf_17 (by omega)⟩)) lk_RX12_435 ⟨rfl, rfl⟩ ⟨Nat.le_of_ble_eq_true rfl, Nat.le_of_ble_eq_true rfl⟩ 12 rfl rfl rfl [4, 5, 6, 0, 1, 2, 3] [] rfl rfl (by decide) rfl hl.1 rfl (lv_room (Nat.le_of_ble_eq_true rfl)) dX12_laid_91 ⟨Nat.le_of_ble_eq_true rfl, Nat.le_of_ble_eq_true rfl⟩ (fun u_80 H locs hw hP hD hS => ?_)
            obtain ⟨n_66, n_67, n_68, n_69, n_70, n_71, n_72, n_73, n_74, n_75, n_76, n_77, n_78⟩ := u_80
            try dsimp only at hw
            obtain ⟨he_n_66, he_n_67, he_n_68, he_n_69, he_n_70, he_n_71, he_n_72, he_n_73, he_n_74, he_n_75, he_n_76, he_n_77, he_n_78, hw⟩ := hw
            obtain ⟨hr_n_66, hr_n_67, hr_n_68, hz_n_69, hr_n_69, hC_n_74, hC_n_75, hC_n_76, hC_n_77, hC_n_78, hf_82⟩ := hw
            have hone := hf_82 (by omega)
            refine lv_aload_n hx hb dX12_laid_94 rfl (lv_at hl 0 rfl) ?_
            refine lv_aload_n hx hb dX12_laid_95 rfl (lv_at hl 0 rfl) ?_
            refine va_get (D := G) (ci := 12) (v := .long n_70) (C := RX12) (T := TX12) (N := 65) hx hb hts inT12 hown hK hP 0 rfl rfl 33 (by decide) (hts _ tw_1917) (fun _ h9 => h9) rfl dX12_laid_96 ?_
            refine lv_aload_n hx hb dX12_laid_99 rfl (lv_at hl 0 rfl) ?_
            refine va_get (D := G) (ci := 12) (v := .long n_71) (C := RX12) (T := TX12) (N := 65) hx hb hts inT12 hown hK hP 0 rfl rfl 34 (by decide) (hts _ tw_1918) (fun _ h9 => h9) rfl dX12_laid_100 ?_
            refine z_callVi (As := [.long n_70, .long n_71]) (rest := []) (wr := [(a_c, .inl (cA.1 0, 1825, .inl g_c)), (a_there, .inl (cA.1 0, 10, .inl n_74)), (a_tried, .inl (cA.1 0, 10, .inl n_77)), (a_best, .inl (cA.1 0, 10, .inl n_75)), (a_found, .inl (cA.1 0, 10, .inl n_78)), (a_order, .inl (cA.1 0, 10, .inl n_76))]) ⟨hx, hb, hml, hown, hts⟩ hK hE hT hP hD hS hA (r_fraction l G cA h0 0 0 m_above m_under a_traySort a_trayMany a_numbers a_tape m_taped m_textEnd m_faultKind m_faultAt m_bad m_badAt m_token m_at m_behind m_number m_letters m_word a_c a_words m_markMany a_there a_tried a_best a_found n_11 n_66 n_67 m_orderRing n_68 n_69 n_70 n_71 a_weights a_shared m_random m_truePlace m_trueWay m_seconds m_done m_feelings m_tries m_leftOver m_playDoor m_playRing m_isOpen m_isOver m_wasTried m_hasPlayed a_feltNow a_last a_kept m_hasSeconds m_hasTurned m_hasRound a_hasFeels a_isOn m_firstAct n_72 n_73 a_order m_rowMany m_newSteps n_70 n_71 (by omega)) lk_RX12_352 ⟨rfl, rfl⟩ ⟨Nat.le_of_ble_eq_true rfl, Nat.le_of_ble_eq_true rfl⟩ 12 rfl rfl rfl [0] [1, 2, 3, 4, 5, 6] rfl rfl (by decide) rfl hl.1 rfl (lv_room (Nat.le_of_ble_eq_true rfl)) dX12_laid_103 ⟨Nat.le_of_ble_eq_true rfl, Nat.le_of_ble_eq_true rfl⟩ (fun r_85 u_86 H locs hw hP hD hS => ?_)
            obtain ⟨n_83, n_84⟩ := u_86
            try dsimp only at hw
            obtain ⟨rfl, -⟩ := hw
            refine lv_pop hx hb dX12_laid_106 rfl ?_
            refine lv_aload_n hx hb dX12_laid_107 rfl (lv_at hl 0 rfl) ?_
            refine va_get (D := G) (ci := 12) (v := .ref a_found) (C := RX12) (T := TX12) (N := 65) hx hb hts inT12 hown hK hP 6 rfl rfl 26 (by decide) (hts _ tw_1911) (fun _ h9 => h9) rfl dX12_laid_108 ?_
            refine lv_iconst (v := 0) hx hb dX12_laid_111 (by decide) ?_
            refine va_iald hx hb hK hP 4 0 rfl rfl (z_in (i := 0) (n := 10) (by decide +kernel) (by decide +kernel)) dX12_laid_112 ?_
            refine lv_topi (fun x_87 he_x_87 => ?_)
            have hr_x_87 := z_rg hC_n_78 he_x_87 (by decide +kernel) (by decide +kernel)
            have hpost : ((-1) ≤ x_87.toInt ∧ x_87.toInt ≤ 9) ∧ (0 ≤ (0 : Int32).toInt ∧ (0 : Int32).toInt ≤ 0) ∧ (0 ≤ n_11.toInt ∧ n_11.toInt ≤ 10) ∧ (zRg 10 0 9 n_74) ∧ (0 ≤ n_66.toInt ∧ n_66.toInt ≤ 10) ∧ (0 ≤ n_67.toInt ∧ n_67.toInt ≤ 2) ∧ (0 ≤ n_68.toInt ∧ n_68.toInt ≤ 10) ∧ (n_69 = 0 ∨ n_69 = 1) ∧ (0 ≤ n_69.toInt ∧ n_69.toInt ≤ 1) ∧ (zRg 10 0 9 n_77) ∧ (zRg 10 0 9 n_75) ∧ (zRg 10 0 9 n_78) ∧ (zRg 10 0 9 n_76) := ⟨(z_rgw hr_x_87 (by decide) (by decide)), (by decide +kernel), hr_n_11, hC_n_74, (z_rgw hr_n_66 (by decide) (by decide)), hr_n_67, (z_rgw hr_n_68 (by decide) (by decide)), hz_n_69, hr_n_69, hC_n_77, hC_n_75, hC_n_78, hC_n_76⟩
            have hX_88 : F_r_laid m_bestTop m_bestBy g_c g_there g_tried g_best g_found g_order r o = (x_87 : Int32) := by
              refine (F_r_laid_s ..).trans ?_
              extract_lets -merge -useContext +onlyGivenNames w9 y9; have e9 : (1 : Int32) = w9 := he_r_1; clear_value w9; subst e9
              refine (if_neg (show ¬ (1 : Int32) = 0 by decide)).trans ?_
              extract_lets -merge -useContext +onlyGivenNames w9 y2_0 y2_1; have e9 : (n_11, n_12) = w9 := ((z_tS he_n_11 he_n_12.symm)).symm; clear_value w9; subst e9
              refine (if_pos c_18).trans ?_
              refine (if_neg c_20).trans ?_
              extract_lets -merge -useContext +onlyGivenNames w9 y5_0 y5_1; have e9 : (n_30, n_31) = w9 := ((z_tS he_n_30 he_n_31.symm)).symm; clear_value w9; subst e9
              refine (if_neg c_38).trans ?_
              refine (if_neg c_40).trans ?_
              extract_lets -merge -useContext +onlyGivenNames w9 y8_0 y8_1 y8_2 y8_3 y8_4 y8_5 y8_6 y8_7 y8_8 y8_9 y8_10 y8_11 y8_12; have e9 : (n_66, n_67, n_68, n_69, n_70, n_71, n_72, n_73, n_74, n_75, n_76, n_77, n_78) = w9 := ((z_tS he_n_66 (z_tS he_n_67 (z_tS he_n_68 (z_tS he_n_69 (z_tS he_n_70 (z_tS he_n_71 (z_tS he_n_72 (z_tS he_n_73 (z_tS he_n_74 (z_tS he_n_75 (z_tS he_n_76 (z_tS he_n_77 he_n_78.symm))))))))))))).symm; clear_value w9; subst e9
              try (extract_lets -merge -useContext +onlyGivenNames y9; have e9 : x_87 = y9 := (by first | exact he_x_87 | exact he_x_87.symm); clear_value y9; subst e9)
              exact rfl
            exact hret _ _ _ _ _ _ (0, 0, n_11, n_74, n_83, n_84, n_66, n_67, n_68, n_69, n_70, n_71, n_72, n_73, n_77, n_75, n_78, n_76) [6, 0, 1, 2, 3, 4, 5] hP hD hS rfl (by decide) dX12_laid_113 ⟨(congrArg (fun z9 => z9) hX_88).symm, hpost⟩
        · have b_89 := z_feqFl c_38
          refine lv_aload_n hx hb dX12_laid_74 rfl (lv_at hl 0 rfl) ?_
          refine lv_bipush (v := 8) hx hb dX12_laid_75 (by decide) ?_
          refine z_callVi (As := [.int 8]) (rest := []) (wr := [(a_tried, .inl (cA.1 0, 10, .inl g_tried)), (a_best, .inl (cA.1 0, 10, .inl g_best)), (a_found, .inl (cA.1 0, 10, .inl g_found)), (a_order, .inl (cA.1 0, 10, .inl g_order)), (a_c, .inl (cA.1 0, 1825, .inl g_c)), (a_there, .inl (cA.1 0, 10, .inl n_12))]) ⟨hx, hb, hml, hown, hts⟩ hK hE hT hP hD hS hA (r_refuse l G cA h0 0 0 m_above m_under a_traySort a_trayMany a_numbers a_tape m_taped m_textEnd m_faultKind m_faultAt m_bad m_badAt m_token m_at m_behind m_number m_letters m_word a_c a_words m_markMany a_there a_tried a_best a_found n_11 m_foundMany m_orderHow m_orderRing m_orderMany m_hasBest m_bestTop m_bestBy a_weights a_shared m_random m_truePlace m_trueWay m_seconds m_done m_feelings m_tries m_leftOver m_playDoor m_playRing m_isOpen m_isOver m_wasTried m_hasPlayed a_feltNow a_last a_kept m_hasSeconds m_hasTurned m_hasRound a_hasFeels a_isOn m_firstAct n_30 n_31 a_order m_rowMany m_newSteps 8) lk_RX12_269 ⟨rfl, rfl⟩ ⟨Nat.le_of_ble_eq_true rfl, Nat.le_of_ble_eq_true rfl⟩ 12 rfl rfl rfl [4] [0, 1, 2, 3, 5, 6] rfl rfl (by decide) rfl hl.1 rfl (lv_room (Nat.le_of_ble_eq_true rfl)) dX12_laid_77 ⟨Nat.le_of_ble_eq_true rfl, Nat.le_of_ble_eq_true rfl⟩ (fun r_91 u_92 H locs hw hP hD hS => ?_)
          obtain ⟨n_90, rfl⟩ : ∃ z, z = u_92 := ⟨_, rfl⟩
          obtain ⟨he_r_91, he_n_90, hw⟩ := hw
          have hr_r_91 := hw
          have hpost : ((-1) ≤ r_91.toInt ∧ r_91.toInt ≤ 9) ∧ (0 ≤ (0 : Int32).toInt ∧ (0 : Int32).toInt ≤ 0) ∧ (0 ≤ n_11.toInt ∧ n_11.toInt ≤ 10) ∧ (zRg 10 0 9 n_12) ∧ (0 ≤ m_foundMany.toInt ∧ m_foundMany.toInt ≤ 10) ∧ (0 ≤ m_orderHow.toInt ∧ m_orderHow.toInt ≤ 2) ∧ (0 ≤ m_orderMany.toInt ∧ m_orderMany.toInt ≤ 10) ∧ (m_hasBest = 0 ∨ m_hasBest = 1) ∧ (0 ≤ m_hasBest.toInt ∧ m_hasBest.toInt ≤ 1) ∧ (zRg 10 0 9 g_tried) ∧ (zRg 10 0 9 g_best) ∧ (zRg 10 0 9 g_found) ∧ (zRg 10 0 9 g_order) := ⟨(z_rgw hr_r_91 (by decide) (by decide)), (by decide +kernel), hr_n_11, hC_n_12, hr_m_foundMany, hr_m_orderHow, hr_m_orderMany, hz_m_hasBest, hr_m_hasBest, hC_g_tried, hC_g_best, hC_g_found, hC_g_order⟩
          have hX_94 : F_r_laid m_bestTop m_bestBy g_c g_there g_tried g_best g_found g_order r o = (r_91 : Int32) := by
            refine (F_r_laid_s ..).trans ?_
            extract_lets -merge -useContext +onlyGivenNames w9 y9; have e9 : (1 : Int32) = w9 := he_r_1; clear_value w9; subst e9
            refine (if_neg (show ¬ (1 : Int32) = 0 by decide)).trans ?_
            extract_lets -merge -useContext +onlyGivenNames w9 y2_0 y2_1; have e9 : (n_11, n_12) = w9 := ((z_tS he_n_11 he_n_12.symm)).symm; clear_value w9; subst e9
            refine (if_pos c_18).trans ?_
            refine (if_neg c_20).trans ?_
            extract_lets -merge -useContext +onlyGivenNames w9 y5_0 y5_1; have e9 : (n_30, n_31) = w9 := ((z_tS he_n_30 he_n_31.symm)).symm; clear_value w9; subst e9
            refine (if_pos c_38).trans ?_
            extract_lets -merge -useContext +onlyGivenNames w9 y7_0 y7_1; have e9 : (r_91, n_90) = w9 := ((z_tS he_r_91 he_n_90.symm)).symm; clear_value w9; subst e9
            exact rfl
          exact hret _ _ _ _ _ _ (n_90, 0, n_11, n_12, m_above, m_under, m_foundMany, m_orderHow, m_orderMany, m_hasBest, m_bestTop, m_bestBy, n_30, n_31, g_tried, g_best, g_found, g_order) [6, 4, 5, 0, 1, 2, 3] hP hD hS rfl (by decide) dX12_laid_80 ⟨(congrArg (fun z9 => z9) hX_94).symm, hpost⟩
    · have b_95 := z_fgtF c_18
      refine lv_aload_n hx hb dX12_laid_38 rfl (lv_at hl 0 rfl) ?_
      refine lv_bipush (v := 7) hx hb dX12_laid_39 (by decide) ?_
      refine z_callVi (As := [.int 7]) (rest := []) (wr := [(a_tried, .inl (cA.1 0, 10, .inl g_tried)), (a_best, .inl (cA.1 0, 10, .inl g_best)), (a_found, .inl (cA.1 0, 10, .inl g_found)), (a_order, .inl (cA.1 0, 10, .inl g_order)), (a_c, .inl (cA.1 0, 1825, .inl g_c)), (a_there, .inl (cA.1 0, 10, .inl n_12))]) ⟨hx, hb, hml, hown, hts⟩ hK hE hT hP hD hS hA (r_refuse l G cA h0 0 0 m_above m_under a_traySort a_trayMany a_numbers a_tape m_taped m_textEnd m_faultKind m_faultAt m_bad m_badAt m_token m_at m_behind m_number m_letters m_word a_c a_words m_markMany a_there a_tried a_best a_found n_11 m_foundMany m_orderHow m_orderRing m_orderMany m_hasBest m_bestTop m_bestBy a_weights a_shared m_random m_truePlace m_trueWay m_seconds m_done m_feelings m_tries m_leftOver m_playDoor m_playRing m_isOpen m_isOver m_wasTried m_hasPlayed a_feltNow a_last a_kept m_hasSeconds m_hasTurned m_hasRound a_hasFeels a_isOn m_firstAct m_meanTop m_meanBy a_order m_rowMany m_newSteps 7) lk_RX12_269 ⟨rfl, rfl⟩ ⟨Nat.le_of_ble_eq_true rfl, Nat.le_of_ble_eq_true rfl⟩ 12 rfl rfl rfl [4] [0, 1, 2, 3, 5, 6] rfl rfl (by decide) rfl hl.1 rfl (lv_room (Nat.le_of_ble_eq_true rfl)) dX12_laid_41 ⟨Nat.le_of_ble_eq_true rfl, Nat.le_of_ble_eq_true rfl⟩ (fun r_97 u_98 H locs hw hP hD hS => ?_)
      obtain ⟨n_96, rfl⟩ : ∃ z, z = u_98 := ⟨_, rfl⟩
      obtain ⟨he_r_97, he_n_96, hw⟩ := hw
      have hr_r_97 := hw
      have hpost : ((-1) ≤ r_97.toInt ∧ r_97.toInt ≤ 9) ∧ (0 ≤ (0 : Int32).toInt ∧ (0 : Int32).toInt ≤ 0) ∧ (0 ≤ n_11.toInt ∧ n_11.toInt ≤ 10) ∧ (zRg 10 0 9 n_12) ∧ (0 ≤ m_foundMany.toInt ∧ m_foundMany.toInt ≤ 10) ∧ (0 ≤ m_orderHow.toInt ∧ m_orderHow.toInt ≤ 2) ∧ (0 ≤ m_orderMany.toInt ∧ m_orderMany.toInt ≤ 10) ∧ (m_hasBest = 0 ∨ m_hasBest = 1) ∧ (0 ≤ m_hasBest.toInt ∧ m_hasBest.toInt ≤ 1) ∧ (zRg 10 0 9 g_tried) ∧ (zRg 10 0 9 g_best) ∧ (zRg 10 0 9 g_found) ∧ (zRg 10 0 9 g_order) := ⟨(z_rgw hr_r_97 (by decide) (by decide)), (by decide +kernel), hr_n_11, hC_n_12, hr_m_foundMany, hr_m_orderHow, hr_m_orderMany, hz_m_hasBest, hr_m_hasBest, hC_g_tried, hC_g_best, hC_g_found, hC_g_order⟩
      have hX_100 : F_r_laid m_bestTop m_bestBy g_c g_there g_tried g_best g_found g_order r o = (r_97 : Int32) := by
        refine (F_r_laid_s ..).trans ?_
        extract_lets -merge -useContext +onlyGivenNames w9 y9; have e9 : (1 : Int32) = w9 := he_r_1; clear_value w9; subst e9
        refine (if_neg (show ¬ (1 : Int32) = 0 by decide)).trans ?_
        extract_lets -merge -useContext +onlyGivenNames w9 y2_0 y2_1; have e9 : (n_11, n_12) = w9 := ((z_tS he_n_11 he_n_12.symm)).symm; clear_value w9; subst e9
        refine (if_neg c_18).trans ?_
        extract_lets -merge -useContext +onlyGivenNames w9 y4_0 y4_1; have e9 : (r_97, n_96) = w9 := ((z_tS he_r_97 he_n_96.symm)).symm; clear_value w9; subst e9
        exact rfl
      exact hret _ _ _ _ _ _ (n_96, 0, n_11, n_12, m_above, m_under, m_foundMany, m_orderHow, m_orderMany, m_hasBest, m_bestTop, m_bestBy, m_meanTop, m_meanBy, g_tried, g_best, g_found, g_order) [6, 4, 5, 0, 1, 2, 3] hP hD hS rfl (by decide) dX12_laid_44 ⟨(congrArg (fun z9 => z9) hX_100).symm, hpost⟩
set_option maxHeartbeats 40000000 in
set_option maxRecDepth 100000 in
theorem r_empty_0 (l : Launch) (G : va_G) (cA : zCA) (h0 : Nat) (m_status : Int32) (m_thrown : Int32) (m_above : Int64) (m_under : Int64) (a_traySort : Nat) (a_trayMany : Nat) (a_numbers : Nat) (a_tape : Nat) (m_taped : Int32) (m_textEnd : Int32) (m_faultKind : Int32) (m_faultAt : Int32) (m_bad : Int32) (m_badAt : Int32) (m_token : Int32) (m_at : Int32) (m_behind : Int32) (m_number : Int32) (m_letters : Int32) (m_word : Int64) (a_c : Nat) (a_words : Nat) (m_markMany : Int32) (a_there : Nat) (a_tried : Nat) (a_best : Nat) (a_found : Nat) (m_thereMany : Int32) (m_foundMany : Int32) (m_orderHow : Int32) (m_orderRing : Int32) (m_orderMany : Int32) (m_hasBest : Int32) (m_bestTop : Int64) (m_bestBy : Int64) (a_weights : Nat) (a_shared : Nat) (m_random : Int32) (m_truePlace : Int32) (m_trueWay : Int32) (m_seconds : Int32) (m_done : Int32) (m_feelings : Int32) (m_tries : Int32) (m_leftOver : Int32) (m_playDoor : Int32) (m_playRing : Int32) (m_isOpen : Int32) (m_isOver : Int32) (m_wasTried : Int32) (m_hasPlayed : Int32) (a_feltNow : Nat) (a_last : Nat) (a_kept : Nat) (m_hasSeconds : Int32) (m_hasTurned : Int32) (m_hasRound : Int32) (a_hasFeels : Nat) (a_isOn : Nat) (m_firstAct : Int32) (m_meanTop : Int64) (m_meanBy : Int64) (a_order : Nat) (m_rowMany : Int32) (m_newSteps : Int32) (g_c : Nat → Int32) (hZ_g_c : zC g_c) : zCv l yX12_empty cX12_empty 3 none ({ frames := 0, cells := 0, slots := 0, locals := 0 }) G cA [.ref h0, .int 0] [(h0, .inr (12, [.int m_status, .int m_thrown, .long m_above, .long m_under, .ref a_traySort, .ref a_trayMany, .ref a_numbers, .ref a_tape, .int m_taped, .int m_textEnd, .int m_faultKind, .int m_faultAt, .int m_bad, .int m_badAt, .int m_token, .int m_at, .int m_behind, .int m_number, .int m_letters, .long m_word, .ref a_c, .ref a_words, .int m_markMany, .ref a_there, .ref a_tried, .ref a_best, .ref a_found, .int m_thereMany, .int m_foundMany, .int m_orderHow, .int m_orderRing, .int m_orderMany, .int m_hasBest, .long m_bestTop, .long m_bestBy, .ref a_weights, .ref a_shared, .int m_random, .int m_truePlace, .int m_trueWay, .int m_seconds, .int m_done, .int m_feelings, .int m_tries, .int m_leftOver, .int m_playDoor, .int m_playRing, .int m_isOpen, .int m_isOver, .int m_wasTried, .int m_hasPlayed, .ref a_feltNow, .ref a_last, .ref a_kept, .int m_hasSeconds, .int m_hasTurned, .int m_hasRound, .ref a_hasFeels, .ref a_isOn, .int m_firstAct, .long m_meanTop, .long m_meanBy, .ref a_order, .int m_rowMany, .int m_newSteps])), (a_c, .inl (cA.1 0, 1825, .inl g_c))] (S := (Nat → Int32)) (fun (u : (Nat → Int32)) => (u = (F_r_empty_0 g_c)) ∧ ((zC u))) (fun (u : (Nat → Int32)) => [(h0, .inr (12, [.int m_status, .int m_thrown, .long m_above, .long m_under, .ref a_traySort, .ref a_trayMany, .ref a_numbers, .ref a_tape, .int m_taped, .int m_textEnd, .int m_faultKind, .int m_faultAt, .int m_bad, .int m_badAt, .int m_token, .int m_at, .int m_behind, .int m_number, .int m_letters, .long m_word, .ref a_c, .ref a_words, .int m_markMany, .ref a_there, .ref a_tried, .ref a_best, .ref a_found, .int m_thereMany, .int m_foundMany, .int m_orderHow, .int m_orderRing, .int m_orderMany, .int m_hasBest, .long m_bestTop, .long m_bestBy, .ref a_weights, .ref a_shared, .int m_random, .int m_truePlace, .int m_trueWay, .int m_seconds, .int m_done, .int m_feelings, .int m_tries, .int m_leftOver, .int m_playDoor, .int m_playRing, .int m_isOpen, .int m_isOver, .int m_wasTried, .int m_hasPlayed, .ref a_feltNow, .ref a_last, .ref a_kept, .int m_hasSeconds, .int m_hasTurned, .int m_hasRound, .ref a_hasFeels, .ref a_isOn, .int m_firstAct, .long m_meanTop, .long m_meanBy, .ref a_order, .int m_rowMany, .int m_newSteps])), (a_c, .inl (cA.1 0, 1825, .inl u))]) 0 0 := by
  have hk_0 : (0 : Int32).toInt = 0 := by decide +kernel
  have hk_1 : (1 : Int32).toInt = 1 := by decide +kernel
  have hk_180 : (180 : Int32).toInt = 180 := by decide +kernel
  have hC_g_c : zCt g_c := hZ_g_c.1
  refine z_start2v (own := RX12) (by decide) (Nat.le_of_ble_eq_true rfl) rfl ?_
  intro p e s m args below meth c A ls Q hx hb hml hts hown hK hE hT hP hD hS hA hl hret
  have hl : lv_has ls 3 [(0, .ref h0), (1, .int 0)] := hl
  refine lv_iconst (v := 0) hx hb dX12_empty_0 (by decide) ?_
  refine lv_istore_n (lv' := [(2, .int 0), (0, .ref h0), (1, .int 0)]) hx hb dX12_empty_1 rfl hl (by decide) rfl (fun ls hl => ?_)
  have hlp_227 : ∀ (n_L2a : Nat) (v_199 : Int32) (g_200 : Nat → Int32) (H : Heap) (locs : List Loc) (ls : Array Slot), (2147483647 - v_199.toInt).toNat < n_L2a → (0 ≤ v_199.toInt ∧ v_199.toInt ≤ 180) → (zCt g_200) → (zEm g_200 0 v_199.toInt) → (zBh g_c g_200 v_199.toInt) → (F_r_empty_0 g_c = F_r_empty_0_L2a n_L2a v_199 g_200) → va_P G vwCl [(h0, .inr (12, [.int m_status, .int m_thrown, .long m_above, .long m_under, .ref a_traySort, .ref a_trayMany, .ref a_numbers, .ref a_tape, .int m_taped, .int m_textEnd, .int m_faultKind, .int m_faultAt, .int m_bad, .int m_badAt, .int m_token, .int m_at, .int m_behind, .int m_number, .int m_letters, .long m_word, .ref a_c, .ref a_words, .int m_markMany, .ref a_there, .ref a_tried, .ref a_best, .ref a_found, .int m_thereMany, .int m_foundMany, .int m_orderHow, .int m_orderRing, .int m_orderMany, .int m_hasBest, .long m_bestTop, .long m_bestBy, .ref a_weights, .ref a_shared, .int m_random, .int m_truePlace, .int m_trueWay, .int m_seconds, .int m_done, .int m_feelings, .int m_tries, .int m_leftOver, .int m_playDoor, .int m_playRing, .int m_isOpen, .int m_isOver, .int m_wasTried, .int m_hasPlayed, .ref a_feltNow, .ref a_last, .ref a_kept, .int m_hasSeconds, .int m_hasTurned, .int m_hasRound, .ref a_hasFeels, .ref a_isOn, .int m_firstAct, .long m_meanTop, .long m_meanBy, .ref a_order, .int m_rowMany, .int m_newSteps])), (a_c, .inl (cA.1 0, 1825, .inl g_200))] H → va_D A [(h0, .inr (12, [.int m_status, .int m_thrown, .long m_above, .long m_under, .ref a_traySort, .ref a_trayMany, .ref a_numbers, .ref a_tape, .int m_taped, .int m_textEnd, .int m_faultKind, .int m_faultAt, .int m_bad, .int m_badAt, .int m_token, .int m_at, .int m_behind, .int m_number, .int m_letters, .long m_word, .ref a_c, .ref a_words, .int m_markMany, .ref a_there, .ref a_tried, .ref a_best, .ref a_found, .int m_thereMany, .int m_foundMany, .int m_orderHow, .int m_orderRing, .int m_orderMany, .int m_hasBest, .long m_bestTop, .long m_bestBy, .ref a_weights, .ref a_shared, .int m_random, .int m_truePlace, .int m_trueWay, .int m_seconds, .int m_done, .int m_feelings, .int m_tries, .int m_leftOver, .int m_playDoor, .int m_playRing, .int m_isOpen, .int m_isOver, .int m_wasTried, .int m_hasPlayed, .ref a_feltNow, .ref a_last, .ref a_kept, .int m_hasSeconds, .int m_hasTurned, .int m_hasRound, .ref a_hasFeels, .ref a_isOn, .int m_firstAct, .long m_meanTop, .long m_meanBy, .ref a_order, .int m_rowMany, .int m_newSteps])), (a_c, .inl (cA.1 0, 1825, .inl g_200))] → va_S A s.heap H locs → lv_has ls 3 [(0, .ref h0), (1, .int 0), (2, .int v_199)] → W p l e ({ frames := 0, cells := 0, slots := 0, locals := 0 }) s m args below meth c H locs 0 0 Q (F0 m 2 ls []) := by
    intro n_L2a
    induction n_L2a with
    | zero =>
      intro v_199 g_200 H locs ls hmu_hlp_227 hr_v_199 hC_g_200 hi_207 hi_208 hF_L2a hP hD hS hl
      exact absurd hmu_hlp_227 (Nat.not_lt_zero _)
    | succ n_L2a ih_228 =>
      intro v_199 g_200 H locs ls hmu_hlp_227 hr_v_199 hC_g_200 hi_207 hi_208 hF_L2a hP hD hS hl
      refine lv_iload_n hx hb dX12_empty_2 rfl (lv_at hl 2 rfl) ?_
      refine lv_sipush (v := 180) hx hb dX12_empty_3 (by decide) ?_
      refine lv_icmp_ge (tgt := 24) hx hb dX12_empty_6 (by decide) (fun c_229 => ?_) (fun c_229 => ?_)
      · have b_230 := z_fgeT c_229
        have hEz : zEz g_c g_200 := zEz_of hi_207 (by omega) hi_208 (by omega)
        refine lv_aload_n hx hb dX12_empty_24 rfl (lv_at hl 0 rfl) ?_
        refine va_get (D := G) (ci := 12) (v := .ref a_c) (C := RX12) (T := TX12) (N := 65) hx hb hts inT12 hown hK hP 0 rfl rfl 20 (by decide) (hts _ tw_1905) (fun _ h9 => h9) rfl dX12_empty_25 ?_
        refine lv_iload_n hx hb dX12_empty_28 rfl (lv_at hl 1 rfl) ?_
        refine lv_iconst (v := 5) hx hb dX12_empty_29 (by decide) ?_
        refine lv_iadd hx hb dX12_empty_30 ?_
        refine z_topi (y := 5) (by decide +kernel) ?_
        refine lv_iconst (v := 1) hx hb dX12_empty_31 (by decide) ?_
        refine z_iast hx hb hK hP hD hS 1 0 rfl rfl (z_in (i := 5) (n := 1825) (by decide +kernel) (by decide +kernel)) dX12_empty_32 (fun g_231 hg_g_231 H locs hP hD hS => ?_)
        have hC_g_231 := z_ctUkt hC_g_200 hg_g_231 (k := 5) (lo := 0) (hi := 99) (by decide +kernel) (by decide +kernel) (by decide +kernel)
        have hs_232 : zEz g_c g_231 := (zEz_fr hEz hg_g_231 (by decide +kernel) (a := 5) (by decide +kernel) (by decide))
        refine lv_aload_n hx hb dX12_empty_33 rfl (lv_at hl 0 rfl) ?_
        refine va_get (D := G) (ci := 12) (v := .ref a_c) (C := RX12) (T := TX12) (N := 65) hx hb hts inT12 hown hK hP 0 rfl rfl 20 (by decide) (hts _ tw_1905) (fun _ h9 => h9) rfl dX12_empty_34 ?_
        refine lv_iload_n hx hb dX12_empty_37 rfl (lv_at hl 1 rfl) ?_
        refine lv_bipush (v := 6) hx hb dX12_empty_38 (by decide) ?_
        refine lv_iadd hx hb dX12_empty_40 ?_
        refine z_topi (y := 6) (by decide +kernel) ?_
        refine lv_iconst (v := 4) hx hb dX12_empty_41 (by decide) ?_
        refine z_iast hx hb hK hP hD hS 1 0 rfl rfl (z_in (i := 6) (n := 1825) (by decide +kernel) (by decide +kernel)) dX12_empty_42 (fun g_233 hg_g_233 H locs hP hD hS => ?_)
        have hC_g_233 := z_ctUkt hC_g_231 hg_g_233 (k := 6) (lo := 0) (hi := 99) (by decide +kernel) (by decide +kernel) (by decide +kernel)
        have hs_234 : zEz g_c g_233 := (zEz_fr hs_232 hg_g_233 (by decide +kernel) (a := 6) (by decide +kernel) (by decide))
        refine lv_aload_n hx hb dX12_empty_43 rfl (lv_at hl 0 rfl) ?_
        refine va_get (D := G) (ci := 12) (v := .ref a_c) (C := RX12) (T := TX12) (N := 65) hx hb hts inT12 hown hK hP 0 rfl rfl 20 (by decide) (hts _ tw_1905) (fun _ h9 => h9) rfl dX12_empty_44 ?_
        refine lv_iload_n hx hb dX12_empty_47 rfl (lv_at hl 1 rfl) ?_
        refine lv_bipush (v := 7) hx hb dX12_empty_48 (by decide) ?_
        refine lv_iadd hx hb dX12_empty_50 ?_
        refine z_topi (y := 7) (by decide +kernel) ?_
        refine lv_iconst (v := 1) hx hb dX12_empty_51 (by decide) ?_
        refine z_iast hx hb hK hP hD hS 1 0 rfl rfl (z_in (i := 7) (n := 1825) (by decide +kernel) (by decide +kernel)) dX12_empty_52 (fun g_235 hg_g_235 H locs hP hD hS => ?_)
        have hC_g_235 := z_ctUkt hC_g_233 hg_g_235 (k := 7) (lo := 0) (hi := 99) (by decide +kernel) (by decide +kernel) (by decide +kernel)
        have hs_236 : zEz g_c g_235 := (zEz_fr hs_234 hg_g_235 (by decide +kernel) (a := 7) (by decide +kernel) (by decide))
        refine lv_aload_n hx hb dX12_empty_53 rfl (lv_at hl 0 rfl) ?_
        refine va_get (D := G) (ci := 12) (v := .ref a_c) (C := RX12) (T := TX12) (N := 65) hx hb hts inT12 hown hK hP 0 rfl rfl 20 (by decide) (hts _ tw_1905) (fun _ h9 => h9) rfl dX12_empty_54 ?_
        refine lv_iload_n hx hb dX12_empty_57 rfl (lv_at hl 1 rfl) ?_
        refine lv_bipush (v := 8) hx hb dX12_empty_58 (by decide) ?_
        refine lv_iadd hx hb dX12_empty_60 ?_
        refine z_topi (y := 8) (by decide +kernel) ?_
        refine lv_bipush (v := 9) hx hb dX12_empty_61 (by decide) ?_
        refine z_iast hx hb hK hP hD hS 1 0 rfl rfl (z_in (i := 8) (n := 1825) (by decide +kernel) (by decide +kernel)) dX12_empty_63 (fun g_237 hg_g_237 H locs hP hD hS => ?_)
        have hC_g_237 := z_ctUkt hC_g_235 hg_g_237 (k := 8) (lo := 0) (hi := 99) (by decide +kernel) (by decide +kernel) (by decide +kernel)
        have hs_238 : zEz g_c g_237 := (zEz_fr hs_236 hg_g_237 (by decide +kernel) (a := 8) (by decide +kernel) (by decide))
        refine lv_aload_n hx hb dX12_empty_64 rfl (lv_at hl 0 rfl) ?_
        refine va_get (D := G) (ci := 12) (v := .ref a_c) (C := RX12) (T := TX12) (N := 65) hx hb hts inT12 hown hK hP 0 rfl rfl 20 (by decide) (hts _ tw_1905) (fun _ h9 => h9) rfl dX12_empty_65 ?_
        refine lv_iload_n hx hb dX12_empty_68 rfl (lv_at hl 1 rfl) ?_
        refine lv_bipush (v := 9) hx hb dX12_empty_69 (by decide) ?_
        refine lv_iadd hx hb dX12_empty_71 ?_
        refine z_topi (y := 9) (by decide +kernel) ?_
        refine lv_bipush (v := 8) hx hb dX12_empty_72 (by decide) ?_
        refine z_iast hx hb hK hP hD hS 1 0 rfl rfl (z_in (i := 9) (n := 1825) (by decide +kernel) (by decide +kernel)) dX12_empty_74 (fun g_239 hg_g_239 H locs hP hD hS => ?_)
        have hC_g_239 := z_ctUkt hC_g_237 hg_g_239 (k := 9) (lo := 0) (hi := 16) (by decide +kernel) (by decide +kernel) (by decide +kernel)
        have hs_240 : zEz g_c g_239 := (zEz_fr hs_238 hg_g_239 (by decide +kernel) (a := 9) (by decide +kernel) (by decide))
        refine lv_aload_n hx hb dX12_empty_75 rfl (lv_at hl 0 rfl) ?_
        refine va_get (D := G) (ci := 12) (v := .ref a_c) (C := RX12) (T := TX12) (N := 65) hx hb hts inT12 hown hK hP 0 rfl rfl 20 (by decide) (hts _ tw_1905) (fun _ h9 => h9) rfl dX12_empty_76 ?_
        refine lv_iload_n hx hb dX12_empty_79 rfl (lv_at hl 1 rfl) ?_
        refine lv_bipush (v := 10) hx hb dX12_empty_80 (by decide) ?_
        refine lv_iadd hx hb dX12_empty_82 ?_
        refine z_topi (y := 10) (by decide +kernel) ?_
        refine lv_iconst (v := (-1)) hx hb dX12_empty_83 (by decide) ?_
        refine z_iast hx hb hK hP hD hS 1 0 rfl rfl (z_in (i := 10) (n := 1825) (by decide +kernel) (by decide +kernel)) dX12_empty_84 (fun g_241 hg_g_241 H locs hP hD hS => ?_)
        have hC_g_241 := z_ctUkt hC_g_239 hg_g_241 (k := 10) (lo := (-1)) (hi := 2) (by decide +kernel) (by decide +kernel) (by decide +kernel)
        have hs_242 : zEz g_c g_241 := (zEz_fr hs_240 hg_g_241 (by decide +kernel) (a := 10) (by decide +kernel) (by decide))
        have hpost : (zC g_241) := (zEz_zC hZ_g_c hC_g_241 hs_242)
        have hX_243 : F_r_empty_0 g_c = (g_241 : (Nat → Int32)) := by
          refine hF_L2a.trans ?_
          refine (F_r_empty_0_L2a_s ..).trans ?_
          refine (if_pos c_229).trans ?_
          try (extract_lets -merge -useContext +onlyGivenNames y9; have e9 : g_231 = y9 := (by first | exact hg_g_231 | exact hg_g_231.symm); clear_value y9; subst e9)
          try (extract_lets -merge -useContext +onlyGivenNames y9; have e9 : g_233 = y9 := (by first | exact hg_g_233 | exact hg_g_233.symm); clear_value y9; subst e9)
          try (extract_lets -merge -useContext +onlyGivenNames y9; have e9 : g_235 = y9 := (by first | exact hg_g_235 | exact hg_g_235.symm); clear_value y9; subst e9)
          try (extract_lets -merge -useContext +onlyGivenNames y9; have e9 : g_237 = y9 := (by first | exact hg_g_237 | exact hg_g_237.symm); clear_value y9; subst e9)
          try (extract_lets -merge -useContext +onlyGivenNames y9; have e9 : g_239 = y9 := (by first | exact hg_g_239 | exact hg_g_239.symm); clear_value y9; subst e9)
          try (extract_lets -merge -useContext +onlyGivenNames y9; have e9 : g_241 = y9 := (by first | exact hg_g_241 | exact hg_g_241.symm); clear_value y9; subst e9)
          exact rfl
        exact hret _ _ _ _ _ g_241 [0, 1] hP hD hS rfl (by decide) dX12_empty_85 ⟨(congrArg (fun z9 => z9) hX_243).symm, hpost⟩
      · have b_244 := z_fltF c_229
        refine lv_aload_n hx hb dX12_empty_9 rfl (lv_at hl 0 rfl) ?_
        refine va_get (D := G) (ci := 12) (v := .ref a_c) (C := RX12) (T := TX12) (N := 65) hx hb hts inT12 hown hK hP 0 rfl rfl 20 (by decide) (hts _ tw_1905) (fun _ h9 => h9) rfl dX12_empty_10 ?_
        refine lv_iload_n hx hb dX12_empty_13 rfl (lv_at hl 1 rfl) ?_
        refine lv_iload_n hx hb dX12_empty_14 rfl (lv_at hl 2 rfl) ?_
        refine lv_iadd hx hb dX12_empty_15 ?_
        refine lv_topi (fun x_245 he_x_245 => ?_)
        have hq_x_245 := z_addq he_x_245 hk_0 (rfl : v_199.toInt = _) (by omega) (by omega)
        refine lv_iconst (v := 0) hx hb dX12_empty_16 (by decide) ?_
        refine z_iast hx hb hK hP hD hS 1 0 rfl rfl (z_inN (by omega) (by omega)) dX12_empty_17 (fun g_246 hg_g_246 H locs hP hD hS => ?_)
        have hC_g_246 := z_ctUt hC_g_200 hg_g_246 (a := 0) (b := 179) (lo := 0) (hi := 1) (by decide +kernel) (by omega) (by omega) (by decide +kernel)
        obtain ⟨x_247, he_x_247⟩ : ∃ z : Int32, z = v_199 + 1 := ⟨_, rfl⟩
        have hq_x_247 := z_addq he_x_247 (rfl : v_199.toInt = _) hk_1 (by omega) (by omega)
        refine lv_iinc (v := x_247) (lv' := [(2, .int x_247), (0, .ref h0), (1, .int 0)]) hx hb dX12_empty_18 hl (k := 2) rfl ((z_ofi (by decide +kernel)).trans he_x_247.symm) (by decide) rfl (fun ls hl => ?_)
        refine lv_goto (tgt := 2) hx hb dX12_empty_21 (by decide) ?_
        have hX_248 : F_r_empty_0 g_c = F_r_empty_0_L2a n_L2a x_247 g_246 := by
          refine hF_L2a.trans ?_
          refine (F_r_empty_0_L2a_s ..).trans ?_
          refine (if_neg c_229).trans ?_
          try (extract_lets -merge -useContext +onlyGivenNames y9; have e9 : x_245 = y9 := (by first | exact he_x_245 | exact he_x_245.symm); clear_value y9; subst e9)
          try (extract_lets -merge -useContext +onlyGivenNames y9; have e9 : g_246 = y9 := (by first | exact hg_g_246 | exact hg_g_246.symm); clear_value y9; subst e9)
          try (extract_lets -merge -useContext +onlyGivenNames y9; have e9 : x_247 = y9 := (by first | exact he_x_247 | exact he_x_247.symm); clear_value y9; subst e9)
          exact rfl
        exact ih_228 x_247 g_246 H locs ls (by omega) (by omega) hC_g_246 (by rw [hq_x_247]; exact zEm_step hi_207 hg_g_246 (by omega) (by omega) (by omega) (by decide +kernel)) (by rw [hq_x_247]; exact zBh_step hi_208 hg_g_246 (by omega) (by omega)) hX_248 hP hD hS (lv_sub hl [1, 2, 0] rfl)
  have hX_249 : F_r_empty_0 g_c = F_r_empty_0_L2a ((2147483647 - (0 : Int32).toInt).toNat + 1) (0 : Int32) g_c := by
    refine (F_r_empty_0_s ..).trans ?_
    exact rfl
  exact hlp_227 ((2147483647 - (0 : Int32).toInt).toNat + 1) 0 g_c _ _ _ (Nat.lt_succ_self _) (by decide +kernel) hC_g_c zEm_0 (fun _ _ => rfl) hX_249 hP hD hS (lv_sub hl [1, 2, 0] rfl)
theorem z_k5 {k : Int32} (h1 : 0 ≤ k.toInt) (h2 : k.toInt ≤ 4) : k = 0 ∨ k = 1 ∨ k = 2 ∨ k = 3 ∨ k = 4 := by
  have e0 : (0 : Int32).toInt = 0 := by decide +kernel
  have e1 : (1 : Int32).toInt = 1 := by decide +kernel
  have e2 : (2 : Int32).toInt = 2 := by decide +kernel
  have e3 : (3 : Int32).toInt = 3 := by decide +kernel
  have e4 : (4 : Int32).toInt = 4 := by decide +kernel
  rcases (show k.toInt = 0 ∨ k.toInt = 1 ∨ k.toInt = 2 ∨ k.toInt = 3 ∨ k.toInt = 4 by omega) with h | h | h | h | h
  · exact Or.inl (Int32.toInt_inj.mp (by rw [h, e0]))
  · exact Or.inr (Or.inl (Int32.toInt_inj.mp (by rw [h, e1])))
  · exact Or.inr (Or.inr (Or.inl (Int32.toInt_inj.mp (by rw [h, e2]))))
  · exact Or.inr (Or.inr (Or.inr (Or.inl (Int32.toInt_inj.mp (by rw [h, e3])))))
  · exact Or.inr (Or.inr (Or.inr (Or.inr (Int32.toInt_inj.mp (by rw [h, e4])))))
set_option maxHeartbeats 4000000 in
set_option maxRecDepth 100000 in
theorem r_findWorth_0 (l : Launch) (G : va_G) (cA : zCA) (h0 : Nat) (m_status : Int32) (m_thrown : Int32) (m_above : Int64) (m_under : Int64) (a_traySort : Nat) (a_trayMany : Nat) (a_numbers : Nat) (a_tape : Nat) (m_taped : Int32) (m_textEnd : Int32) (m_faultKind : Int32) (m_faultAt : Int32) (m_bad : Int32) (m_badAt : Int32) (m_token : Int32) (m_at : Int32) (m_behind : Int32) (m_number : Int32) (m_letters : Int32) (m_word : Int64) (a_c : Nat) (a_words : Nat) (m_markMany : Int32) (a_there : Nat) (a_tried : Nat) (a_best : Nat) (a_found : Nat) (m_thereMany : Int32) (m_foundMany : Int32) (m_orderHow : Int32) (m_orderRing : Int32) (m_orderMany : Int32) (m_hasBest : Int32) (m_bestTop : Int64) (m_bestBy : Int64) (a_weights : Nat) (a_shared : Nat) (m_random : Int32) (m_truePlace : Int32) (m_trueWay : Int32) (m_seconds : Int32) (m_done : Int32) (m_feelings : Int32) (m_tries : Int32) (m_leftOver : Int32) (m_playDoor : Int32) (m_playRing : Int32) (m_isOpen : Int32) (m_isOver : Int32) (m_wasTried : Int32) (m_hasPlayed : Int32) (a_feltNow : Nat) (a_last : Nat) (a_kept : Nat) (m_hasSeconds : Int32) (m_hasTurned : Int32) (m_hasRound : Int32) (a_hasFeels : Nat) (a_isOn : Nat) (m_firstAct : Int32) (m_meanTop : Int64) (m_meanBy : Int64) (a_order : Nat) (m_rowMany : Int32) (m_newSteps : Int32) (g_c : Nat → Int32) (g_weights : Nat → Int64) (d : Int32) (hr_d : 0 ≤ d.toInt ∧ d.toInt ≤ 4) (hr_m_thereMany : 0 ≤ m_thereMany.toInt ∧ m_thereMany.toInt ≤ 10) (hC_g_c : zC g_c) : zCl l yX12_findWorth cX12_findWorth 4 (some .long) ({ frames := 1, cells := 0, slots := 0, locals := 29 }) G cA [.ref h0, .int d, .int 0] [(h0, .inr (12, [.int m_status, .int m_thrown, .long m_above, .long m_under, .ref a_traySort, .ref a_trayMany, .ref a_numbers, .ref a_tape, .int m_taped, .int m_textEnd, .int m_faultKind, .int m_faultAt, .int m_bad, .int m_badAt, .int m_token, .int m_at, .int m_behind, .int m_number, .int m_letters, .long m_word, .ref a_c, .ref a_words, .int m_markMany, .ref a_there, .ref a_tried, .ref a_best, .ref a_found, .int m_thereMany, .int m_foundMany, .int m_orderHow, .int m_orderRing, .int m_orderMany, .int m_hasBest, .long m_bestTop, .long m_bestBy, .ref a_weights, .ref a_shared, .int m_random, .int m_truePlace, .int m_trueWay, .int m_seconds, .int m_done, .int m_feelings, .int m_tries, .int m_leftOver, .int m_playDoor, .int m_playRing, .int m_isOpen, .int m_isOver, .int m_wasTried, .int m_hasPlayed, .ref a_feltNow, .ref a_last, .ref a_kept, .int m_hasSeconds, .int m_hasTurned, .int m_hasRound, .ref a_hasFeels, .ref a_isOn, .int m_firstAct, .long m_meanTop, .long m_meanBy, .ref a_order, .int m_rowMany, .int m_newSteps])), (a_c, .inl (cA.1 0, 1825, .inl g_c)), (a_weights, .inl (cA.1 1, 100, .inr (.inl g_weights)))] (S := (Nat → Int64)) (fun (r : Int64) (u : (Nat → Int64)) => (0 ≤ r.toInt ∧ r.toInt ≤ 0)) (fun (u : (Nat → Int64)) => [(h0, .inr (12, [.int m_status, .int m_thrown, .long m_above, .long m_under, .ref a_traySort, .ref a_trayMany, .ref a_numbers, .ref a_tape, .int m_taped, .int m_textEnd, .int m_faultKind, .int m_faultAt, .int m_bad, .int m_badAt, .int m_token, .int m_at, .int m_behind, .int m_number, .int m_letters, .long m_word, .ref a_c, .ref a_words, .int m_markMany, .ref a_there, .ref a_tried, .ref a_best, .ref a_found, .int m_thereMany, .int m_foundMany, .int m_orderHow, .int m_orderRing, .int m_orderMany, .int m_hasBest, .long m_bestTop, .long m_bestBy, .ref a_weights, .ref a_shared, .int m_random, .int m_truePlace, .int m_trueWay, .int m_seconds, .int m_done, .int m_feelings, .int m_tries, .int m_leftOver, .int m_playDoor, .int m_playRing, .int m_isOpen, .int m_isOver, .int m_wasTried, .int m_hasPlayed, .ref a_feltNow, .ref a_last, .ref a_kept, .int m_hasSeconds, .int m_hasTurned, .int m_hasRound, .ref a_hasFeels, .ref a_isOn, .int m_firstAct, .long m_meanTop, .long m_meanBy, .ref a_order, .int m_rowMany, .int m_newSteps])), (a_c, .inl (cA.1 0, 1825, .inl g_c)), (a_weights, .inl (cA.1 1, 100, .inr (.inl u)))]) 0 0 := by
  have hk_0 : (0 : Int32).toInt = 0 := by decide +kernel
  have hk_1 : (1 : Int32).toInt = 1 := by decide +kernel
  have hk_2 : (2 : Int32).toInt = 2 := by decide +kernel
  have hk_160 : (160 : Int32).toInt = 160 := by decide +kernel
  refine z_start2l (own := RX12) (by decide) (Nat.le_of_ble_eq_true rfl) rfl ?_
  intro p e s m args below meth c A ls Q hx hb hml hts hown hK hE hT hP hD hS hA hl hret
  have hl : lv_has ls 4 [(0, .ref h0), (1, .int d), (2, .int 0)] := hl
  refine lv_iconst (v := 0) hx hb dX12_findWorth_0 (by decide) ?_
  refine lv_istore_n (lv' := [(3, .int 0), (0, .ref h0), (1, .int d), (2, .int 0)]) hx hb dX12_findWorth_1 rfl hl (by decide) rfl (fun ls hl => ?_)
  have hlp_30 : ∀ (n : Nat) (v_19 : Int32) (g_20 : Nat → Int64) (H : Heap) (locs : List Loc) (ls : Array Slot), (2147483647 - v_19.toInt).toNat < n → (0 ≤ v_19.toInt ∧ v_19.toInt ≤ 20) → va_P G vwCl [(h0, .inr (12, [.int m_status, .int m_thrown, .long m_above, .long m_under, .ref a_traySort, .ref a_trayMany, .ref a_numbers, .ref a_tape, .int m_taped, .int m_textEnd, .int m_faultKind, .int m_faultAt, .int m_bad, .int m_badAt, .int m_token, .int m_at, .int m_behind, .int m_number, .int m_letters, .long m_word, .ref a_c, .ref a_words, .int m_markMany, .ref a_there, .ref a_tried, .ref a_best, .ref a_found, .int m_thereMany, .int m_foundMany, .int m_orderHow, .int m_orderRing, .int m_orderMany, .int m_hasBest, .long m_bestTop, .long m_bestBy, .ref a_weights, .ref a_shared, .int m_random, .int m_truePlace, .int m_trueWay, .int m_seconds, .int m_done, .int m_feelings, .int m_tries, .int m_leftOver, .int m_playDoor, .int m_playRing, .int m_isOpen, .int m_isOver, .int m_wasTried, .int m_hasPlayed, .ref a_feltNow, .ref a_last, .ref a_kept, .int m_hasSeconds, .int m_hasTurned, .int m_hasRound, .ref a_hasFeels, .ref a_isOn, .int m_firstAct, .long m_meanTop, .long m_meanBy, .ref a_order, .int m_rowMany, .int m_newSteps])), (a_c, .inl (cA.1 0, 1825, .inl g_c)), (a_weights, .inl (cA.1 1, 100, .inr (.inl g_20)))] H → va_D A [(h0, .inr (12, [.int m_status, .int m_thrown, .long m_above, .long m_under, .ref a_traySort, .ref a_trayMany, .ref a_numbers, .ref a_tape, .int m_taped, .int m_textEnd, .int m_faultKind, .int m_faultAt, .int m_bad, .int m_badAt, .int m_token, .int m_at, .int m_behind, .int m_number, .int m_letters, .long m_word, .ref a_c, .ref a_words, .int m_markMany, .ref a_there, .ref a_tried, .ref a_best, .ref a_found, .int m_thereMany, .int m_foundMany, .int m_orderHow, .int m_orderRing, .int m_orderMany, .int m_hasBest, .long m_bestTop, .long m_bestBy, .ref a_weights, .ref a_shared, .int m_random, .int m_truePlace, .int m_trueWay, .int m_seconds, .int m_done, .int m_feelings, .int m_tries, .int m_leftOver, .int m_playDoor, .int m_playRing, .int m_isOpen, .int m_isOver, .int m_wasTried, .int m_hasPlayed, .ref a_feltNow, .ref a_last, .ref a_kept, .int m_hasSeconds, .int m_hasTurned, .int m_hasRound, .ref a_hasFeels, .ref a_isOn, .int m_firstAct, .long m_meanTop, .long m_meanBy, .ref a_order, .int m_rowMany, .int m_newSteps])), (a_c, .inl (cA.1 0, 1825, .inl g_c)), (a_weights, .inl (cA.1 1, 100, .inr (.inl g_20)))] → va_S A s.heap H locs → lv_has ls 4 [(0, .ref h0), (1, .int d), (2, .int 0), (3, .int v_19)] → W p l e ({ frames := 1, cells := 0, slots := 0, locals := 29 }) s m args below meth c H locs 0 0 Q (F0 m 2 ls []) := by
    intro n
    induction n with
    | zero =>
      intro v_19 g_20 H locs ls hmu_hlp_30 hr_v_19 hP hD hS hl
      exact absurd hmu_hlp_30 (Nat.not_lt_zero _)
    | succ n ih_31 =>
      intro v_19 g_20 H locs ls hmu_hlp_30 hr_v_19 hP hD hS hl
      refine lv_iload_n hx hb dX12_findWorth_2 rfl (lv_at hl 3 rfl) ?_
      refine lv_iconst (v := 2) hx hb dX12_findWorth_3 (by decide) ?_
      refine lv_aload_n hx hb dX12_findWorth_4 rfl (lv_at hl 0 rfl) ?_
      refine va_get (D := G) (ci := 12) (v := .int m_thereMany) (C := RX12) (T := TX12) (N := 65) hx hb hts inT12 hown hK hP 0 rfl rfl 27 (by decide) (hts _ tw_1912) (fun _ h9 => h9) rfl dX12_findWorth_5 ?_
      refine lv_imul hx hb dX12_findWorth_8 ?_
      refine lv_topi (fun x_32 he_x_32 => ?_)
      have hq_x_32 := z_mulq he_x_32 hk_2 (rfl : m_thereMany.toInt = _) (by omega) (by omega)
      refine lv_icmp_ge (tgt := 35) hx hb dX12_findWorth_9 (by decide) (fun c_33 => ?_) (fun c_33 => ?_)
      · have b_34 := z_fgeT c_33
        refine lv_aload_n hx hb dX12_findWorth_35 rfl (lv_at hl 0 rfl) ?_
        refine lv_iconst (v := 0) hx hb dX12_findWorth_36 (by decide) ?_
        refine lv_iload_n hx hb dX12_findWorth_37 rfl (lv_at hl 2 rfl) ?_
        refine lv_iload_n hx hb dX12_findWorth_38 rfl (lv_at hl 1 rfl) ?_
        refine z_callVl (As := [.int 0, .int 0, .int d]) (rest := []) (wr := [(a_c, .inl (cA.1 0, 1825, .inl g_c)), (a_weights, .inl (cA.1 1, 100, .inr (.inl g_20)))]) ⟨hx, hb, hml, hown, hts⟩ hK hE hT hP hD hS hA (r_worthOf_0 l G cA h0 m_status m_thrown m_above m_under a_traySort a_trayMany a_numbers a_tape m_taped m_textEnd m_faultKind m_faultAt m_bad m_badAt m_token m_at m_behind m_number m_letters m_word a_c a_words m_markMany a_there a_tried a_best a_found m_thereMany m_foundMany m_orderHow m_orderRing m_orderMany m_hasBest m_bestTop m_bestBy a_weights a_shared m_random m_truePlace m_trueWay m_seconds m_done m_feelings m_tries m_leftOver m_playDoor m_playRing m_isOpen m_isOver m_wasTried m_hasPlayed a_feltNow a_last a_kept m_hasSeconds m_hasTurned m_hasRound a_hasFeels a_isOn m_firstAct m_meanTop m_meanBy a_order m_rowMany m_newSteps 0 d (by decide +kernel) hr_d) lk_RX12_379 ⟨rfl, rfl⟩ ⟨Nat.le_of_ble_eq_true rfl, Nat.le_of_ble_eq_true rfl⟩ 12 rfl rfl rfl [0] [1, 2] rfl rfl (by decide) rfl hl.1 rfl (lv_room (Nat.le_of_ble_eq_true rfl)) dX12_findWorth_39 ⟨Nat.le_of_ble_eq_true rfl, Nat.le_of_ble_eq_true rfl⟩ (fun r_35 u_36 H locs hw hP hD hS => ?_)
        have hr_r_35 := hw
        have hpost : (0 ≤ r_35.toInt ∧ r_35.toInt ≤ 0) := hr_r_35
        exact hret _ _ _ _ _ _ g_20 [2, 0, 1] hP hD hS rfl (by decide) dX12_findWorth_42 hpost
      · have b_37 := z_fltF c_33
        refine lv_aload_n hx hb dX12_findWorth_12 rfl (lv_at hl 0 rfl) ?_
        refine va_get (D := G) (ci := 12) (v := .ref a_weights) (C := RX12) (T := TX12) (N := 65) hx hb hts inT12 hown hK hP 0 rfl rfl 35 (by decide) (hts _ tw_1919) (fun _ h9 => h9) rfl dX12_findWorth_13 ?_
        refine lv_iload_n hx hb dX12_findWorth_16 rfl (lv_at hl 3 rfl) ?_
        refine lv_aload_n hx hb dX12_findWorth_17 rfl (lv_at hl 0 rfl) ?_
        refine va_get (D := G) (ci := 12) (v := .ref a_c) (C := RX12) (T := TX12) (N := 65) hx hb hts inT12 hown hK hP 0 rfl rfl 20 (by decide) (hts _ tw_1905) (fun _ h9 => h9) rfl dX12_findWorth_18 ?_
        refine lv_sipush (v := 160) hx hb dX12_findWorth_21 (by decide) ?_
        refine lv_iload_n hx hb dX12_findWorth_24 rfl (lv_at hl 3 rfl) ?_
        refine lv_iadd hx hb dX12_findWorth_25 ?_
        refine lv_topi (fun x_38 he_x_38 => ?_)
        have hq_x_38 := z_addq he_x_38 hk_160 (rfl : v_19.toInt = _) (by omega) (by omega)
        refine va_iald hx hb hK hP 1 0 rfl rfl (z_inN (by omega) (by omega)) dX12_findWorth_26 ?_
        refine lv_topi (fun x_39 he_x_39 => ?_)
        refine lv_i2l (v := (x_39).toInt64) hx hb dX12_findWorth_27 rfl ?_
        refine lv_topl (fun x_40 he_x_40 => ?_)
        have hq_x_40 := z_i2l he_x_40
        have hL_x_39 := z_full x_39
        refine z_last hx hb hK hP hD hS 2 1 rfl rfl (z_inN (by omega) (by omega)) dX12_findWorth_28 (fun g_41 hg_g_41 H locs hP hD hS => ?_)
        obtain ⟨x_42, he_x_42⟩ : ∃ z : Int32, z = v_19 + 1 := ⟨_, rfl⟩
        have hq_x_42 := z_addq he_x_42 (rfl : v_19.toInt = _) hk_1 (by omega) (by omega)
        refine lv_iinc (v := x_42) (lv' := [(3, .int x_42), (0, .ref h0), (1, .int d), (2, .int 0)]) hx hb dX12_findWorth_29 hl (k := 3) rfl ((z_ofi (by decide +kernel)).trans he_x_42.symm) (by decide) rfl (fun ls hl => ?_)
        refine lv_goto (tgt := 2) hx hb dX12_findWorth_32 (by decide) ?_
        exact ih_31 x_42 g_41 H locs ls (by omega) (by omega) hP hD hS (lv_sub hl [1, 2, 3, 0] rfl)
  exact hlp_30 _ 0 g_weights _ _ _ (Nat.lt_succ_self _) (by decide +kernel) hP hD hS (lv_sub hl [1, 2, 3, 0] rfl)
set_option maxHeartbeats 4000000 in
set_option maxRecDepth 100000 in
theorem r_findWorth_1 (l : Launch) (G : va_G) (cA : zCA) (h0 : Nat) (m_status : Int32) (m_thrown : Int32) (m_above : Int64) (m_under : Int64) (a_traySort : Nat) (a_trayMany : Nat) (a_numbers : Nat) (a_tape : Nat) (m_taped : Int32) (m_textEnd : Int32) (m_faultKind : Int32) (m_faultAt : Int32) (m_bad : Int32) (m_badAt : Int32) (m_token : Int32) (m_at : Int32) (m_behind : Int32) (m_number : Int32) (m_letters : Int32) (m_word : Int64) (a_c : Nat) (a_words : Nat) (m_markMany : Int32) (a_there : Nat) (a_tried : Nat) (a_best : Nat) (a_found : Nat) (m_thereMany : Int32) (m_foundMany : Int32) (m_orderHow : Int32) (m_orderRing : Int32) (m_orderMany : Int32) (m_hasBest : Int32) (m_bestTop : Int64) (m_bestBy : Int64) (a_weights : Nat) (a_shared : Nat) (m_random : Int32) (m_truePlace : Int32) (m_trueWay : Int32) (m_seconds : Int32) (m_done : Int32) (m_feelings : Int32) (m_tries : Int32) (m_leftOver : Int32) (m_playDoor : Int32) (m_playRing : Int32) (m_isOpen : Int32) (m_isOver : Int32) (m_wasTried : Int32) (m_hasPlayed : Int32) (a_feltNow : Nat) (a_last : Nat) (a_kept : Nat) (m_hasSeconds : Int32) (m_hasTurned : Int32) (m_hasRound : Int32) (a_hasFeels : Nat) (a_isOn : Nat) (m_firstAct : Int32) (m_meanTop : Int64) (m_meanBy : Int64) (a_order : Nat) (m_rowMany : Int32) (m_newSteps : Int32) (g_c : Nat → Int32) (g_there : Nat → Int32) (g_weights : Nat → Int64) (d : Int32) (hr_d : 0 ≤ d.toInt ∧ d.toInt ≤ 4) (hr_m_thereMany : 0 ≤ m_thereMany.toInt ∧ m_thereMany.toInt ≤ 10) (hC_g_c : zC g_c) (hC_g_there : zRg 10 0 9 g_there) : zCl l yX12_findWorth cX12_findWorth 4 (some .long) ({ frames := 4, cells := 0, slots := 0, locals := 105 }) G cA [.ref h0, .int d, .int 1] [(h0, .inr (12, [.int m_status, .int m_thrown, .long m_above, .long m_under, .ref a_traySort, .ref a_trayMany, .ref a_numbers, .ref a_tape, .int m_taped, .int m_textEnd, .int m_faultKind, .int m_faultAt, .int m_bad, .int m_badAt, .int m_token, .int m_at, .int m_behind, .int m_number, .int m_letters, .long m_word, .ref a_c, .ref a_words, .int m_markMany, .ref a_there, .ref a_tried, .ref a_best, .ref a_found, .int m_thereMany, .int m_foundMany, .int m_orderHow, .int m_orderRing, .int m_orderMany, .int m_hasBest, .long m_bestTop, .long m_bestBy, .ref a_weights, .ref a_shared, .int m_random, .int m_truePlace, .int m_trueWay, .int m_seconds, .int m_done, .int m_feelings, .int m_tries, .int m_leftOver, .int m_playDoor, .int m_playRing, .int m_isOpen, .int m_isOver, .int m_wasTried, .int m_hasPlayed, .ref a_feltNow, .ref a_last, .ref a_kept, .int m_hasSeconds, .int m_hasTurned, .int m_hasRound, .ref a_hasFeels, .ref a_isOn, .int m_firstAct, .long m_meanTop, .long m_meanBy, .ref a_order, .int m_rowMany, .int m_newSteps])), (a_c, .inl (cA.1 0, 1825, .inl g_c)), (a_there, .inl (cA.1 0, 10, .inl g_there)), (a_weights, .inl (cA.1 1, 100, .inr (.inl g_weights)))] (S := Int32 × (Nat → Int64)) (fun (r : Int64) (u : Int32 × (Nat → Int64)) => True) (fun (u : Int32 × (Nat → Int64)) => [(h0, .inr (12, [.int m_status, .int m_thrown, .long m_above, .long m_under, .ref a_traySort, .ref a_trayMany, .ref a_numbers, .ref a_tape, .int m_taped, .int m_textEnd, .int m_faultKind, .int m_faultAt, .int m_bad, .int m_badAt, .int m_token, .int m_at, .int m_behind, .int m_number, .int m_letters, .long m_word, .ref a_c, .ref a_words, .int m_markMany, .ref a_there, .ref a_tried, .ref a_best, .ref a_found, .int m_thereMany, .int m_foundMany, .int m_orderHow, .int m_orderRing, .int m_orderMany, .int m_hasBest, .long m_bestTop, .long m_bestBy, .ref a_weights, .ref a_shared, .int m_random, .int m_truePlace, .int m_trueWay, .int m_seconds, .int m_done, .int m_feelings, .int m_tries, .int m_leftOver, .int m_playDoor, .int m_playRing, .int m_isOpen, .int m_isOver, .int m_wasTried, .int m_hasPlayed, .ref a_feltNow, .ref a_last, .ref a_kept, .int m_hasSeconds, .int m_hasTurned, .int m_hasRound, .ref a_hasFeels, .ref a_isOn, .int u.1, .long m_meanTop, .long m_meanBy, .ref a_order, .int m_rowMany, .int m_newSteps])), (a_c, .inl (cA.1 0, 1825, .inl g_c)), (a_there, .inl (cA.1 0, 10, .inl g_there)), (a_weights, .inl (cA.1 1, 100, .inr (.inl u.2)))]) 0 0 := by
  have hk_0 : (0 : Int32).toInt = 0 := by decide +kernel
  have hk_1 : (1 : Int32).toInt = 1 := by decide +kernel
  have hk_2 : (2 : Int32).toInt = 2 := by decide +kernel
  have hk_160 : (160 : Int32).toInt = 160 := by decide +kernel
  refine z_start2l (own := RX12) (by decide) (Nat.le_of_ble_eq_true rfl) rfl ?_
  intro p e s m args below meth c A ls Q hx hb hml hts hown hK hE hT hP hD hS hA hl hret
  have hl : lv_has ls 4 [(0, .ref h0), (1, .int d), (2, .int 1)] := hl
  refine lv_iconst (v := 0) hx hb dX12_findWorth_0 (by decide) ?_
  refine lv_istore_n (lv' := [(3, .int 0), (0, .ref h0), (1, .int d), (2, .int 1)]) hx hb dX12_findWorth_1 rfl hl (by decide) rfl (fun ls hl => ?_)
  have hlp_30 : ∀ (n : Nat) (v_19 : Int32) (g_20 : Nat → Int64) (H : Heap) (locs : List Loc) (ls : Array Slot), (2147483647 - v_19.toInt).toNat < n → (0 ≤ v_19.toInt ∧ v_19.toInt ≤ 20) → va_P G vwCl [(h0, .inr (12, [.int m_status, .int m_thrown, .long m_above, .long m_under, .ref a_traySort, .ref a_trayMany, .ref a_numbers, .ref a_tape, .int m_taped, .int m_textEnd, .int m_faultKind, .int m_faultAt, .int m_bad, .int m_badAt, .int m_token, .int m_at, .int m_behind, .int m_number, .int m_letters, .long m_word, .ref a_c, .ref a_words, .int m_markMany, .ref a_there, .ref a_tried, .ref a_best, .ref a_found, .int m_thereMany, .int m_foundMany, .int m_orderHow, .int m_orderRing, .int m_orderMany, .int m_hasBest, .long m_bestTop, .long m_bestBy, .ref a_weights, .ref a_shared, .int m_random, .int m_truePlace, .int m_trueWay, .int m_seconds, .int m_done, .int m_feelings, .int m_tries, .int m_leftOver, .int m_playDoor, .int m_playRing, .int m_isOpen, .int m_isOver, .int m_wasTried, .int m_hasPlayed, .ref a_feltNow, .ref a_last, .ref a_kept, .int m_hasSeconds, .int m_hasTurned, .int m_hasRound, .ref a_hasFeels, .ref a_isOn, .int m_firstAct, .long m_meanTop, .long m_meanBy, .ref a_order, .int m_rowMany, .int m_newSteps])), (a_c, .inl (cA.1 0, 1825, .inl g_c)), (a_there, .inl (cA.1 0, 10, .inl g_there)), (a_weights, .inl (cA.1 1, 100, .inr (.inl g_20)))] H → va_D A [(h0, .inr (12, [.int m_status, .int m_thrown, .long m_above, .long m_under, .ref a_traySort, .ref a_trayMany, .ref a_numbers, .ref a_tape, .int m_taped, .int m_textEnd, .int m_faultKind, .int m_faultAt, .int m_bad, .int m_badAt, .int m_token, .int m_at, .int m_behind, .int m_number, .int m_letters, .long m_word, .ref a_c, .ref a_words, .int m_markMany, .ref a_there, .ref a_tried, .ref a_best, .ref a_found, .int m_thereMany, .int m_foundMany, .int m_orderHow, .int m_orderRing, .int m_orderMany, .int m_hasBest, .long m_bestTop, .long m_bestBy, .ref a_weights, .ref a_shared, .int m_random, .int m_truePlace, .int m_trueWay, .int m_seconds, .int m_done, .int m_feelings, .int m_tries, .int m_leftOver, .int m_playDoor, .int m_playRing, .int m_isOpen, .int m_isOver, .int m_wasTried, .int m_hasPlayed, .ref a_feltNow, .ref a_last, .ref a_kept, .int m_hasSeconds, .int m_hasTurned, .int m_hasRound, .ref a_hasFeels, .ref a_isOn, .int m_firstAct, .long m_meanTop, .long m_meanBy, .ref a_order, .int m_rowMany, .int m_newSteps])), (a_c, .inl (cA.1 0, 1825, .inl g_c)), (a_there, .inl (cA.1 0, 10, .inl g_there)), (a_weights, .inl (cA.1 1, 100, .inr (.inl g_20)))] → va_S A s.heap H locs → lv_has ls 4 [(0, .ref h0), (1, .int d), (2, .int 1), (3, .int v_19)] → W p l e ({ frames := 4, cells := 0, slots := 0, locals := 105 }) s m args below meth c H locs 0 0 Q (F0 m 2 ls []) := by
    intro n
    induction n with
    | zero =>
      intro v_19 g_20 H locs ls hmu_hlp_30 hr_v_19 hP hD hS hl
      exact absurd hmu_hlp_30 (Nat.not_lt_zero _)
    | succ n ih_31 =>
      intro v_19 g_20 H locs ls hmu_hlp_30 hr_v_19 hP hD hS hl
      refine lv_iload_n hx hb dX12_findWorth_2 rfl (lv_at hl 3 rfl) ?_
      refine lv_iconst (v := 2) hx hb dX12_findWorth_3 (by decide) ?_
      refine lv_aload_n hx hb dX12_findWorth_4 rfl (lv_at hl 0 rfl) ?_
      refine va_get (D := G) (ci := 12) (v := .int m_thereMany) (C := RX12) (T := TX12) (N := 65) hx hb hts inT12 hown hK hP 0 rfl rfl 27 (by decide) (hts _ tw_1912) (fun _ h9 => h9) rfl dX12_findWorth_5 ?_
      refine lv_imul hx hb dX12_findWorth_8 ?_
      refine lv_topi (fun x_32 he_x_32 => ?_)
      have hq_x_32 := z_mulq he_x_32 hk_2 (rfl : m_thereMany.toInt = _) (by omega) (by omega)
      refine lv_icmp_ge (tgt := 35) hx hb dX12_findWorth_9 (by decide) (fun c_33 => ?_) (fun c_33 => ?_)
      · have b_34 := z_fgeT c_33
        refine lv_aload_n hx hb dX12_findWorth_35 rfl (lv_at hl 0 rfl) ?_
        refine lv_iconst (v := 0) hx hb dX12_findWorth_36 (by decide) ?_
        refine lv_iload_n hx hb dX12_findWorth_37 rfl (lv_at hl 2 rfl) ?_
        refine lv_iload_n hx hb dX12_findWorth_38 rfl (lv_at hl 1 rfl) ?_
        refine z_callVl (As := [.int 0, .int 1, .int d]) (rest := []) (wr := []) ⟨hx, hb, hml, hown, hts⟩ hK hE hT hP hD hS hA (r_worthOf_1 l G cA h0 m_status m_thrown m_above m_under a_traySort a_trayMany a_numbers a_tape m_taped m_textEnd m_faultKind m_faultAt m_bad m_badAt m_token m_at m_behind m_number m_letters m_word a_c a_words m_markMany a_there a_tried a_best a_found m_thereMany m_foundMany m_orderHow m_orderRing m_orderMany m_hasBest m_bestTop m_bestBy a_weights a_shared m_random m_truePlace m_trueWay m_seconds m_done m_feelings m_tries m_leftOver m_playDoor m_playRing m_isOpen m_isOver m_wasTried m_hasPlayed a_feltNow a_last a_kept m_hasSeconds m_hasTurned m_hasRound a_hasFeels a_isOn m_firstAct m_meanTop m_meanBy a_order m_rowMany m_newSteps g_c g_there g_20 0 d (by decide +kernel) hr_d hr_m_thereMany hC_g_c hC_g_there) lk_RX12_379 ⟨rfl, rfl⟩ ⟨Nat.le_of_ble_eq_true rfl, Nat.le_of_ble_eq_true rfl⟩ 12 rfl rfl rfl [0, 1, 2, 3] [] rfl rfl (by decide) rfl hl.1 rfl (lv_room (Nat.le_of_ble_eq_true rfl)) dX12_findWorth_39 ⟨Nat.le_of_ble_eq_true rfl, Nat.le_of_ble_eq_true rfl⟩ (fun r_37 u_38 H locs hw hP hD hS => ?_)
        obtain ⟨n_35, n_36⟩ := u_38
        try dsimp only at hw
        exact hret _ _ _ _ _ _ (n_36, n_35) [0, 1, 2, 3] hP hD hS rfl (by decide) dX12_findWorth_42 trivial
      · have b_39 := z_fltF c_33
        refine lv_aload_n hx hb dX12_findWorth_12 rfl (lv_at hl 0 rfl) ?_
        refine va_get (D := G) (ci := 12) (v := .ref a_weights) (C := RX12) (T := TX12) (N := 65) hx hb hts inT12 hown hK hP 0 rfl rfl 35 (by decide) (hts _ tw_1919) (fun _ h9 => h9) rfl dX12_findWorth_13 ?_
        refine lv_iload_n hx hb dX12_findWorth_16 rfl (lv_at hl 3 rfl) ?_
        refine lv_aload_n hx hb dX12_findWorth_17 rfl (lv_at hl 0 rfl) ?_
        refine va_get (D := G) (ci := 12) (v := .ref a_c) (C := RX12) (T := TX12) (N := 65) hx hb hts inT12 hown hK hP 0 rfl rfl 20 (by decide) (hts _ tw_1905) (fun _ h9 => h9) rfl dX12_findWorth_18 ?_
        refine lv_sipush (v := 160) hx hb dX12_findWorth_21 (by decide) ?_
        refine lv_iload_n hx hb dX12_findWorth_24 rfl (lv_at hl 3 rfl) ?_
        refine lv_iadd hx hb dX12_findWorth_25 ?_
        refine lv_topi (fun x_40 he_x_40 => ?_)
        have hq_x_40 := z_addq he_x_40 hk_160 (rfl : v_19.toInt = _) (by omega) (by omega)
        refine va_iald hx hb hK hP 1 0 rfl rfl (z_inN (by omega) (by omega)) dX12_findWorth_26 ?_
        refine lv_topi (fun x_41 he_x_41 => ?_)
        refine lv_i2l (v := (x_41).toInt64) hx hb dX12_findWorth_27 rfl ?_
        refine lv_topl (fun x_42 he_x_42 => ?_)
        have hq_x_42 := z_i2l he_x_42
        have hL_x_41 := z_full x_41
        refine z_last hx hb hK hP hD hS 3 1 rfl rfl (z_inN (by omega) (by omega)) dX12_findWorth_28 (fun g_43 hg_g_43 H locs hP hD hS => ?_)
        obtain ⟨x_44, he_x_44⟩ : ∃ z : Int32, z = v_19 + 1 := ⟨_, rfl⟩
        have hq_x_44 := z_addq he_x_44 (rfl : v_19.toInt = _) hk_1 (by omega) (by omega)
        refine lv_iinc (v := x_44) (lv' := [(3, .int x_44), (0, .ref h0), (1, .int d), (2, .int 1)]) hx hb dX12_findWorth_29 hl (k := 3) rfl ((z_ofi (by decide +kernel)).trans he_x_44.symm) (by decide) rfl (fun ls hl => ?_)
        refine lv_goto (tgt := 2) hx hb dX12_findWorth_32 (by decide) ?_
        exact ih_31 x_44 g_43 H locs ls (by omega) (by omega) hP hD hS (lv_sub hl [1, 2, 3, 0] rfl)
  exact hlp_30 _ 0 g_weights _ _ _ (Nat.lt_succ_self _) (by decide +kernel) hP hD hS (lv_sub hl [1, 2, 3, 0] rfl)
set_option maxHeartbeats 4000000 in
set_option maxRecDepth 100000 in
theorem r_findWorth_2 (l : Launch) (G : va_G) (cA : zCA) (h0 : Nat) (m_status : Int32) (m_thrown : Int32) (m_above : Int64) (m_under : Int64) (a_traySort : Nat) (a_trayMany : Nat) (a_numbers : Nat) (a_tape : Nat) (m_taped : Int32) (m_textEnd : Int32) (m_faultKind : Int32) (m_faultAt : Int32) (m_bad : Int32) (m_badAt : Int32) (m_token : Int32) (m_at : Int32) (m_behind : Int32) (m_number : Int32) (m_letters : Int32) (m_word : Int64) (a_c : Nat) (a_words : Nat) (m_markMany : Int32) (a_there : Nat) (a_tried : Nat) (a_best : Nat) (a_found : Nat) (m_thereMany : Int32) (m_foundMany : Int32) (m_orderHow : Int32) (m_orderRing : Int32) (m_orderMany : Int32) (m_hasBest : Int32) (m_bestTop : Int64) (m_bestBy : Int64) (a_weights : Nat) (a_shared : Nat) (m_random : Int32) (m_truePlace : Int32) (m_trueWay : Int32) (m_seconds : Int32) (m_done : Int32) (m_feelings : Int32) (m_tries : Int32) (m_leftOver : Int32) (m_playDoor : Int32) (m_playRing : Int32) (m_isOpen : Int32) (m_isOver : Int32) (m_wasTried : Int32) (m_hasPlayed : Int32) (a_feltNow : Nat) (a_last : Nat) (a_kept : Nat) (m_hasSeconds : Int32) (m_hasTurned : Int32) (m_hasRound : Int32) (a_hasFeels : Nat) (a_isOn : Nat) (m_firstAct : Int32) (m_meanTop : Int64) (m_meanBy : Int64) (a_order : Nat) (m_rowMany : Int32) (m_newSteps : Int32) (g_c : Nat → Int32) (g_there : Nat → Int32) (g_weights : Nat → Int64) (d : Int32) (hr_d : 0 ≤ d.toInt ∧ d.toInt ≤ 4) (hr_m_thereMany : 0 ≤ m_thereMany.toInt ∧ m_thereMany.toInt ≤ 10) (hC_g_c : zC g_c) (hC_g_there : zRg 10 0 9 g_there) : zCl l yX12_findWorth cX12_findWorth 4 (some .long) ({ frames := 6, cells := 0, slots := 0, locals := 162 }) G cA [.ref h0, .int d, .int 2] [(h0, .inr (12, [.int m_status, .int m_thrown, .long m_above, .long m_under, .ref a_traySort, .ref a_trayMany, .ref a_numbers, .ref a_tape, .int m_taped, .int m_textEnd, .int m_faultKind, .int m_faultAt, .int m_bad, .int m_badAt, .int m_token, .int m_at, .int m_behind, .int m_number, .int m_letters, .long m_word, .ref a_c, .ref a_words, .int m_markMany, .ref a_there, .ref a_tried, .ref a_best, .ref a_found, .int m_thereMany, .int m_foundMany, .int m_orderHow, .int m_orderRing, .int m_orderMany, .int m_hasBest, .long m_bestTop, .long m_bestBy, .ref a_weights, .ref a_shared, .int m_random, .int m_truePlace, .int m_trueWay, .int m_seconds, .int m_done, .int m_feelings, .int m_tries, .int m_leftOver, .int m_playDoor, .int m_playRing, .int m_isOpen, .int m_isOver, .int m_wasTried, .int m_hasPlayed, .ref a_feltNow, .ref a_last, .ref a_kept, .int m_hasSeconds, .int m_hasTurned, .int m_hasRound, .ref a_hasFeels, .ref a_isOn, .int m_firstAct, .long m_meanTop, .long m_meanBy, .ref a_order, .int m_rowMany, .int m_newSteps])), (a_c, .inl (cA.1 0, 1825, .inl g_c)), (a_there, .inl (cA.1 0, 10, .inl g_there)), (a_weights, .inl (cA.1 1, 100, .inr (.inl g_weights)))] (S := Int32 × (Nat → Int64)) (fun (r : Int64) (u : Int32 × (Nat → Int64)) => True) (fun (u : Int32 × (Nat → Int64)) => [(h0, .inr (12, [.int m_status, .int m_thrown, .long m_above, .long m_under, .ref a_traySort, .ref a_trayMany, .ref a_numbers, .ref a_tape, .int m_taped, .int m_textEnd, .int m_faultKind, .int m_faultAt, .int m_bad, .int m_badAt, .int m_token, .int m_at, .int m_behind, .int m_number, .int m_letters, .long m_word, .ref a_c, .ref a_words, .int m_markMany, .ref a_there, .ref a_tried, .ref a_best, .ref a_found, .int m_thereMany, .int m_foundMany, .int m_orderHow, .int m_orderRing, .int m_orderMany, .int m_hasBest, .long m_bestTop, .long m_bestBy, .ref a_weights, .ref a_shared, .int m_random, .int m_truePlace, .int m_trueWay, .int m_seconds, .int m_done, .int m_feelings, .int m_tries, .int m_leftOver, .int m_playDoor, .int m_playRing, .int m_isOpen, .int m_isOver, .int m_wasTried, .int m_hasPlayed, .ref a_feltNow, .ref a_last, .ref a_kept, .int m_hasSeconds, .int m_hasTurned, .int m_hasRound, .ref a_hasFeels, .ref a_isOn, .int u.1, .long m_meanTop, .long m_meanBy, .ref a_order, .int m_rowMany, .int m_newSteps])), (a_c, .inl (cA.1 0, 1825, .inl g_c)), (a_there, .inl (cA.1 0, 10, .inl g_there)), (a_weights, .inl (cA.1 1, 100, .inr (.inl u.2)))]) 0 0 := by
  have hk_0 : (0 : Int32).toInt = 0 := by decide +kernel
  have hk_1 : (1 : Int32).toInt = 1 := by decide +kernel
  have hk_2 : (2 : Int32).toInt = 2 := by decide +kernel
  have hk_160 : (160 : Int32).toInt = 160 := by decide +kernel
  refine z_start2l (own := RX12) (by decide) (Nat.le_of_ble_eq_true rfl) rfl ?_
  intro p e s m args below meth c A ls Q hx hb hml hts hown hK hE hT hP hD hS hA hl hret
  have hl : lv_has ls 4 [(0, .ref h0), (1, .int d), (2, .int 2)] := hl
  refine lv_iconst (v := 0) hx hb dX12_findWorth_0 (by decide) ?_
  refine lv_istore_n (lv' := [(3, .int 0), (0, .ref h0), (1, .int d), (2, .int 2)]) hx hb dX12_findWorth_1 rfl hl (by decide) rfl (fun ls hl => ?_)
  have hlp_30 : ∀ (n : Nat) (v_19 : Int32) (g_20 : Nat → Int64) (H : Heap) (locs : List Loc) (ls : Array Slot), (2147483647 - v_19.toInt).toNat < n → (0 ≤ v_19.toInt ∧ v_19.toInt ≤ 20) → va_P G vwCl [(h0, .inr (12, [.int m_status, .int m_thrown, .long m_above, .long m_under, .ref a_traySort, .ref a_trayMany, .ref a_numbers, .ref a_tape, .int m_taped, .int m_textEnd, .int m_faultKind, .int m_faultAt, .int m_bad, .int m_badAt, .int m_token, .int m_at, .int m_behind, .int m_number, .int m_letters, .long m_word, .ref a_c, .ref a_words, .int m_markMany, .ref a_there, .ref a_tried, .ref a_best, .ref a_found, .int m_thereMany, .int m_foundMany, .int m_orderHow, .int m_orderRing, .int m_orderMany, .int m_hasBest, .long m_bestTop, .long m_bestBy, .ref a_weights, .ref a_shared, .int m_random, .int m_truePlace, .int m_trueWay, .int m_seconds, .int m_done, .int m_feelings, .int m_tries, .int m_leftOver, .int m_playDoor, .int m_playRing, .int m_isOpen, .int m_isOver, .int m_wasTried, .int m_hasPlayed, .ref a_feltNow, .ref a_last, .ref a_kept, .int m_hasSeconds, .int m_hasTurned, .int m_hasRound, .ref a_hasFeels, .ref a_isOn, .int m_firstAct, .long m_meanTop, .long m_meanBy, .ref a_order, .int m_rowMany, .int m_newSteps])), (a_c, .inl (cA.1 0, 1825, .inl g_c)), (a_there, .inl (cA.1 0, 10, .inl g_there)), (a_weights, .inl (cA.1 1, 100, .inr (.inl g_20)))] H → va_D A [(h0, .inr (12, [.int m_status, .int m_thrown, .long m_above, .long m_under, .ref a_traySort, .ref a_trayMany, .ref a_numbers, .ref a_tape, .int m_taped, .int m_textEnd, .int m_faultKind, .int m_faultAt, .int m_bad, .int m_badAt, .int m_token, .int m_at, .int m_behind, .int m_number, .int m_letters, .long m_word, .ref a_c, .ref a_words, .int m_markMany, .ref a_there, .ref a_tried, .ref a_best, .ref a_found, .int m_thereMany, .int m_foundMany, .int m_orderHow, .int m_orderRing, .int m_orderMany, .int m_hasBest, .long m_bestTop, .long m_bestBy, .ref a_weights, .ref a_shared, .int m_random, .int m_truePlace, .int m_trueWay, .int m_seconds, .int m_done, .int m_feelings, .int m_tries, .int m_leftOver, .int m_playDoor, .int m_playRing, .int m_isOpen, .int m_isOver, .int m_wasTried, .int m_hasPlayed, .ref a_feltNow, .ref a_last, .ref a_kept, .int m_hasSeconds, .int m_hasTurned, .int m_hasRound, .ref a_hasFeels, .ref a_isOn, .int m_firstAct, .long m_meanTop, .long m_meanBy, .ref a_order, .int m_rowMany, .int m_newSteps])), (a_c, .inl (cA.1 0, 1825, .inl g_c)), (a_there, .inl (cA.1 0, 10, .inl g_there)), (a_weights, .inl (cA.1 1, 100, .inr (.inl g_20)))] → va_S A s.heap H locs → lv_has ls 4 [(0, .ref h0), (1, .int d), (2, .int 2), (3, .int v_19)] → W p l e ({ frames := 6, cells := 0, slots := 0, locals := 162 }) s m args below meth c H locs 0 0 Q (F0 m 2 ls []) := by
    intro n
    induction n with
    | zero =>
      intro v_19 g_20 H locs ls hmu_hlp_30 hr_v_19 hP hD hS hl
      exact absurd hmu_hlp_30 (Nat.not_lt_zero _)
    | succ n ih_31 =>
      intro v_19 g_20 H locs ls hmu_hlp_30 hr_v_19 hP hD hS hl
      refine lv_iload_n hx hb dX12_findWorth_2 rfl (lv_at hl 3 rfl) ?_
      refine lv_iconst (v := 2) hx hb dX12_findWorth_3 (by decide) ?_
      refine lv_aload_n hx hb dX12_findWorth_4 rfl (lv_at hl 0 rfl) ?_
      refine va_get (D := G) (ci := 12) (v := .int m_thereMany) (C := RX12) (T := TX12) (N := 65) hx hb hts inT12 hown hK hP 0 rfl rfl 27 (by decide) (hts _ tw_1912) (fun _ h9 => h9) rfl dX12_findWorth_5 ?_
      refine lv_imul hx hb dX12_findWorth_8 ?_
      refine lv_topi (fun x_32 he_x_32 => ?_)
      have hq_x_32 := z_mulq he_x_32 hk_2 (rfl : m_thereMany.toInt = _) (by omega) (by omega)
      refine lv_icmp_ge (tgt := 35) hx hb dX12_findWorth_9 (by decide) (fun c_33 => ?_) (fun c_33 => ?_)
      · have b_34 := z_fgeT c_33
        refine lv_aload_n hx hb dX12_findWorth_35 rfl (lv_at hl 0 rfl) ?_
        refine lv_iconst (v := 0) hx hb dX12_findWorth_36 (by decide) ?_
        refine lv_iload_n hx hb dX12_findWorth_37 rfl (lv_at hl 2 rfl) ?_
        refine lv_iload_n hx hb dX12_findWorth_38 rfl (lv_at hl 1 rfl) ?_
        refine z_callVl (As := [.int 0, .int 2, .int d]) (rest := []) (wr := []) ⟨hx, hb, hml, hown, hts⟩ hK hE hT hP hD hS hA (r_worthOf_2 l G cA h0 m_status m_thrown m_above m_under a_traySort a_trayMany a_numbers a_tape m_taped m_textEnd m_faultKind m_faultAt m_bad m_badAt m_token m_at m_behind m_number m_letters m_word a_c a_words m_markMany a_there a_tried a_best a_found m_thereMany m_foundMany m_orderHow m_orderRing m_orderMany m_hasBest m_bestTop m_bestBy a_weights a_shared m_random m_truePlace m_trueWay m_seconds m_done m_feelings m_tries m_leftOver m_playDoor m_playRing m_isOpen m_isOver m_wasTried m_hasPlayed a_feltNow a_last a_kept m_hasSeconds m_hasTurned m_hasRound a_hasFeels a_isOn m_firstAct m_meanTop m_meanBy a_order m_rowMany m_newSteps g_c g_there g_20 0 d (by decide +kernel) hr_d hr_m_thereMany hC_g_c hC_g_there) lk_RX12_379 ⟨rfl, rfl⟩ ⟨Nat.le_of_ble_eq_true rfl, Nat.le_of_ble_eq_true rfl⟩ 12 rfl rfl rfl [0, 1, 2, 3] [] rfl rfl (by decide) rfl hl.1 rfl (lv_room (Nat.le_of_ble_eq_true rfl)) dX12_findWorth_39 ⟨Nat.le_of_ble_eq_true rfl, Nat.le_of_ble_eq_true rfl⟩ (fun r_37 u_38 H locs hw hP hD hS => ?_)
        obtain ⟨n_35, n_36⟩ := u_38
        try dsimp only at hw
        exact hret _ _ _ _ _ _ (n_35, n_36) [0, 1, 2, 3] hP hD hS rfl (by decide) dX12_findWorth_42 trivial
      · have b_39 := z_fltF c_33
        refine lv_aload_n hx hb dX12_findWorth_12 rfl (lv_at hl 0 rfl) ?_
        refine va_get (D := G) (ci := 12) (v := .ref a_weights) (C := RX12) (T := TX12) (N := 65) hx hb hts inT12 hown hK hP 0 rfl rfl 35 (by decide) (hts _ tw_1919) (fun _ h9 => h9) rfl dX12_findWorth_13 ?_
        refine lv_iload_n hx hb dX12_findWorth_16 rfl (lv_at hl 3 rfl) ?_
        refine lv_aload_n hx hb dX12_findWorth_17 rfl (lv_at hl 0 rfl) ?_
        refine va_get (D := G) (ci := 12) (v := .ref a_c) (C := RX12) (T := TX12) (N := 65) hx hb hts inT12 hown hK hP 0 rfl rfl 20 (by decide) (hts _ tw_1905) (fun _ h9 => h9) rfl dX12_findWorth_18 ?_
        refine lv_sipush (v := 160) hx hb dX12_findWorth_21 (by decide) ?_
        refine lv_iload_n hx hb dX12_findWorth_24 rfl (lv_at hl 3 rfl) ?_
        refine lv_iadd hx hb dX12_findWorth_25 ?_
        refine lv_topi (fun x_40 he_x_40 => ?_)
        have hq_x_40 := z_addq he_x_40 hk_160 (rfl : v_19.toInt = _) (by omega) (by omega)
        refine va_iald hx hb hK hP 1 0 rfl rfl (z_inN (by omega) (by omega)) dX12_findWorth_26 ?_
        refine lv_topi (fun x_41 he_x_41 => ?_)
        refine lv_i2l (v := (x_41).toInt64) hx hb dX12_findWorth_27 rfl ?_
        refine lv_topl (fun x_42 he_x_42 => ?_)
        have hq_x_42 := z_i2l he_x_42
        have hL_x_41 := z_full x_41
        refine z_last hx hb hK hP hD hS 3 1 rfl rfl (z_inN (by omega) (by omega)) dX12_findWorth_28 (fun g_43 hg_g_43 H locs hP hD hS => ?_)
        obtain ⟨x_44, he_x_44⟩ : ∃ z : Int32, z = v_19 + 1 := ⟨_, rfl⟩
        have hq_x_44 := z_addq he_x_44 (rfl : v_19.toInt = _) hk_1 (by omega) (by omega)
        refine lv_iinc (v := x_44) (lv' := [(3, .int x_44), (0, .ref h0), (1, .int d), (2, .int 2)]) hx hb dX12_findWorth_29 hl (k := 3) rfl ((z_ofi (by decide +kernel)).trans he_x_44.symm) (by decide) rfl (fun ls hl => ?_)
        refine lv_goto (tgt := 2) hx hb dX12_findWorth_32 (by decide) ?_
        exact ih_31 x_44 g_43 H locs ls (by omega) (by omega) hP hD hS (lv_sub hl [1, 2, 3, 0] rfl)
  exact hlp_30 _ 0 g_weights _ _ _ (Nat.lt_succ_self _) (by decide +kernel) hP hD hS (lv_sub hl [1, 2, 3, 0] rfl)
set_option maxHeartbeats 4000000 in
set_option maxRecDepth 100000 in
theorem r_findWorth_3 (l : Launch) (G : va_G) (cA : zCA) (h0 : Nat) (m_status : Int32) (m_thrown : Int32) (m_above : Int64) (m_under : Int64) (a_traySort : Nat) (a_trayMany : Nat) (a_numbers : Nat) (a_tape : Nat) (m_taped : Int32) (m_textEnd : Int32) (m_faultKind : Int32) (m_faultAt : Int32) (m_bad : Int32) (m_badAt : Int32) (m_token : Int32) (m_at : Int32) (m_behind : Int32) (m_number : Int32) (m_letters : Int32) (m_word : Int64) (a_c : Nat) (a_words : Nat) (m_markMany : Int32) (a_there : Nat) (a_tried : Nat) (a_best : Nat) (a_found : Nat) (m_thereMany : Int32) (m_foundMany : Int32) (m_orderHow : Int32) (m_orderRing : Int32) (m_orderMany : Int32) (m_hasBest : Int32) (m_bestTop : Int64) (m_bestBy : Int64) (a_weights : Nat) (a_shared : Nat) (m_random : Int32) (m_truePlace : Int32) (m_trueWay : Int32) (m_seconds : Int32) (m_done : Int32) (m_feelings : Int32) (m_tries : Int32) (m_leftOver : Int32) (m_playDoor : Int32) (m_playRing : Int32) (m_isOpen : Int32) (m_isOver : Int32) (m_wasTried : Int32) (m_hasPlayed : Int32) (a_feltNow : Nat) (a_last : Nat) (a_kept : Nat) (m_hasSeconds : Int32) (m_hasTurned : Int32) (m_hasRound : Int32) (a_hasFeels : Nat) (a_isOn : Nat) (m_firstAct : Int32) (m_meanTop : Int64) (m_meanBy : Int64) (a_order : Nat) (m_rowMany : Int32) (m_newSteps : Int32) (g_c : Nat → Int32) (g_there : Nat → Int32) (g_weights : Nat → Int64) (d : Int32) (hr_d : 0 ≤ d.toInt ∧ d.toInt ≤ 4) (hr_m_thereMany : 0 ≤ m_thereMany.toInt ∧ m_thereMany.toInt ≤ 10) (hC_g_c : zC g_c) (hC_g_there : zRg 10 0 9 g_there) : zCl l yX12_findWorth cX12_findWorth 4 (some .long) ({ frames := 8, cells := 0, slots := 0, locals := 219 }) G cA [.ref h0, .int d, .int 3] [(h0, .inr (12, [.int m_status, .int m_thrown, .long m_above, .long m_under, .ref a_traySort, .ref a_trayMany, .ref a_numbers, .ref a_tape, .int m_taped, .int m_textEnd, .int m_faultKind, .int m_faultAt, .int m_bad, .int m_badAt, .int m_token, .int m_at, .int m_behind, .int m_number, .int m_letters, .long m_word, .ref a_c, .ref a_words, .int m_markMany, .ref a_there, .ref a_tried, .ref a_best, .ref a_found, .int m_thereMany, .int m_foundMany, .int m_orderHow, .int m_orderRing, .int m_orderMany, .int m_hasBest, .long m_bestTop, .long m_bestBy, .ref a_weights, .ref a_shared, .int m_random, .int m_truePlace, .int m_trueWay, .int m_seconds, .int m_done, .int m_feelings, .int m_tries, .int m_leftOver, .int m_playDoor, .int m_playRing, .int m_isOpen, .int m_isOver, .int m_wasTried, .int m_hasPlayed, .ref a_feltNow, .ref a_last, .ref a_kept, .int m_hasSeconds, .int m_hasTurned, .int m_hasRound, .ref a_hasFeels, .ref a_isOn, .int m_firstAct, .long m_meanTop, .long m_meanBy, .ref a_order, .int m_rowMany, .int m_newSteps])), (a_c, .inl (cA.1 0, 1825, .inl g_c)), (a_there, .inl (cA.1 0, 10, .inl g_there)), (a_weights, .inl (cA.1 1, 100, .inr (.inl g_weights)))] (S := Int32 × (Nat → Int64)) (fun (r : Int64) (u : Int32 × (Nat → Int64)) => True) (fun (u : Int32 × (Nat → Int64)) => [(h0, .inr (12, [.int m_status, .int m_thrown, .long m_above, .long m_under, .ref a_traySort, .ref a_trayMany, .ref a_numbers, .ref a_tape, .int m_taped, .int m_textEnd, .int m_faultKind, .int m_faultAt, .int m_bad, .int m_badAt, .int m_token, .int m_at, .int m_behind, .int m_number, .int m_letters, .long m_word, .ref a_c, .ref a_words, .int m_markMany, .ref a_there, .ref a_tried, .ref a_best, .ref a_found, .int m_thereMany, .int m_foundMany, .int m_orderHow, .int m_orderRing, .int m_orderMany, .int m_hasBest, .long m_bestTop, .long m_bestBy, .ref a_weights, .ref a_shared, .int m_random, .int m_truePlace, .int m_trueWay, .int m_seconds, .int m_done, .int m_feelings, .int m_tries, .int m_leftOver, .int m_playDoor, .int m_playRing, .int m_isOpen, .int m_isOver, .int m_wasTried, .int m_hasPlayed, .ref a_feltNow, .ref a_last, .ref a_kept, .int m_hasSeconds, .int m_hasTurned, .int m_hasRound, .ref a_hasFeels, .ref a_isOn, .int u.1, .long m_meanTop, .long m_meanBy, .ref a_order, .int m_rowMany, .int m_newSteps])), (a_c, .inl (cA.1 0, 1825, .inl g_c)), (a_there, .inl (cA.1 0, 10, .inl g_there)), (a_weights, .inl (cA.1 1, 100, .inr (.inl u.2)))]) 0 0 := by
  have hk_0 : (0 : Int32).toInt = 0 := by decide +kernel
  have hk_1 : (1 : Int32).toInt = 1 := by decide +kernel
  have hk_2 : (2 : Int32).toInt = 2 := by decide +kernel
  have hk_3 : (3 : Int32).toInt = 3 := by decide +kernel
  have hk_160 : (160 : Int32).toInt = 160 := by decide +kernel
  refine z_start2l (own := RX12) (by decide) (Nat.le_of_ble_eq_true rfl) rfl ?_
  intro p e s m args below meth c A ls Q hx hb hml hts hown hK hE hT hP hD hS hA hl hret
  have hl : lv_has ls 4 [(0, .ref h0), (1, .int d), (2, .int 3)] := hl
  refine lv_iconst (v := 0) hx hb dX12_findWorth_0 (by decide) ?_
  refine lv_istore_n (lv' := [(3, .int 0), (0, .ref h0), (1, .int d), (2, .int 3)]) hx hb dX12_findWorth_1 rfl hl (by decide) rfl (fun ls hl => ?_)
  have hlp_30 : ∀ (n : Nat) (v_19 : Int32) (g_20 : Nat → Int64) (H : Heap) (locs : List Loc) (ls : Array Slot), (2147483647 - v_19.toInt).toNat < n → (0 ≤ v_19.toInt ∧ v_19.toInt ≤ 20) → va_P G vwCl [(h0, .inr (12, [.int m_status, .int m_thrown, .long m_above, .long m_under, .ref a_traySort, .ref a_trayMany, .ref a_numbers, .ref a_tape, .int m_taped, .int m_textEnd, .int m_faultKind, .int m_faultAt, .int m_bad, .int m_badAt, .int m_token, .int m_at, .int m_behind, .int m_number, .int m_letters, .long m_word, .ref a_c, .ref a_words, .int m_markMany, .ref a_there, .ref a_tried, .ref a_best, .ref a_found, .int m_thereMany, .int m_foundMany, .int m_orderHow, .int m_orderRing, .int m_orderMany, .int m_hasBest, .long m_bestTop, .long m_bestBy, .ref a_weights, .ref a_shared, .int m_random, .int m_truePlace, .int m_trueWay, .int m_seconds, .int m_done, .int m_feelings, .int m_tries, .int m_leftOver, .int m_playDoor, .int m_playRing, .int m_isOpen, .int m_isOver, .int m_wasTried, .int m_hasPlayed, .ref a_feltNow, .ref a_last, .ref a_kept, .int m_hasSeconds, .int m_hasTurned, .int m_hasRound, .ref a_hasFeels, .ref a_isOn, .int m_firstAct, .long m_meanTop, .long m_meanBy, .ref a_order, .int m_rowMany, .int m_newSteps])), (a_c, .inl (cA.1 0, 1825, .inl g_c)), (a_there, .inl (cA.1 0, 10, .inl g_there)), (a_weights, .inl (cA.1 1, 100, .inr (.inl g_20)))] H → va_D A [(h0, .inr (12, [.int m_status, .int m_thrown, .long m_above, .long m_under, .ref a_traySort, .ref a_trayMany, .ref a_numbers, .ref a_tape, .int m_taped, .int m_textEnd, .int m_faultKind, .int m_faultAt, .int m_bad, .int m_badAt, .int m_token, .int m_at, .int m_behind, .int m_number, .int m_letters, .long m_word, .ref a_c, .ref a_words, .int m_markMany, .ref a_there, .ref a_tried, .ref a_best, .ref a_found, .int m_thereMany, .int m_foundMany, .int m_orderHow, .int m_orderRing, .int m_orderMany, .int m_hasBest, .long m_bestTop, .long m_bestBy, .ref a_weights, .ref a_shared, .int m_random, .int m_truePlace, .int m_trueWay, .int m_seconds, .int m_done, .int m_feelings, .int m_tries, .int m_leftOver, .int m_playDoor, .int m_playRing, .int m_isOpen, .int m_isOver, .int m_wasTried, .int m_hasPlayed, .ref a_feltNow, .ref a_last, .ref a_kept, .int m_hasSeconds, .int m_hasTurned, .int m_hasRound, .ref a_hasFeels, .ref a_isOn, .int m_firstAct, .long m_meanTop, .long m_meanBy, .ref a_order, .int m_rowMany, .int m_newSteps])), (a_c, .inl (cA.1 0, 1825, .inl g_c)), (a_there, .inl (cA.1 0, 10, .inl g_there)), (a_weights, .inl (cA.1 1, 100, .inr (.inl g_20)))] → va_S A s.heap H locs → lv_has ls 4 [(0, .ref h0), (1, .int d), (2, .int 3), (3, .int v_19)] → W p l e ({ frames := 8, cells := 0, slots := 0, locals := 219 }) s m args below meth c H locs 0 0 Q (F0 m 2 ls []) := by
    intro n
    induction n with
    | zero =>
      intro v_19 g_20 H locs ls hmu_hlp_30 hr_v_19 hP hD hS hl
      exact absurd hmu_hlp_30 (Nat.not_lt_zero _)
    | succ n ih_31 =>
      intro v_19 g_20 H locs ls hmu_hlp_30 hr_v_19 hP hD hS hl
      refine lv_iload_n hx hb dX12_findWorth_2 rfl (lv_at hl 3 rfl) ?_
      refine lv_iconst (v := 2) hx hb dX12_findWorth_3 (by decide) ?_
      refine lv_aload_n hx hb dX12_findWorth_4 rfl (lv_at hl 0 rfl) ?_
      refine va_get (D := G) (ci := 12) (v := .int m_thereMany) (C := RX12) (T := TX12) (N := 65) hx hb hts inT12 hown hK hP 0 rfl rfl 27 (by decide) (hts _ tw_1912) (fun _ h9 => h9) rfl dX12_findWorth_5 ?_
      refine lv_imul hx hb dX12_findWorth_8 ?_
      refine lv_topi (fun x_32 he_x_32 => ?_)
      have hq_x_32 := z_mulq he_x_32 hk_2 (rfl : m_thereMany.toInt = _) (by omega) (by omega)
      refine lv_icmp_ge (tgt := 35) hx hb dX12_findWorth_9 (by decide) (fun c_33 => ?_) (fun c_33 => ?_)
      · have b_34 := z_fgeT c_33
        refine lv_aload_n hx hb dX12_findWorth_35 rfl (lv_at hl 0 rfl) ?_
        refine lv_iconst (v := 0) hx hb dX12_findWorth_36 (by decide) ?_
        refine lv_iload_n hx hb dX12_findWorth_37 rfl (lv_at hl 2 rfl) ?_
        refine lv_iload_n hx hb dX12_findWorth_38 rfl (lv_at hl 1 rfl) ?_
        refine z_callVl (As := [.int 0, .int 3, .int d]) (rest := []) (wr := []) ⟨hx, hb, hml, hown, hts⟩ hK hE hT hP hD hS hA (r_worthOf_3 l G cA h0 m_status m_thrown m_above m_under a_traySort a_trayMany a_numbers a_tape m_taped m_textEnd m_faultKind m_faultAt m_bad m_badAt m_token m_at m_behind m_number m_letters m_word a_c a_words m_markMany a_there a_tried a_best a_found m_thereMany m_foundMany m_orderHow m_orderRing m_orderMany m_hasBest m_bestTop m_bestBy a_weights a_shared m_random m_truePlace m_trueWay m_seconds m_done m_feelings m_tries m_leftOver m_playDoor m_playRing m_isOpen m_isOver m_wasTried m_hasPlayed a_feltNow a_last a_kept m_hasSeconds m_hasTurned m_hasRound a_hasFeels a_isOn m_firstAct m_meanTop m_meanBy a_order m_rowMany m_newSteps g_c g_there g_20 0 d (by decide +kernel) hr_d hr_m_thereMany hC_g_c hC_g_there) lk_RX12_379 ⟨rfl, rfl⟩ ⟨Nat.le_of_ble_eq_true rfl, Nat.le_of_ble_eq_true rfl⟩ 12 rfl rfl rfl [0, 1, 2, 3] [] rfl rfl (by decide) rfl hl.1 rfl (lv_room (Nat.le_of_ble_eq_true rfl)) dX12_findWorth_39 ⟨Nat.le_of_ble_eq_true rfl, Nat.le_of_ble_eq_true rfl⟩ (fun r_37 u_38 H locs hw hP hD hS => ?_)
        obtain ⟨n_35, n_36⟩ := u_38
        try dsimp only at hw
        exact hret _ _ _ _ _ _ (n_35, n_36) [0, 1, 2, 3] hP hD hS rfl (by decide) dX12_findWorth_42 trivial
      · have b_39 := z_fltF c_33
        refine lv_aload_n hx hb dX12_findWorth_12 rfl (lv_at hl 0 rfl) ?_
        refine va_get (D := G) (ci := 12) (v := .ref a_weights) (C := RX12) (T := TX12) (N := 65) hx hb hts inT12 hown hK hP 0 rfl rfl 35 (by decide) (hts _ tw_1919) (fun _ h9 => h9) rfl dX12_findWorth_13 ?_
        refine lv_iload_n hx hb dX12_findWorth_16 rfl (lv_at hl 3 rfl) ?_
        refine lv_aload_n hx hb dX12_findWorth_17 rfl (lv_at hl 0 rfl) ?_
        refine va_get (D := G) (ci := 12) (v := .ref a_c) (C := RX12) (T := TX12) (N := 65) hx hb hts inT12 hown hK hP 0 rfl rfl 20 (by decide) (hts _ tw_1905) (fun _ h9 => h9) rfl dX12_findWorth_18 ?_
        refine lv_sipush (v := 160) hx hb dX12_findWorth_21 (by decide) ?_
        refine lv_iload_n hx hb dX12_findWorth_24 rfl (lv_at hl 3 rfl) ?_
        refine lv_iadd hx hb dX12_findWorth_25 ?_
        refine lv_topi (fun x_40 he_x_40 => ?_)
        have hq_x_40 := z_addq he_x_40 hk_160 (rfl : v_19.toInt = _) (by omega) (by omega)
        refine va_iald hx hb hK hP 1 0 rfl rfl (z_inN (by omega) (by omega)) dX12_findWorth_26 ?_
        refine lv_topi (fun x_41 he_x_41 => ?_)
        refine lv_i2l (v := (x_41).toInt64) hx hb dX12_findWorth_27 rfl ?_
        refine lv_topl (fun x_42 he_x_42 => ?_)
        have hq_x_42 := z_i2l he_x_42
        have hL_x_41 := z_full x_41
        refine z_last hx hb hK hP hD hS 3 1 rfl rfl (z_inN (by omega) (by omega)) dX12_findWorth_28 (fun g_43 hg_g_43 H locs hP hD hS => ?_)
        obtain ⟨x_44, he_x_44⟩ : ∃ z : Int32, z = v_19 + 1 := ⟨_, rfl⟩
        have hq_x_44 := z_addq he_x_44 (rfl : v_19.toInt = _) hk_1 (by omega) (by omega)
        refine lv_iinc (v := x_44) (lv' := [(3, .int x_44), (0, .ref h0), (1, .int d), (2, .int 3)]) hx hb dX12_findWorth_29 hl (k := 3) rfl ((z_ofi (by decide +kernel)).trans he_x_44.symm) (by decide) rfl (fun ls hl => ?_)
        refine lv_goto (tgt := 2) hx hb dX12_findWorth_32 (by decide) ?_
        exact ih_31 x_44 g_43 H locs ls (by omega) (by omega) hP hD hS (lv_sub hl [1, 2, 3, 0] rfl)
  exact hlp_30 _ 0 g_weights _ _ _ (Nat.lt_succ_self _) (by decide +kernel) hP hD hS (lv_sub hl [1, 2, 3, 0] rfl)
set_option maxHeartbeats 4000000 in
set_option maxRecDepth 100000 in
theorem r_findWorth_4 (l : Launch) (G : va_G) (cA : zCA) (h0 : Nat) (m_status : Int32) (m_thrown : Int32) (m_above : Int64) (m_under : Int64) (a_traySort : Nat) (a_trayMany : Nat) (a_numbers : Nat) (a_tape : Nat) (m_taped : Int32) (m_textEnd : Int32) (m_faultKind : Int32) (m_faultAt : Int32) (m_bad : Int32) (m_badAt : Int32) (m_token : Int32) (m_at : Int32) (m_behind : Int32) (m_number : Int32) (m_letters : Int32) (m_word : Int64) (a_c : Nat) (a_words : Nat) (m_markMany : Int32) (a_there : Nat) (a_tried : Nat) (a_best : Nat) (a_found : Nat) (m_thereMany : Int32) (m_foundMany : Int32) (m_orderHow : Int32) (m_orderRing : Int32) (m_orderMany : Int32) (m_hasBest : Int32) (m_bestTop : Int64) (m_bestBy : Int64) (a_weights : Nat) (a_shared : Nat) (m_random : Int32) (m_truePlace : Int32) (m_trueWay : Int32) (m_seconds : Int32) (m_done : Int32) (m_feelings : Int32) (m_tries : Int32) (m_leftOver : Int32) (m_playDoor : Int32) (m_playRing : Int32) (m_isOpen : Int32) (m_isOver : Int32) (m_wasTried : Int32) (m_hasPlayed : Int32) (a_feltNow : Nat) (a_last : Nat) (a_kept : Nat) (m_hasSeconds : Int32) (m_hasTurned : Int32) (m_hasRound : Int32) (a_hasFeels : Nat) (a_isOn : Nat) (m_firstAct : Int32) (m_meanTop : Int64) (m_meanBy : Int64) (a_order : Nat) (m_rowMany : Int32) (m_newSteps : Int32) (g_c : Nat → Int32) (g_there : Nat → Int32) (g_weights : Nat → Int64) (d : Int32) (hr_d : 0 ≤ d.toInt ∧ d.toInt ≤ 4) (hr_m_thereMany : 0 ≤ m_thereMany.toInt ∧ m_thereMany.toInt ≤ 10) (hC_g_c : zC g_c) (hC_g_there : zRg 10 0 9 g_there) : zCl l yX12_findWorth cX12_findWorth 4 (some .long) ({ frames := 10, cells := 0, slots := 0, locals := 276 }) G cA [.ref h0, .int d, .int 4] [(h0, .inr (12, [.int m_status, .int m_thrown, .long m_above, .long m_under, .ref a_traySort, .ref a_trayMany, .ref a_numbers, .ref a_tape, .int m_taped, .int m_textEnd, .int m_faultKind, .int m_faultAt, .int m_bad, .int m_badAt, .int m_token, .int m_at, .int m_behind, .int m_number, .int m_letters, .long m_word, .ref a_c, .ref a_words, .int m_markMany, .ref a_there, .ref a_tried, .ref a_best, .ref a_found, .int m_thereMany, .int m_foundMany, .int m_orderHow, .int m_orderRing, .int m_orderMany, .int m_hasBest, .long m_bestTop, .long m_bestBy, .ref a_weights, .ref a_shared, .int m_random, .int m_truePlace, .int m_trueWay, .int m_seconds, .int m_done, .int m_feelings, .int m_tries, .int m_leftOver, .int m_playDoor, .int m_playRing, .int m_isOpen, .int m_isOver, .int m_wasTried, .int m_hasPlayed, .ref a_feltNow, .ref a_last, .ref a_kept, .int m_hasSeconds, .int m_hasTurned, .int m_hasRound, .ref a_hasFeels, .ref a_isOn, .int m_firstAct, .long m_meanTop, .long m_meanBy, .ref a_order, .int m_rowMany, .int m_newSteps])), (a_c, .inl (cA.1 0, 1825, .inl g_c)), (a_there, .inl (cA.1 0, 10, .inl g_there)), (a_weights, .inl (cA.1 1, 100, .inr (.inl g_weights)))] (S := Int32 × (Nat → Int64)) (fun (r : Int64) (u : Int32 × (Nat → Int64)) => (0 ≤ u.1.toInt ∧ u.1.toInt ≤ 4)) (fun (u : Int32 × (Nat → Int64)) => [(h0, .inr (12, [.int m_status, .int m_thrown, .long m_above, .long m_under, .ref a_traySort, .ref a_trayMany, .ref a_numbers, .ref a_tape, .int m_taped, .int m_textEnd, .int m_faultKind, .int m_faultAt, .int m_bad, .int m_badAt, .int m_token, .int m_at, .int m_behind, .int m_number, .int m_letters, .long m_word, .ref a_c, .ref a_words, .int m_markMany, .ref a_there, .ref a_tried, .ref a_best, .ref a_found, .int m_thereMany, .int m_foundMany, .int m_orderHow, .int m_orderRing, .int m_orderMany, .int m_hasBest, .long m_bestTop, .long m_bestBy, .ref a_weights, .ref a_shared, .int m_random, .int m_truePlace, .int m_trueWay, .int m_seconds, .int m_done, .int m_feelings, .int m_tries, .int m_leftOver, .int m_playDoor, .int m_playRing, .int m_isOpen, .int m_isOver, .int m_wasTried, .int m_hasPlayed, .ref a_feltNow, .ref a_last, .ref a_kept, .int m_hasSeconds, .int m_hasTurned, .int m_hasRound, .ref a_hasFeels, .ref a_isOn, .int u.1, .long m_meanTop, .long m_meanBy, .ref a_order, .int m_rowMany, .int m_newSteps])), (a_c, .inl (cA.1 0, 1825, .inl g_c)), (a_there, .inl (cA.1 0, 10, .inl g_there)), (a_weights, .inl (cA.1 1, 100, .inr (.inl u.2)))]) 0 0 := by
  have hk_0 : (0 : Int32).toInt = 0 := by decide +kernel
  have hk_1 : (1 : Int32).toInt = 1 := by decide +kernel
  have hk_2 : (2 : Int32).toInt = 2 := by decide +kernel
  have hk_4 : (4 : Int32).toInt = 4 := by decide +kernel
  have hk_160 : (160 : Int32).toInt = 160 := by decide +kernel
  refine z_start2l (own := RX12) (by decide) (Nat.le_of_ble_eq_true rfl) rfl ?_
  intro p e s m args below meth c A ls Q hx hb hml hts hown hK hE hT hP hD hS hA hl hret
  have hl : lv_has ls 4 [(0, .ref h0), (1, .int d), (2, .int 4)] := hl
  refine lv_iconst (v := 0) hx hb dX12_findWorth_0 (by decide) ?_
  refine lv_istore_n (lv' := [(3, .int 0), (0, .ref h0), (1, .int d), (2, .int 4)]) hx hb dX12_findWorth_1 rfl hl (by decide) rfl (fun ls hl => ?_)
  have hlp_30 : ∀ (n : Nat) (v_19 : Int32) (g_20 : Nat → Int64) (H : Heap) (locs : List Loc) (ls : Array Slot), (2147483647 - v_19.toInt).toNat < n → (0 ≤ v_19.toInt ∧ v_19.toInt ≤ 20) → va_P G vwCl [(h0, .inr (12, [.int m_status, .int m_thrown, .long m_above, .long m_under, .ref a_traySort, .ref a_trayMany, .ref a_numbers, .ref a_tape, .int m_taped, .int m_textEnd, .int m_faultKind, .int m_faultAt, .int m_bad, .int m_badAt, .int m_token, .int m_at, .int m_behind, .int m_number, .int m_letters, .long m_word, .ref a_c, .ref a_words, .int m_markMany, .ref a_there, .ref a_tried, .ref a_best, .ref a_found, .int m_thereMany, .int m_foundMany, .int m_orderHow, .int m_orderRing, .int m_orderMany, .int m_hasBest, .long m_bestTop, .long m_bestBy, .ref a_weights, .ref a_shared, .int m_random, .int m_truePlace, .int m_trueWay, .int m_seconds, .int m_done, .int m_feelings, .int m_tries, .int m_leftOver, .int m_playDoor, .int m_playRing, .int m_isOpen, .int m_isOver, .int m_wasTried, .int m_hasPlayed, .ref a_feltNow, .ref a_last, .ref a_kept, .int m_hasSeconds, .int m_hasTurned, .int m_hasRound, .ref a_hasFeels, .ref a_isOn, .int m_firstAct, .long m_meanTop, .long m_meanBy, .ref a_order, .int m_rowMany, .int m_newSteps])), (a_c, .inl (cA.1 0, 1825, .inl g_c)), (a_there, .inl (cA.1 0, 10, .inl g_there)), (a_weights, .inl (cA.1 1, 100, .inr (.inl g_20)))] H → va_D A [(h0, .inr (12, [.int m_status, .int m_thrown, .long m_above, .long m_under, .ref a_traySort, .ref a_trayMany, .ref a_numbers, .ref a_tape, .int m_taped, .int m_textEnd, .int m_faultKind, .int m_faultAt, .int m_bad, .int m_badAt, .int m_token, .int m_at, .int m_behind, .int m_number, .int m_letters, .long m_word, .ref a_c, .ref a_words, .int m_markMany, .ref a_there, .ref a_tried, .ref a_best, .ref a_found, .int m_thereMany, .int m_foundMany, .int m_orderHow, .int m_orderRing, .int m_orderMany, .int m_hasBest, .long m_bestTop, .long m_bestBy, .ref a_weights, .ref a_shared, .int m_random, .int m_truePlace, .int m_trueWay, .int m_seconds, .int m_done, .int m_feelings, .int m_tries, .int m_leftOver, .int m_playDoor, .int m_playRing, .int m_isOpen, .int m_isOver, .int m_wasTried, .int m_hasPlayed, .ref a_feltNow, .ref a_last, .ref a_kept, .int m_hasSeconds, .int m_hasTurned, .int m_hasRound, .ref a_hasFeels, .ref a_isOn, .int m_firstAct, .long m_meanTop, .long m_meanBy, .ref a_order, .int m_rowMany, .int m_newSteps])), (a_c, .inl (cA.1 0, 1825, .inl g_c)), (a_there, .inl (cA.1 0, 10, .inl g_there)), (a_weights, .inl (cA.1 1, 100, .inr (.inl g_20)))] → va_S A s.heap H locs → lv_has ls 4 [(0, .ref h0), (1, .int d), (2, .int 4), (3, .int v_19)] → W p l e ({ frames := 10, cells := 0, slots := 0, locals := 276 }) s m args below meth c H locs 0 0 Q (F0 m 2 ls []) := by
    intro n
    induction n with
    | zero =>
      intro v_19 g_20 H locs ls hmu_hlp_30 hr_v_19 hP hD hS hl
      exact absurd hmu_hlp_30 (Nat.not_lt_zero _)
    | succ n ih_31 =>
      intro v_19 g_20 H locs ls hmu_hlp_30 hr_v_19 hP hD hS hl
      refine lv_iload_n hx hb dX12_findWorth_2 rfl (lv_at hl 3 rfl) ?_
      refine lv_iconst (v := 2) hx hb dX12_findWorth_3 (by decide) ?_
      refine lv_aload_n hx hb dX12_findWorth_4 rfl (lv_at hl 0 rfl) ?_
      refine va_get (D := G) (ci := 12) (v := .int m_thereMany) (C := RX12) (T := TX12) (N := 65) hx hb hts inT12 hown hK hP 0 rfl rfl 27 (by decide) (hts _ tw_1912) (fun _ h9 => h9) rfl dX12_findWorth_5 ?_
      refine lv_imul hx hb dX12_findWorth_8 ?_
      refine lv_topi (fun x_32 he_x_32 => ?_)
      have hq_x_32 := z_mulq he_x_32 hk_2 (rfl : m_thereMany.toInt = _) (by omega) (by omega)
      refine lv_icmp_ge (tgt := 35) hx hb dX12_findWorth_9 (by decide) (fun c_33 => ?_) (fun c_33 => ?_)
      · have b_34 := z_fgeT c_33
        refine lv_aload_n hx hb dX12_findWorth_35 rfl (lv_at hl 0 rfl) ?_
        refine lv_iconst (v := 0) hx hb dX12_findWorth_36 (by decide) ?_
        refine lv_iload_n hx hb dX12_findWorth_37 rfl (lv_at hl 2 rfl) ?_
        refine lv_iload_n hx hb dX12_findWorth_38 rfl (lv_at hl 1 rfl) ?_
        refine z_callVl (As := [.int 0, .int 4, .int d]) (rest := []) (wr := []) ⟨hx, hb, hml, hown, hts⟩ hK hE hT hP hD hS hA (r_worthOf_4 l G cA h0 m_status m_thrown m_above m_under a_traySort a_trayMany a_numbers a_tape m_taped m_textEnd m_faultKind m_faultAt m_bad m_badAt m_token m_at m_behind m_number m_letters m_word a_c a_words m_markMany a_there a_tried a_best a_found m_thereMany m_foundMany m_orderHow m_orderRing m_orderMany m_hasBest m_bestTop m_bestBy a_weights a_shared m_random m_truePlace m_trueWay m_seconds m_done m_feelings m_tries m_leftOver m_playDoor m_playRing m_isOpen m_isOver m_wasTried m_hasPlayed a_feltNow a_last a_kept m_hasSeconds m_hasTurned m_hasRound a_hasFeels a_isOn m_firstAct m_meanTop m_meanBy a_order m_rowMany m_newSteps g_c g_there g_20 0 d (by decide +kernel) hr_d hr_m_thereMany hC_g_c hC_g_there) lk_RX12_379 ⟨rfl, rfl⟩ ⟨Nat.le_of_ble_eq_true rfl, Nat.le_of_ble_eq_true rfl⟩ 12 rfl rfl rfl [0, 1, 2, 3] [] rfl rfl (by decide) rfl hl.1 rfl (lv_room (Nat.le_of_ble_eq_true rfl)) dX12_findWorth_39 ⟨Nat.le_of_ble_eq_true rfl, Nat.le_of_ble_eq_true rfl⟩ (fun r_37 u_38 H locs hw hP hD hS => ?_)
        obtain ⟨n_35, n_36⟩ := u_38
        try dsimp only at hw
        have hr_n_35 := hw
        have hpost : (0 ≤ n_35.toInt ∧ n_35.toInt ≤ 4) := hr_n_35
        exact hret _ _ _ _ _ _ (n_35, n_36) [0, 1, 2, 3] hP hD hS rfl (by decide) dX12_findWorth_42 hpost
      · have b_39 := z_fltF c_33
        refine lv_aload_n hx hb dX12_findWorth_12 rfl (lv_at hl 0 rfl) ?_
        refine va_get (D := G) (ci := 12) (v := .ref a_weights) (C := RX12) (T := TX12) (N := 65) hx hb hts inT12 hown hK hP 0 rfl rfl 35 (by decide) (hts _ tw_1919) (fun _ h9 => h9) rfl dX12_findWorth_13 ?_
        refine lv_iload_n hx hb dX12_findWorth_16 rfl (lv_at hl 3 rfl) ?_
        refine lv_aload_n hx hb dX12_findWorth_17 rfl (lv_at hl 0 rfl) ?_
        refine va_get (D := G) (ci := 12) (v := .ref a_c) (C := RX12) (T := TX12) (N := 65) hx hb hts inT12 hown hK hP 0 rfl rfl 20 (by decide) (hts _ tw_1905) (fun _ h9 => h9) rfl dX12_findWorth_18 ?_
        refine lv_sipush (v := 160) hx hb dX12_findWorth_21 (by decide) ?_
        refine lv_iload_n hx hb dX12_findWorth_24 rfl (lv_at hl 3 rfl) ?_
        refine lv_iadd hx hb dX12_findWorth_25 ?_
        refine lv_topi (fun x_40 he_x_40 => ?_)
        have hq_x_40 := z_addq he_x_40 hk_160 (rfl : v_19.toInt = _) (by omega) (by omega)
        refine va_iald hx hb hK hP 1 0 rfl rfl (z_inN (by omega) (by omega)) dX12_findWorth_26 ?_
        refine lv_topi (fun x_41 he_x_41 => ?_)
        refine lv_i2l (v := (x_41).toInt64) hx hb dX12_findWorth_27 rfl ?_
        refine lv_topl (fun x_42 he_x_42 => ?_)
        have hq_x_42 := z_i2l he_x_42
        have hL_x_41 := z_full x_41
        refine z_last hx hb hK hP hD hS 3 1 rfl rfl (z_inN (by omega) (by omega)) dX12_findWorth_28 (fun g_43 hg_g_43 H locs hP hD hS => ?_)
        obtain ⟨x_44, he_x_44⟩ : ∃ z : Int32, z = v_19 + 1 := ⟨_, rfl⟩
        have hq_x_44 := z_addq he_x_44 (rfl : v_19.toInt = _) hk_1 (by omega) (by omega)
        refine lv_iinc (v := x_44) (lv' := [(3, .int x_44), (0, .ref h0), (1, .int d), (2, .int 4)]) hx hb dX12_findWorth_29 hl (k := 3) rfl ((z_ofi (by decide +kernel)).trans he_x_44.symm) (by decide) rfl (fun ls hl => ?_)
        refine lv_goto (tgt := 2) hx hb dX12_findWorth_32 (by decide) ?_
        exact ih_31 x_44 g_43 H locs ls (by omega) (by omega) hP hD hS (lv_sub hl [1, 2, 3, 0] rfl)
  exact hlp_30 _ 0 g_weights _ _ _ (Nat.lt_succ_self _) (by decide +kernel) hP hD hS (lv_sub hl [1, 2, 3, 0] rfl)
set_option maxHeartbeats 4000000 in
set_option maxRecDepth 100000 in
theorem r_power2 (l : Launch) (G : va_G) (cA : zCA) (nn : Int32) (hr_nn : 0 ≤ nn.toInt ∧ nn.toInt ≤ 4) : zCl l yX12_power cX12_power 4 (some .long) ({ frames := 0, cells := 0, slots := 0, locals := 0 }) G cA [.int nn] [] (S := Unit) (fun (r : Int64) (u : Unit) => (1 ≤ r.toInt ∧ r.toInt ≤ 65536)) (fun (u : Unit) => []) 0 0 := by
  have hk_0 : (0 : Int32).toInt = 0 := by decide +kernel
  have hk_1 : (1 : Int32).toInt = 1 := by decide +kernel
  have hkl_1 : (1 : Int64).toInt = 1 := by decide +kernel
  have hkl_16 : (16 : Int64).toInt = 16 := by decide +kernel
  refine z_start2l (own := RX12) (by decide) (Nat.le_of_ble_eq_true rfl) rfl ?_
  intro p e s m args below meth c A ls Q hx hb hml hts hown hK hE hT hP hD hS hA hl hret
  have hl : lv_has ls 4 [(0, .int nn)] := hl
  refine lv_lconst (v := 1) hx hb dX12_power_0 (by decide) ?_
  refine lv_lstore_n (lv' := [(1, .long 1), (0, .int nn)]) hx hb dX12_power_1 rfl hl (by decide) rfl (fun ls hl => ?_)
  refine lv_iconst (v := 0) hx hb dX12_power_2 (by decide) ?_
  refine lv_istore_n (lv' := [(3, .int 0), (1, .long 1), (0, .int nn)]) hx hb dX12_power_3 rfl hl (by decide) rfl (fun ls hl => ?_)
  have hlp_19 : ∀ (n : Nat) (v_11 : Int64) (v_12 : Int32) (H : Heap) (locs : List Loc) (ls : Array Slot), (2147483647 - v_12.toInt).toNat < n → (1 ≤ v_11.toInt ∧ v_11.toInt ≤ 65536) → (0 ≤ v_12.toInt ∧ v_12.toInt ≤ 4) → ((v_12.toInt ≤ 0 → v_11.toInt ≤ 1) ∧ (v_12.toInt ≤ 1 → v_11.toInt ≤ 16) ∧ (v_12.toInt ≤ 2 → v_11.toInt ≤ 256) ∧ (v_12.toInt ≤ 3 → v_11.toInt ≤ 4096)) → va_P G vwCl [] H → va_D A [] → va_S A s.heap H locs → lv_has ls 4 [(0, .int nn), (1, .long v_11), (3, .int v_12)] → W p l e ({ frames := 0, cells := 0, slots := 0, locals := 0 }) s m args below meth c H locs 0 0 Q (F0 m 4 ls []) := by
    intro n
    induction n with
    | zero =>
      intro v_11 v_12 H locs ls hmu_hlp_19 hr_v_11 hr_v_12 hi_18 hP hD hS hl
      exact absurd hmu_hlp_19 (Nat.not_lt_zero _)
    | succ n ih_20 =>
      intro v_11 v_12 H locs ls hmu_hlp_19 hr_v_11 hr_v_12 hi_18 hP hD hS hl
      refine lv_iload_n hx hb dX12_power_4 rfl (lv_at hl 2 rfl) ?_
      refine lv_iload_n hx hb dX12_power_5 rfl (lv_at hl 0 rfl) ?_
      refine lv_icmp_ge (tgt := 21) hx hb dX12_power_6 (by decide) (fun c_21 => ?_) (fun c_21 => ?_)
      · have b_22 := z_fgeT c_21
        refine lv_lload_n hx hb dX12_power_21 rfl (lv_at hl 1 rfl) ?_
        have hpost : (1 ≤ v_11.toInt ∧ v_11.toInt ≤ 65536) := hr_v_11
        exact hret _ _ _ _ _ _ () [] hP hD hS rfl (by decide) dX12_power_22 hpost
      · have b_23 := z_fltF c_21
        refine lv_lload_n hx hb dX12_power_9 rfl (lv_at hl 1 rfl) ?_
        refine lv_ldc2 (v := 16) hx hb hown (hts _ tw_2470) dX12_power_10 ?_
        refine lv_lmul hx hb dX12_power_13 ?_
        refine lv_topl (fun x_24 he_x_24 => ?_)
        have hq_x_24 := z_mulql he_x_24 (rfl : v_11.toInt = _) hkl_16 (by omega) (by omega)
        refine lv_lstore_n (lv' := [(1, .long x_24), (0, .int nn), (3, .int v_12)]) hx hb dX12_power_14 rfl hl (by decide) rfl (fun ls hl => ?_)
        obtain ⟨x_25, he_x_25⟩ : ∃ z : Int32, z = v_12 + 1 := ⟨_, rfl⟩
        have hq_x_25 := z_addq he_x_25 (rfl : v_12.toInt = _) hk_1 (by omega) (by omega)
        refine lv_iinc (v := x_25) (lv' := [(3, .int x_25), (1, .long x_24), (0, .int nn)]) hx hb dX12_power_15 hl (k := 2) rfl ((z_ofi (by decide +kernel)).trans he_x_25.symm) (by decide) rfl (fun ls hl => ?_)
        refine lv_goto (tgt := 4) hx hb dX12_power_18 (by decide) ?_
        exact ih_20 x_24 x_25 H locs ls (by omega) (by omega) (by omega) (by omega) hP hD hS (lv_sub hl [2, 1, 0] rfl)
  exact hlp_19 _ 1 0 _ _ _ (Nat.lt_succ_self _) (by decide +kernel) (by decide +kernel) (by omega) hP hD hS (lv_sub hl [2, 1, 0] rfl)
set_option maxHeartbeats 4000000 in
set_option maxRecDepth 100000 in
theorem r_worth (l : Launch) (G : va_G) (cA : zCA) (h0 : Nat) (m_status : Int32) (m_thrown : Int32) (m_above : Int64) (m_under : Int64) (a_traySort : Nat) (a_trayMany : Nat) (a_numbers : Nat) (a_tape : Nat) (m_taped : Int32) (m_textEnd : Int32) (m_faultKind : Int32) (m_faultAt : Int32) (m_bad : Int32) (m_badAt : Int32) (m_token : Int32) (m_at : Int32) (m_behind : Int32) (m_number : Int32) (m_letters : Int32) (m_word : Int64) (a_c : Nat) (a_words : Nat) (m_markMany : Int32) (a_there : Nat) (a_tried : Nat) (a_best : Nat) (a_found : Nat) (m_thereMany : Int32) (m_foundMany : Int32) (m_orderHow : Int32) (m_orderRing : Int32) (m_orderMany : Int32) (m_hasBest : Int32) (m_bestTop : Int64) (m_bestBy : Int64) (a_weights : Nat) (a_shared : Nat) (m_random : Int32) (m_truePlace : Int32) (m_trueWay : Int32) (m_seconds : Int32) (m_done : Int32) (m_feelings : Int32) (m_tries : Int32) (m_leftOver : Int32) (m_playDoor : Int32) (m_playRing : Int32) (m_isOpen : Int32) (m_isOver : Int32) (m_wasTried : Int32) (m_hasPlayed : Int32) (a_feltNow : Nat) (a_last : Nat) (a_kept : Nat) (m_hasSeconds : Int32) (m_hasTurned : Int32) (m_hasRound : Int32) (a_hasFeels : Nat) (a_isOn : Nat) (m_firstAct : Int32) (m_meanTop : Int64) (m_meanBy : Int64) (a_order : Nat) (m_rowMany : Int32) (m_newSteps : Int32) (g_c : Nat → Int32) (g_there : Nat → Int32) (g_weights : Nat → Int64) (d : Int32) (k : Int32) (hr_m_thereMany : 0 ≤ m_thereMany.toInt ∧ m_thereMany.toInt ≤ 10) (hC_g_c : zC g_c) (hC_g_there : zRg 10 0 9 g_there) : zCi l yX12_worth cX12_worth 3 (some .boolean) ({ frames := 11, cells := 0, slots := 0, locals := 299 }) G cA [.ref h0, .int d, .int k] [(h0, .inr (12, [.int m_status, .int m_thrown, .long m_above, .long m_under, .ref a_traySort, .ref a_trayMany, .ref a_numbers, .ref a_tape, .int m_taped, .int m_textEnd, .int m_faultKind, .int m_faultAt, .int m_bad, .int m_badAt, .int m_token, .int m_at, .int m_behind, .int m_number, .int m_letters, .long m_word, .ref a_c, .ref a_words, .int m_markMany, .ref a_there, .ref a_tried, .ref a_best, .ref a_found, .int m_thereMany, .int m_foundMany, .int m_orderHow, .int m_orderRing, .int m_orderMany, .int m_hasBest, .long m_bestTop, .long m_bestBy, .ref a_weights, .ref a_shared, .int m_random, .int m_truePlace, .int m_trueWay, .int m_seconds, .int m_done, .int m_feelings, .int m_tries, .int m_leftOver, .int m_playDoor, .int m_playRing, .int m_isOpen, .int m_isOver, .int m_wasTried, .int m_hasPlayed, .ref a_feltNow, .ref a_last, .ref a_kept, .int m_hasSeconds, .int m_hasTurned, .int m_hasRound, .ref a_hasFeels, .ref a_isOn, .int m_firstAct, .long m_meanTop, .long m_meanBy, .ref a_order, .int m_rowMany, .int m_newSteps])), (a_c, .inl (cA.1 0, 1825, .inl g_c)), (a_there, .inl (cA.1 0, 10, .inl g_there)), (a_weights, .inl (cA.1 1, 100, .inr (.inl g_weights)))] (S := Int32 × Int32 × Int32 × (Nat → Int32) × Int64 × Int64 × (Nat → Int64) × Int32) (fun (r : Int32) (u : Int32 × Int32 × Int32 × (Nat → Int32) × Int64 × Int64 × (Nat → Int64) × Int32) => (r = 0 ∧ (0 ≤ u.2.1.toInt ∧ u.2.1.toInt ≤ 0) ∧ (0 ≤ u.2.2.1.toInt ∧ u.2.2.1.toInt ≤ 10) ∧ (zRg 10 0 9 u.2.2.2.1)) ∨ (r = 1 ∧ (0 ≤ u.1.toInt ∧ u.1.toInt ≤ 0) ∧ (0 ≤ u.2.1.toInt ∧ u.2.1.toInt ≤ 0) ∧ (0 ≤ u.2.2.1.toInt ∧ u.2.2.1.toInt ≤ 10) ∧ (zRg 10 0 9 u.2.2.2.1))) (fun (u : Int32 × Int32 × Int32 × (Nat → Int32) × Int64 × Int64 × (Nat → Int64) × Int32) => [(h0, .inr (12, [.int u.1, .int u.2.1, .long u.2.2.2.2.1, .long u.2.2.2.2.2.1, .ref a_traySort, .ref a_trayMany, .ref a_numbers, .ref a_tape, .int m_taped, .int m_textEnd, .int m_faultKind, .int m_faultAt, .int m_bad, .int m_badAt, .int m_token, .int m_at, .int m_behind, .int m_number, .int m_letters, .long m_word, .ref a_c, .ref a_words, .int m_markMany, .ref a_there, .ref a_tried, .ref a_best, .ref a_found, .int u.2.2.1, .int m_foundMany, .int m_orderHow, .int m_orderRing, .int m_orderMany, .int m_hasBest, .long m_bestTop, .long m_bestBy, .ref a_weights, .ref a_shared, .int m_random, .int m_truePlace, .int m_trueWay, .int m_seconds, .int m_done, .int m_feelings, .int m_tries, .int m_leftOver, .int m_playDoor, .int m_playRing, .int m_isOpen, .int m_isOver, .int m_wasTried, .int m_hasPlayed, .ref a_feltNow, .ref a_last, .ref a_kept, .int m_hasSeconds, .int m_hasTurned, .int m_hasRound, .ref a_hasFeels, .ref a_isOn, .int u.2.2.2.2.2.2.2, .long m_meanTop, .long m_meanBy, .ref a_order, .int m_rowMany, .int m_newSteps])), (a_c, .inl (cA.1 0, 1825, .inl g_c)), (a_there, .inl (cA.1 0, 10, .inl u.2.2.2.1)), (a_weights, .inl (cA.1 1, 100, .inr (.inl u.2.2.2.2.2.2.1)))]) 0 0 := by
  have hk_0 : (0 : Int32).toInt = 0 := by decide +kernel
  have hk_1 : (1 : Int32).toInt = 1 := by decide +kernel
  have hk_2 : (2 : Int32).toInt = 2 := by decide +kernel
  have hk_3 : (3 : Int32).toInt = 3 := by decide +kernel
  have hk_4 : (4 : Int32).toInt = 4 := by decide +kernel
  have hk_5 : (5 : Int32).toInt = 5 := by decide +kernel
  have hk_8 : (8 : Int32).toInt = 8 := by decide +kernel
  have hkl_0 : (0 : Int64).toInt = 0 := by decide +kernel
  have hkl_4 : (4 : Int64).toInt = 4 := by decide +kernel
  have hkl_1000000 : (1000000 : Int64).toInt = 1000000 := by decide +kernel
  refine z_start2z (own := RX12) (by decide) (Nat.le_of_ble_eq_true rfl) rfl ?_
  intro p e s m args below meth c A ls Q hx hb hml hts hown hK hE hT hP hD hS hA hl hret
  have hl : lv_has ls 3 [(0, .ref h0), (1, .int d), (2, .int k)] := hl
  refine lv_aload_n hx hb dX12_worth_0 rfl (lv_at hl 0 rfl) ?_
  refine lv_iconst (v := 0) hx hb dX12_worth_1 (by decide) ?_
  refine va_put (D := G) (ci := 12) (v := .int 0) (ty := .int) (C := RX12) (T := TX12) (N := 65) hx hb hts inT12 tyX12 tyX12_ok nmX12 hown hK hP hD hS 0 rfl rfl 1 (by decide) (hts _ tw_1886) (fun _ h9 => h9) rfl (tyX12_ok 1 (by decide)) rfl rfl (Nat.le_of_ble_eq_true rfl) dX12_worth_2 (fun H locs hP hD hS => ?_)
  refine lv_aload_n hx hb dX12_worth_5 rfl (lv_at hl 0 rfl) ?_
  refine lv_iconst (v := 0) hx hb dX12_worth_6 (by decide) ?_
  refine va_put (D := G) (ci := 12) (v := .int 0) (ty := .int) (C := RX12) (T := TX12) (N := 65) hx hb hts inT12 tyX12 tyX12_ok nmX12 hown hK hP hD hS 0 rfl rfl 0 (by decide) (hts _ tw_1885) (fun _ h9 => h9) rfl (tyX12_ok 0 (by decide)) rfl rfl (Nat.le_of_ble_eq_true rfl) dX12_worth_7 (fun H locs hP hD hS => ?_)
  refine lv_aload_n hx hb dX12_worth_10 rfl (lv_at hl 0 rfl) ?_
  refine lv_iload_n hx hb dX12_worth_11 rfl (lv_at hl 1 rfl) ?_
  refine z_callVi (As := [.int d]) (rest := []) (wr := [(a_there, .inl (cA.1 0, 10, .inl g_there)), (a_weights, .inl (cA.1 1, 100, .inr (.inl g_weights)))]) ⟨hx, hb, hml, hown, hts⟩ hK hE hT hP hD hS hA (r_isDoor l G cA h0 0 0 m_above m_under a_traySort a_trayMany a_numbers a_tape m_taped m_textEnd m_faultKind m_faultAt m_bad m_badAt m_token m_at m_behind m_number m_letters m_word a_c a_words m_markMany a_there a_tried a_best a_found m_thereMany m_foundMany m_orderHow m_orderRing m_orderMany m_hasBest m_bestTop m_bestBy a_weights a_shared m_random m_truePlace m_trueWay m_seconds m_done m_feelings m_tries m_leftOver m_playDoor m_playRing m_isOpen m_isOver m_wasTried m_hasPlayed a_feltNow a_last a_kept m_hasSeconds m_hasTurned m_hasRound a_hasFeels a_isOn m_firstAct m_meanTop m_meanBy a_order m_rowMany m_newSteps g_c d hC_g_c) lk_RX12_295 ⟨rfl, rfl⟩ ⟨Nat.le_of_ble_eq_true rfl, Nat.le_of_ble_eq_true rfl⟩ 12 rfl rfl rfl [0, 1] [2, 3] rfl rfl (by decide) rfl hl.1 rfl (lv_room (Nat.le_of_ble_eq_true rfl)) dX12_worth_12 ⟨Nat.le_of_ble_eq_true rfl, Nat.le_of_ble_eq_true rfl⟩ (fun r_1 u_2 H locs hw hP hD hS => ?_)
  obtain ⟨he_r_1, hw⟩ := hw
  rcases hw with ⟨rfl, -⟩ | ⟨rfl, hf_3, hf_4⟩
  · skip
    refine lv_if_ne (tgt := 24) hx hb dX12_worth_15 (by decide) (fun h9 => absurd (by decide +kernel) h9) (fun _ => ?_)
    refine lv_aload_n hx hb dX12_worth_18 rfl (lv_at hl 0 rfl) ?_
    refine lv_iconst (v := 2) hx hb dX12_worth_19 (by decide) ?_
    refine z_callVi (As := [.int 2]) (rest := []) (wr := [(a_there, .inl (cA.1 0, 10, .inl g_there)), (a_weights, .inl (cA.1 1, 100, .inr (.inl g_weights))), (a_c, .inl (cA.1 0, 1825, .inl g_c))]) ⟨hx, hb, hml, hown, hts⟩ hK hE hT hP hD hS hA (r_no l G cA h0 0 0 m_above m_under a_traySort a_trayMany a_numbers a_tape m_taped m_textEnd m_faultKind m_faultAt m_bad m_badAt m_token m_at m_behind m_number m_letters m_word a_c a_words m_markMany a_there a_tried a_best a_found m_thereMany m_foundMany m_orderHow m_orderRing m_orderMany m_hasBest m_bestTop m_bestBy a_weights a_shared m_random m_truePlace m_trueWay m_seconds m_done m_feelings m_tries m_leftOver m_playDoor m_playRing m_isOpen m_isOver m_wasTried m_hasPlayed a_feltNow a_last a_kept m_hasSeconds m_hasTurned m_hasRound a_hasFeels a_isOn m_firstAct m_meanTop m_meanBy a_order m_rowMany m_newSteps 2) lk_RX12_97 ⟨rfl, rfl⟩ ⟨Nat.le_of_ble_eq_true rfl, Nat.le_of_ble_eq_true rfl⟩ 12 rfl rfl rfl [2] [0, 1, 3] rfl rfl (by decide) rfl hl.1 rfl (lv_room (Nat.le_of_ble_eq_true rfl)) dX12_worth_20 ⟨Nat.le_of_ble_eq_true rfl, Nat.le_of_ble_eq_true rfl⟩ (fun r_6 u_7 H locs hw hP hD hS => ?_)
    obtain ⟨n_5, rfl⟩ : ∃ z, z = u_7 := ⟨_, rfl⟩
    obtain ⟨he_r_6, he_n_5, hw⟩ := hw
    obtain ⟨rfl, -⟩ := hw
    have hpost : ((0 : Int32) = 0 ∧ (0 ≤ (0 : Int32).toInt ∧ (0 : Int32).toInt ≤ 0) ∧ (0 ≤ m_thereMany.toInt ∧ m_thereMany.toInt ≤ 10) ∧ (zRg 10 0 9 g_there)) ∨ ((0 : Int32) = 1 ∧ (0 ≤ n_5.toInt ∧ n_5.toInt ≤ 0) ∧ (0 ≤ (0 : Int32).toInt ∧ (0 : Int32).toInt ≤ 0) ∧ (0 ≤ m_thereMany.toInt ∧ m_thereMany.toInt ≤ 10) ∧ (zRg 10 0 9 g_there)) := (Or.inl ⟨rfl, ⟨(by decide +kernel), hr_m_thereMany, hC_g_there⟩⟩)
    exact hret _ _ _ _ _ _ (n_5, 0, m_thereMany, g_there, m_above, m_under, g_weights, m_firstAct) [3, 2, 0, 1] hP hD hS rfl (by decide) dX12_worth_23 (Or.inl rfl) hpost
  · skip
    refine lv_if_ne (tgt := 24) hx hb dX12_worth_15 (by decide) (fun _ => ?_) (fun h9 => absurd h9 (by decide +kernel))
    refine lv_iload_n hx hb dX12_worth_24 rfl (lv_at hl 2 rfl) ?_
    refine lv_i2l (v := (k).toInt64) hx hb dX12_worth_25 rfl ?_
    refine lv_topl (fun x_8 he_x_8 => ?_)
    have hq_x_8 := z_i2l he_x_8
    have hL_k := z_full k
    refine lv_lconst (v := 0) hx hb dX12_worth_26 (by decide) ?_
    refine lv_ldc2 (v := 4) hx hb hown (hts _ tw_2454) dX12_worth_27 ?_
    refine z_callSi (As := [.long x_8, .long 0, .long 4]) (rest := []) (wr := [(a_there, .inl (cA.1 0, 10, .inl g_there)), (a_weights, .inl (cA.1 1, 100, .inr (.inl g_weights))), (h0, .inr (12, [.int 0, .int 0, .long m_above, .long m_under, .ref a_traySort, .ref a_trayMany, .ref a_numbers, .ref a_tape, .int m_taped, .int m_textEnd, .int m_faultKind, .int m_faultAt, .int m_bad, .int m_badAt, .int m_token, .int m_at, .int m_behind, .int m_number, .int m_letters, .long m_word, .ref a_c, .ref a_words, .int m_markMany, .ref a_there, .ref a_tried, .ref a_best, .ref a_found, .int m_thereMany, .int m_foundMany, .int m_orderHow, .int m_orderRing, .int m_orderMany, .int m_hasBest, .long m_bestTop, .long m_bestBy, .ref a_weights, .ref a_shared, .int m_random, .int m_truePlace, .int m_trueWay, .int m_seconds, .int m_done, .int m_feelings, .int m_tries, .int m_leftOver, .int m_playDoor, .int m_playRing, .int m_isOpen, .int m_isOver, .int m_wasTried, .int m_hasPlayed, .ref a_feltNow, .ref a_last, .ref a_kept, .int m_hasSeconds, .int m_hasTurned, .int m_hasRound, .ref a_hasFeels, .ref a_isOn, .int m_firstAct, .long m_meanTop, .long m_meanBy, .ref a_order, .int m_rowMany, .int m_newSteps])), (a_c, .inl (cA.1 0, 1825, .inl g_c))]) ⟨hx, hb, hml, hown, hts⟩ hK hE hT hP hD hS hA (r_isIn l G cA x_8 0 4) lk_RX12_117 ⟨rfl, rfl⟩ ⟨Nat.le_of_ble_eq_true rfl, Nat.le_of_ble_eq_true rfl⟩ [] [0, 1, 2, 3] rfl rfl (by decide) rfl hl.1 rfl (lv_room (Nat.le_of_ble_eq_true rfl)) dX12_worth_30 ⟨Nat.le_of_ble_eq_true rfl, Nat.le_of_ble_eq_true rfl⟩ (fun r_9 u_10 H locs hw hP hD hS => ?_)
    obtain ⟨he_r_9, hw⟩ := hw
    rcases hw with ⟨rfl, hf_11⟩ | ⟨rfl, hf_12⟩
    · skip
      refine lv_if_ne (tgt := 42) hx hb dX12_worth_33 (by decide) (fun h9 => absurd (by decide +kernel) h9) (fun _ => ?_)
      refine lv_aload_n hx hb dX12_worth_36 rfl (lv_at hl 0 rfl) ?_
      refine lv_iconst (v := 5) hx hb dX12_worth_37 (by decide) ?_
      refine z_callVi (As := [.int 5]) (rest := []) (wr := [(a_there, .inl (cA.1 0, 10, .inl g_there)), (a_weights, .inl (cA.1 1, 100, .inr (.inl g_weights))), (a_c, .inl (cA.1 0, 1825, .inl g_c))]) ⟨hx, hb, hml, hown, hts⟩ hK hE hT hP hD hS hA (r_no l G cA h0 0 0 m_above m_under a_traySort a_trayMany a_numbers a_tape m_taped m_textEnd m_faultKind m_faultAt m_bad m_badAt m_token m_at m_behind m_number m_letters m_word a_c a_words m_markMany a_there a_tried a_best a_found m_thereMany m_foundMany m_orderHow m_orderRing m_orderMany m_hasBest m_bestTop m_bestBy a_weights a_shared m_random m_truePlace m_trueWay m_seconds m_done m_feelings m_tries m_leftOver m_playDoor m_playRing m_isOpen m_isOver m_wasTried m_hasPlayed a_feltNow a_last a_kept m_hasSeconds m_hasTurned m_hasRound a_hasFeels a_isOn m_firstAct m_meanTop m_meanBy a_order m_rowMany m_newSteps 5) lk_RX12_97 ⟨rfl, rfl⟩ ⟨Nat.le_of_ble_eq_true rfl, Nat.le_of_ble_eq_true rfl⟩ 12 rfl rfl rfl [2] [0, 1, 3] rfl rfl (by decide) rfl hl.1 rfl (lv_room (Nat.le_of_ble_eq_true rfl)) dX12_worth_38 ⟨Nat.le_of_ble_eq_true rfl, Nat.le_of_ble_eq_true rfl⟩ (fun r_14 u_15 H locs hw hP hD hS => ?_)
      obtain ⟨n_13, rfl⟩ : ∃ z, z = u_15 := ⟨_, rfl⟩
      obtain ⟨he_r_14, he_n_13, hw⟩ := hw
      obtain ⟨rfl, -⟩ := hw
      have hpost : ((0 : Int32) = 0 ∧ (0 ≤ (0 : Int32).toInt ∧ (0 : Int32).toInt ≤ 0) ∧ (0 ≤ m_thereMany.toInt ∧ m_thereMany.toInt ≤ 10) ∧ (zRg 10 0 9 g_there)) ∨ ((0 : Int32) = 1 ∧ (0 ≤ n_13.toInt ∧ n_13.toInt ≤ 0) ∧ (0 ≤ (0 : Int32).toInt ∧ (0 : Int32).toInt ≤ 0) ∧ (0 ≤ m_thereMany.toInt ∧ m_thereMany.toInt ≤ 10) ∧ (zRg 10 0 9 g_there)) := (Or.inl ⟨rfl, ⟨(by decide +kernel), hr_m_thereMany, hC_g_there⟩⟩)
      exact hret _ _ _ _ _ _ (n_13, 0, m_thereMany, g_there, m_above, m_under, g_weights, m_firstAct) [3, 2, 0, 1] hP hD hS rfl (by decide) dX12_worth_41 (Or.inl rfl) hpost
    · skip
      refine lv_if_ne (tgt := 42) hx hb dX12_worth_33 (by decide) (fun _ => ?_) (fun h9 => absurd h9 (by decide +kernel))
      refine lv_aload_n hx hb dX12_worth_42 rfl (lv_at hl 0 rfl) ?_
      refine z_callVi (As := []) (rest := []) (wr := [(a_weights, .inl (cA.1 1, 100, .inr (.inl g_weights)))]) ⟨hx, hb, hml, hown, hts⟩ hK hE hT hP hD hS hA (r_isHeld l G cA h0 0 0 m_above m_under a_traySort a_trayMany a_numbers a_tape m_taped m_textEnd m_faultKind m_faultAt m_bad m_badAt m_token m_at m_behind m_number m_letters m_word a_c a_words m_markMany a_there a_tried a_best a_found m_thereMany m_foundMany m_orderHow m_orderRing m_orderMany m_hasBest m_bestTop m_bestBy a_weights a_shared m_random m_truePlace m_trueWay m_seconds m_done m_feelings m_tries m_leftOver m_playDoor m_playRing m_isOpen m_isOver m_wasTried m_hasPlayed a_feltNow a_last a_kept m_hasSeconds m_hasTurned m_hasRound a_hasFeels a_isOn m_firstAct m_meanTop m_meanBy a_order m_rowMany m_newSteps g_c g_there hr_m_thereMany hC_g_c hC_g_there) lk_RX12_323 ⟨rfl, rfl⟩ ⟨Nat.le_of_ble_eq_true rfl, Nat.le_of_ble_eq_true rfl⟩ 12 rfl rfl rfl [2, 3, 0] [1] rfl rfl (by decide) rfl hl.1 rfl (lv_room (Nat.le_of_ble_eq_true rfl)) dX12_worth_43 ⟨Nat.le_of_ble_eq_true rfl, Nat.le_of_ble_eq_true rfl⟩ (fun r_18 u_19 H locs hw hP hD hS => ?_)
      obtain ⟨n_16, n_17⟩ := u_19
      try dsimp only at hw
      rcases hw with ⟨rfl, hr_n_16, hC_n_17⟩ | ⟨rfl, hr_n_16, hC_n_17⟩
      · skip
        refine lv_if_ne (tgt := 56) hx hb dX12_worth_46 (by decide) (fun h9 => absurd (by decide +kernel) h9) (fun _ => ?_)
        refine lv_aload_n hx hb dX12_worth_49 rfl (lv_at hl 0 rfl) ?_
        refine lv_bipush (v := 8) hx hb dX12_worth_50 (by decide) ?_
        refine z_callVi (As := [.int 8]) (rest := []) (wr := [(a_weights, .inl (cA.1 1, 100, .inr (.inl g_weights))), (a_c, .inl (cA.1 0, 1825, .inl g_c)), (a_there, .inl (cA.1 0, 10, .inl n_17))]) ⟨hx, hb, hml, hown, hts⟩ hK hE hT hP hD hS hA (r_no l G cA h0 0 0 m_above m_under a_traySort a_trayMany a_numbers a_tape m_taped m_textEnd m_faultKind m_faultAt m_bad m_badAt m_token m_at m_behind m_number m_letters m_word a_c a_words m_markMany a_there a_tried a_best a_found n_16 m_foundMany m_orderHow m_orderRing m_orderMany m_hasBest m_bestTop m_bestBy a_weights a_shared m_random m_truePlace m_trueWay m_seconds m_done m_feelings m_tries m_leftOver m_playDoor m_playRing m_isOpen m_isOver m_wasTried m_hasPlayed a_feltNow a_last a_kept m_hasSeconds m_hasTurned m_hasRound a_hasFeels a_isOn m_firstAct m_meanTop m_meanBy a_order m_rowMany m_newSteps 8) lk_RX12_97 ⟨rfl, rfl⟩ ⟨Nat.le_of_ble_eq_true rfl, Nat.le_of_ble_eq_true rfl⟩ 12 rfl rfl rfl [1] [0, 2, 3] rfl rfl (by decide) rfl hl.1 rfl (lv_room (Nat.le_of_ble_eq_true rfl)) dX12_worth_52 ⟨Nat.le_of_ble_eq_true rfl, Nat.le_of_ble_eq_true rfl⟩ (fun r_21 u_22 H locs hw hP hD hS => ?_)
        obtain ⟨n_20, rfl⟩ : ∃ z, z = u_22 := ⟨_, rfl⟩
        obtain ⟨he_r_21, he_n_20, hw⟩ := hw
        obtain ⟨rfl, -⟩ := hw
        have hpost : ((0 : Int32) = 0 ∧ (0 ≤ (0 : Int32).toInt ∧ (0 : Int32).toInt ≤ 0) ∧ (0 ≤ n_16.toInt ∧ n_16.toInt ≤ 10) ∧ (zRg 10 0 9 n_17)) ∨ ((0 : Int32) = 1 ∧ (0 ≤ n_20.toInt ∧ n_20.toInt ≤ 0) ∧ (0 ≤ (0 : Int32).toInt ∧ (0 : Int32).toInt ≤ 0) ∧ (0 ≤ n_16.toInt ∧ n_16.toInt ≤ 10) ∧ (zRg 10 0 9 n_17)) := (Or.inl ⟨rfl, ⟨(by decide +kernel), hr_n_16, hC_n_17⟩⟩)
        exact hret _ _ _ _ _ _ (n_20, 0, n_16, n_17, m_above, m_under, g_weights, m_firstAct) [3, 1, 2, 0] hP hD hS rfl (by decide) dX12_worth_55 (Or.inl rfl) hpost
      · skip
        refine lv_if_ne (tgt := 56) hx hb dX12_worth_46 (by decide) (fun _ => ?_) (fun h9 => absurd h9 (by decide +kernel))
        rcases z_k5 (k := k) (by omega) (by omega) with rfl | rfl | rfl | rfl | rfl
        · skip
          refine lv_aload_n hx hb dX12_worth_56 rfl (lv_at hl 0 rfl) ?_
          refine lv_aload_n hx hb dX12_worth_57 rfl (lv_at hl 0 rfl) ?_
          refine lv_iload_n hx hb dX12_worth_58 rfl (lv_at hl 1 rfl) ?_
          refine lv_iload_n hx hb dX12_worth_59 rfl (lv_at hl 2 rfl) ?_
          refine z_callVl (As := [.int d, .int 0]) (rest := [.ref h0]) (wr := [(a_there, .inl (cA.1 0, 10, .inl n_17))]) ⟨hx, hb, hml, hown, hts⟩ hK hE hT hP hD hS hA (r_findWorth_0 l G cA h0 0 0 m_above m_under a_traySort a_trayMany a_numbers a_tape m_taped m_textEnd m_faultKind m_faultAt m_bad m_badAt m_token m_at m_behind m_number m_letters m_word a_c a_words m_markMany a_there a_tried a_best a_found n_16 m_foundMany m_orderHow m_orderRing m_orderMany m_hasBest m_bestTop m_bestBy a_weights a_shared m_random m_truePlace m_trueWay m_seconds m_done m_feelings m_tries m_leftOver m_playDoor m_playRing m_isOpen m_isOver m_wasTried m_hasPlayed a_feltNow a_last a_kept m_hasSeconds m_hasTurned m_hasRound a_hasFeels a_isOn m_firstAct m_meanTop m_meanBy a_order m_rowMany m_newSteps g_c g_weights d (by omega) hr_n_16 hC_g_c) lk_RX12_384 ⟨rfl, rfl⟩ ⟨Nat.le_of_ble_eq_true rfl, Nat.le_of_ble_eq_true rfl⟩ 12 rfl rfl rfl [1, 2, 0] [3] rfl rfl (by decide) rfl hl.1 rfl (lv_room (Nat.le_of_ble_eq_true rfl)) dX12_worth_60 ⟨Nat.le_of_ble_eq_true rfl, Nat.le_of_ble_eq_true rfl⟩ (fun r_24 u_25 H locs hw hP hD hS => ?_)
          obtain ⟨n_23, rfl⟩ : ∃ z, z = u_25 := ⟨_, rfl⟩
          have hr_r_24 := hw
          refine lv_ldc2 (v := 1000000) hx hb hown (hts _ tw_2374) dX12_worth_63 ?_
          refine lv_iload_n hx hb dX12_worth_66 rfl (lv_at hl 2 rfl) ?_
          refine z_callSl (As := [.int 0]) (rest := [.long 1000000, .long r_24, .ref h0]) (wr := [(a_there, .inl (cA.1 0, 10, .inl n_17)), (h0, .inr (12, [.int 0, .int 0, .long m_above, .long m_under, .ref a_traySort, .ref a_trayMany, .ref a_numbers, .ref a_tape, .int m_taped, .int m_textEnd, .int m_faultKind, .int m_faultAt, .int m_bad, .int m_badAt, .int m_token, .int m_at, .int m_behind, .int m_number, .int m_letters, .long m_word, .ref a_c, .ref a_words, .int m_markMany, .ref a_there, .ref a_tried, .ref a_best, .ref a_found, .int n_16, .int m_foundMany, .int m_orderHow, .int m_orderRing, .int m_orderMany, .int m_hasBest, .long m_bestTop, .long m_bestBy, .ref a_weights, .ref a_shared, .int m_random, .int m_truePlace, .int m_trueWay, .int m_seconds, .int m_done, .int m_feelings, .int m_tries, .int m_leftOver, .int m_playDoor, .int m_playRing, .int m_isOpen, .int m_isOver, .int m_wasTried, .int m_hasPlayed, .ref a_feltNow, .ref a_last, .ref a_kept, .int m_hasSeconds, .int m_hasTurned, .int m_hasRound, .ref a_hasFeels, .ref a_isOn, .int m_firstAct, .long m_meanTop, .long m_meanBy, .ref a_order, .int m_rowMany, .int m_newSteps])), (a_c, .inl (cA.1 0, 1825, .inl g_c)), (a_weights, .inl (cA.1 1, 100, .inr (.inl n_23)))]) ⟨hx, hb, hml, hown, hts⟩ hK hE hT hP hD hS hA (r_power2 l G cA 0 (by decide +kernel)) lk_RX12_376 ⟨rfl, rfl⟩ ⟨Nat.le_of_ble_eq_true rfl, Nat.le_of_ble_eq_true rfl⟩ [] [0, 1, 2, 3] rfl rfl (by decide) rfl hl.1 rfl (lv_room (Nat.le_of_ble_eq_true rfl)) dX12_worth_67 ⟨Nat.le_of_ble_eq_true rfl, Nat.le_of_ble_eq_true rfl⟩ (fun r_26 u_27 H locs hw hP hD hS => ?_)
          have hr_r_26 := hw
          refine lv_lmul hx hb dX12_worth_70 ?_
          refine lv_topl (fun x_28 he_x_28 => ?_)
          have hq_x_28 := z_mulql he_x_28 hkl_1000000 (rfl : r_26.toInt = _) (by omega) (by omega)
          refine z_callVi (As := [.long r_24, .long x_28]) (rest := []) (wr := [(a_there, .inl (cA.1 0, 10, .inl n_17)), (a_c, .inl (cA.1 0, 1825, .inl g_c)), (a_weights, .inl (cA.1 1, 100, .inr (.inl n_23)))]) ⟨hx, hb, hml, hown, hts⟩ hK hE hT hP hD hS hA (r_fraction l G cA h0 0 0 m_above m_under a_traySort a_trayMany a_numbers a_tape m_taped m_textEnd m_faultKind m_faultAt m_bad m_badAt m_token m_at m_behind m_number m_letters m_word a_c a_words m_markMany a_there a_tried a_best a_found n_16 m_foundMany m_orderHow m_orderRing m_orderMany m_hasBest m_bestTop m_bestBy a_weights a_shared m_random m_truePlace m_trueWay m_seconds m_done m_feelings m_tries m_leftOver m_playDoor m_playRing m_isOpen m_isOver m_wasTried m_hasPlayed a_feltNow a_last a_kept m_hasSeconds m_hasTurned m_hasRound a_hasFeels a_isOn m_firstAct m_meanTop m_meanBy a_order m_rowMany m_newSteps r_24 x_28 (by omega)) lk_RX12_352 ⟨rfl, rfl⟩ ⟨Nat.le_of_ble_eq_true rfl, Nat.le_of_ble_eq_true rfl⟩ 12 rfl rfl rfl [1] [0, 2, 3] rfl rfl (by decide) rfl hl.1 rfl (lv_room (Nat.le_of_ble_eq_true rfl)) dX12_worth_71 ⟨Nat.le_of_ble_eq_true rfl, Nat.le_of_ble_eq_true rfl⟩ (fun r_31 u_32 H locs hw hP hD hS => ?_)
          obtain ⟨n_29, n_30⟩ := u_32
          try dsimp only at hw
          obtain ⟨rfl, -⟩ := hw
          have hpost : ((1 : Int32) = 0 ∧ (0 ≤ (0 : Int32).toInt ∧ (0 : Int32).toInt ≤ 0) ∧ (0 ≤ n_16.toInt ∧ n_16.toInt ≤ 10) ∧ (zRg 10 0 9 n_17)) ∨ ((1 : Int32) = 1 ∧ (0 ≤ (0 : Int32).toInt ∧ (0 : Int32).toInt ≤ 0) ∧ (0 ≤ (0 : Int32).toInt ∧ (0 : Int32).toInt ≤ 0) ∧ (0 ≤ n_16.toInt ∧ n_16.toInt ≤ 10) ∧ (zRg 10 0 9 n_17)) := (Or.inr ⟨rfl, ⟨(by decide +kernel), (by decide +kernel), hr_n_16, hC_n_17⟩⟩)
          exact hret _ _ _ _ _ _ (0, 0, n_16, n_17, n_29, n_30, n_23, m_firstAct) [3, 1, 0, 2] hP hD hS rfl (by decide) dX12_worth_74 (Or.inr rfl) hpost
        · skip
          refine lv_aload_n hx hb dX12_worth_56 rfl (lv_at hl 0 rfl) ?_
          refine lv_aload_n hx hb dX12_worth_57 rfl (lv_at hl 0 rfl) ?_
          refine lv_iload_n hx hb dX12_worth_58 rfl (lv_at hl 1 rfl) ?_
          refine lv_iload_n hx hb dX12_worth_59 rfl (lv_at hl 2 rfl) ?_
          refine z_callVl (As := [.int d, .int 1]) (rest := [.ref h0]) (wr := []) ⟨hx, hb, hml, hown, hts⟩ hK hE hT hP hD hS hA (r_findWorth_1 l G cA h0 0 0 m_above m_under a_traySort a_trayMany a_numbers a_tape m_taped m_textEnd m_faultKind m_faultAt m_bad m_badAt m_token m_at m_behind m_number m_letters m_word a_c a_words m_markMany a_there a_tried a_best a_found n_16 m_foundMany m_orderHow m_orderRing m_orderMany m_hasBest m_bestTop m_bestBy a_weights a_shared m_random m_truePlace m_trueWay m_seconds m_done m_feelings m_tries m_leftOver m_playDoor m_playRing m_isOpen m_isOver m_wasTried m_hasPlayed a_feltNow a_last a_kept m_hasSeconds m_hasTurned m_hasRound a_hasFeels a_isOn m_firstAct m_meanTop m_meanBy a_order m_rowMany m_newSteps g_c n_17 g_weights d (by omega) hr_n_16 hC_g_c hC_n_17) lk_RX12_384 ⟨rfl, rfl⟩ ⟨Nat.le_of_ble_eq_true rfl, Nat.le_of_ble_eq_true rfl⟩ 12 rfl rfl rfl [1, 2, 3, 0] [] rfl rfl (by decide) rfl hl.1 rfl (lv_room (Nat.le_of_ble_eq_true rfl)) dX12_worth_60 ⟨Nat.le_of_ble_eq_true rfl, Nat.le_of_ble_eq_true rfl⟩ (fun r_35 u_36 H locs hw hP hD hS => ?_)
          obtain ⟨n_33, n_34⟩ := u_36
          try dsimp only at hw
          refine lv_ldc2 (v := 1000000) hx hb hown (hts _ tw_2374) dX12_worth_63 ?_
          refine lv_iload_n hx hb dX12_worth_66 rfl (lv_at hl 2 rfl) ?_
          refine z_callSl (As := [.int 1]) (rest := [.long 1000000, .long r_35, .ref h0]) (wr := [(h0, .inr (12, [.int 0, .int 0, .long m_above, .long m_under, .ref a_traySort, .ref a_trayMany, .ref a_numbers, .ref a_tape, .int m_taped, .int m_textEnd, .int m_faultKind, .int m_faultAt, .int m_bad, .int m_badAt, .int m_token, .int m_at, .int m_behind, .int m_number, .int m_letters, .long m_word, .ref a_c, .ref a_words, .int m_markMany, .ref a_there, .ref a_tried, .ref a_best, .ref a_found, .int n_16, .int m_foundMany, .int m_orderHow, .int m_orderRing, .int m_orderMany, .int m_hasBest, .long m_bestTop, .long m_bestBy, .ref a_weights, .ref a_shared, .int m_random, .int m_truePlace, .int m_trueWay, .int m_seconds, .int m_done, .int m_feelings, .int m_tries, .int m_leftOver, .int m_playDoor, .int m_playRing, .int m_isOpen, .int m_isOver, .int m_wasTried, .int m_hasPlayed, .ref a_feltNow, .ref a_last, .ref a_kept, .int m_hasSeconds, .int m_hasTurned, .int m_hasRound, .ref a_hasFeels, .ref a_isOn, .int n_33, .long m_meanTop, .long m_meanBy, .ref a_order, .int m_rowMany, .int m_newSteps])), (a_c, .inl (cA.1 0, 1825, .inl g_c)), (a_there, .inl (cA.1 0, 10, .inl n_17)), (a_weights, .inl (cA.1 1, 100, .inr (.inl n_34)))]) ⟨hx, hb, hml, hown, hts⟩ hK hE hT hP hD hS hA (r_power2 l G cA 1 (by decide +kernel)) lk_RX12_376 ⟨rfl, rfl⟩ ⟨Nat.le_of_ble_eq_true rfl, Nat.le_of_ble_eq_true rfl⟩ [] [0, 1, 2, 3] rfl rfl (by decide) rfl hl.1 rfl (lv_room (Nat.le_of_ble_eq_true rfl)) dX12_worth_67 ⟨Nat.le_of_ble_eq_true rfl, Nat.le_of_ble_eq_true rfl⟩ (fun r_37 u_38 H locs hw hP hD hS => ?_)
          have hr_r_37 := hw
          refine lv_lmul hx hb dX12_worth_70 ?_
          refine lv_topl (fun x_39 he_x_39 => ?_)
          have hq_x_39 := z_mulql he_x_39 hkl_1000000 (rfl : r_37.toInt = _) (by omega) (by omega)
          refine z_callVi (As := [.long r_35, .long x_39]) (rest := []) (wr := [(a_c, .inl (cA.1 0, 1825, .inl g_c)), (a_there, .inl (cA.1 0, 10, .inl n_17)), (a_weights, .inl (cA.1 1, 100, .inr (.inl n_34)))]) ⟨hx, hb, hml, hown, hts⟩ hK hE hT hP hD hS hA (r_fraction l G cA h0 0 0 m_above m_under a_traySort a_trayMany a_numbers a_tape m_taped m_textEnd m_faultKind m_faultAt m_bad m_badAt m_token m_at m_behind m_number m_letters m_word a_c a_words m_markMany a_there a_tried a_best a_found n_16 m_foundMany m_orderHow m_orderRing m_orderMany m_hasBest m_bestTop m_bestBy a_weights a_shared m_random m_truePlace m_trueWay m_seconds m_done m_feelings m_tries m_leftOver m_playDoor m_playRing m_isOpen m_isOver m_wasTried m_hasPlayed a_feltNow a_last a_kept m_hasSeconds m_hasTurned m_hasRound a_hasFeels a_isOn n_33 m_meanTop m_meanBy a_order m_rowMany m_newSteps r_35 x_39 (by omega)) lk_RX12_352 ⟨rfl, rfl⟩ ⟨Nat.le_of_ble_eq_true rfl, Nat.le_of_ble_eq_true rfl⟩ 12 rfl rfl rfl [0] [1, 2, 3] rfl rfl (by decide) rfl hl.1 rfl (lv_room (Nat.le_of_ble_eq_true rfl)) dX12_worth_71 ⟨Nat.le_of_ble_eq_true rfl, Nat.le_of_ble_eq_true rfl⟩ (fun r_42 u_43 H locs hw hP hD hS => ?_)
          obtain ⟨n_40, n_41⟩ := u_43
          try dsimp only at hw
          obtain ⟨rfl, -⟩ := hw
          have hpost : ((1 : Int32) = 0 ∧ (0 ≤ (0 : Int32).toInt ∧ (0 : Int32).toInt ≤ 0) ∧ (0 ≤ n_16.toInt ∧ n_16.toInt ≤ 10) ∧ (zRg 10 0 9 n_17)) ∨ ((1 : Int32) = 1 ∧ (0 ≤ (0 : Int32).toInt ∧ (0 : Int32).toInt ≤ 0) ∧ (0 ≤ (0 : Int32).toInt ∧ (0 : Int32).toInt ≤ 0) ∧ (0 ≤ n_16.toInt ∧ n_16.toInt ≤ 10) ∧ (zRg 10 0 9 n_17)) := (Or.inr ⟨rfl, ⟨(by decide +kernel), (by decide +kernel), hr_n_16, hC_n_17⟩⟩)
          exact hret _ _ _ _ _ _ (0, 0, n_16, n_17, n_40, n_41, n_34, n_33) [3, 0, 1, 2] hP hD hS rfl (by decide) dX12_worth_74 (Or.inr rfl) hpost
        · skip
          refine lv_aload_n hx hb dX12_worth_56 rfl (lv_at hl 0 rfl) ?_
          refine lv_aload_n hx hb dX12_worth_57 rfl (lv_at hl 0 rfl) ?_
          refine lv_iload_n hx hb dX12_worth_58 rfl (lv_at hl 1 rfl) ?_
          refine lv_iload_n hx hb dX12_worth_59 rfl (lv_at hl 2 rfl) ?_
          refine z_callVl (As := [.int d, .int 2]) (rest := [.ref h0]) (wr := []) ⟨hx, hb, hml, hown, hts⟩ hK hE hT hP hD hS hA (r_findWorth_2 l G cA h0 0 0 m_above m_under a_traySort a_trayMany a_numbers a_tape m_taped m_textEnd m_faultKind m_faultAt m_bad m_badAt m_token m_at m_behind m_number m_letters m_word a_c a_words m_markMany a_there a_tried a_best a_found n_16 m_foundMany m_orderHow m_orderRing m_orderMany m_hasBest m_bestTop m_bestBy a_weights a_shared m_random m_truePlace m_trueWay m_seconds m_done m_feelings m_tries m_leftOver m_playDoor m_playRing m_isOpen m_isOver m_wasTried m_hasPlayed a_feltNow a_last a_kept m_hasSeconds m_hasTurned m_hasRound a_hasFeels a_isOn m_firstAct m_meanTop m_meanBy a_order m_rowMany m_newSteps g_c n_17 g_weights d (by omega) hr_n_16 hC_g_c hC_n_17) lk_RX12_384 ⟨rfl, rfl⟩ ⟨Nat.le_of_ble_eq_true rfl, Nat.le_of_ble_eq_true rfl⟩ 12 rfl rfl rfl [1, 2, 3, 0] [] rfl rfl (by decide) rfl hl.1 rfl (lv_room (Nat.le_of_ble_eq_true rfl)) dX12_worth_60 ⟨Nat.le_of_ble_eq_true rfl, Nat.le_of_ble_eq_true rfl⟩ (fun r_46 u_47 H locs hw hP hD hS => ?_)
          obtain ⟨n_44, n_45⟩ := u_47
          try dsimp only at hw
          refine lv_ldc2 (v := 1000000) hx hb hown (hts _ tw_2374) dX12_worth_63 ?_
          refine lv_iload_n hx hb dX12_worth_66 rfl (lv_at hl 2 rfl) ?_
          refine z_callSl (As := [.int 2]) (rest := [.long 1000000, .long r_46, .ref h0]) (wr := [(h0, .inr (12, [.int 0, .int 0, .long m_above, .long m_under, .ref a_traySort, .ref a_trayMany, .ref a_numbers, .ref a_tape, .int m_taped, .int m_textEnd, .int m_faultKind, .int m_faultAt, .int m_bad, .int m_badAt, .int m_token, .int m_at, .int m_behind, .int m_number, .int m_letters, .long m_word, .ref a_c, .ref a_words, .int m_markMany, .ref a_there, .ref a_tried, .ref a_best, .ref a_found, .int n_16, .int m_foundMany, .int m_orderHow, .int m_orderRing, .int m_orderMany, .int m_hasBest, .long m_bestTop, .long m_bestBy, .ref a_weights, .ref a_shared, .int m_random, .int m_truePlace, .int m_trueWay, .int m_seconds, .int m_done, .int m_feelings, .int m_tries, .int m_leftOver, .int m_playDoor, .int m_playRing, .int m_isOpen, .int m_isOver, .int m_wasTried, .int m_hasPlayed, .ref a_feltNow, .ref a_last, .ref a_kept, .int m_hasSeconds, .int m_hasTurned, .int m_hasRound, .ref a_hasFeels, .ref a_isOn, .int n_44, .long m_meanTop, .long m_meanBy, .ref a_order, .int m_rowMany, .int m_newSteps])), (a_c, .inl (cA.1 0, 1825, .inl g_c)), (a_there, .inl (cA.1 0, 10, .inl n_17)), (a_weights, .inl (cA.1 1, 100, .inr (.inl n_45)))]) ⟨hx, hb, hml, hown, hts⟩ hK hE hT hP hD hS hA (r_power2 l G cA 2 (by decide +kernel)) lk_RX12_376 ⟨rfl, rfl⟩ ⟨Nat.le_of_ble_eq_true rfl, Nat.le_of_ble_eq_true rfl⟩ [] [0, 1, 2, 3] rfl rfl (by decide) rfl hl.1 rfl (lv_room (Nat.le_of_ble_eq_true rfl)) dX12_worth_67 ⟨Nat.le_of_ble_eq_true rfl, Nat.le_of_ble_eq_true rfl⟩ (fun r_48 u_49 H locs hw hP hD hS => ?_)
          have hr_r_48 := hw
          refine lv_lmul hx hb dX12_worth_70 ?_
          refine lv_topl (fun x_50 he_x_50 => ?_)
          have hq_x_50 := z_mulql he_x_50 hkl_1000000 (rfl : r_48.toInt = _) (by omega) (by omega)
          refine z_callVi (As := [.long r_46, .long x_50]) (rest := []) (wr := [(a_c, .inl (cA.1 0, 1825, .inl g_c)), (a_there, .inl (cA.1 0, 10, .inl n_17)), (a_weights, .inl (cA.1 1, 100, .inr (.inl n_45)))]) ⟨hx, hb, hml, hown, hts⟩ hK hE hT hP hD hS hA (r_fraction l G cA h0 0 0 m_above m_under a_traySort a_trayMany a_numbers a_tape m_taped m_textEnd m_faultKind m_faultAt m_bad m_badAt m_token m_at m_behind m_number m_letters m_word a_c a_words m_markMany a_there a_tried a_best a_found n_16 m_foundMany m_orderHow m_orderRing m_orderMany m_hasBest m_bestTop m_bestBy a_weights a_shared m_random m_truePlace m_trueWay m_seconds m_done m_feelings m_tries m_leftOver m_playDoor m_playRing m_isOpen m_isOver m_wasTried m_hasPlayed a_feltNow a_last a_kept m_hasSeconds m_hasTurned m_hasRound a_hasFeels a_isOn n_44 m_meanTop m_meanBy a_order m_rowMany m_newSteps r_46 x_50 (by omega)) lk_RX12_352 ⟨rfl, rfl⟩ ⟨Nat.le_of_ble_eq_true rfl, Nat.le_of_ble_eq_true rfl⟩ 12 rfl rfl rfl [0] [1, 2, 3] rfl rfl (by decide) rfl hl.1 rfl (lv_room (Nat.le_of_ble_eq_true rfl)) dX12_worth_71 ⟨Nat.le_of_ble_eq_true rfl, Nat.le_of_ble_eq_true rfl⟩ (fun r_53 u_54 H locs hw hP hD hS => ?_)
          obtain ⟨n_51, n_52⟩ := u_54
          try dsimp only at hw
          obtain ⟨rfl, -⟩ := hw
          have hpost : ((1 : Int32) = 0 ∧ (0 ≤ (0 : Int32).toInt ∧ (0 : Int32).toInt ≤ 0) ∧ (0 ≤ n_16.toInt ∧ n_16.toInt ≤ 10) ∧ (zRg 10 0 9 n_17)) ∨ ((1 : Int32) = 1 ∧ (0 ≤ (0 : Int32).toInt ∧ (0 : Int32).toInt ≤ 0) ∧ (0 ≤ (0 : Int32).toInt ∧ (0 : Int32).toInt ≤ 0) ∧ (0 ≤ n_16.toInt ∧ n_16.toInt ≤ 10) ∧ (zRg 10 0 9 n_17)) := (Or.inr ⟨rfl, ⟨(by decide +kernel), (by decide +kernel), hr_n_16, hC_n_17⟩⟩)
          exact hret _ _ _ _ _ _ (0, 0, n_16, n_17, n_51, n_52, n_45, n_44) [3, 0, 1, 2] hP hD hS rfl (by decide) dX12_worth_74 (Or.inr rfl) hpost
        · skip
          refine lv_aload_n hx hb dX12_worth_56 rfl (lv_at hl 0 rfl) ?_
          refine lv_aload_n hx hb dX12_worth_57 rfl (lv_at hl 0 rfl) ?_
          refine lv_iload_n hx hb dX12_worth_58 rfl (lv_at hl 1 rfl) ?_
          refine lv_iload_n hx hb dX12_worth_59 rfl (lv_at hl 2 rfl) ?_
          refine z_callVl (As := [.int d, .int 3]) (rest := [.ref h0]) (wr := []) ⟨hx, hb, hml, hown, hts⟩ hK hE hT hP hD hS hA (r_findWorth_3 l G cA h0 0 0 m_above m_under a_traySort a_trayMany a_numbers a_tape m_taped m_textEnd m_faultKind m_faultAt m_bad m_badAt m_token m_at m_behind m_number m_letters m_word a_c a_words m_markMany a_there a_tried a_best a_found n_16 m_foundMany m_orderHow m_orderRing m_orderMany m_hasBest m_bestTop m_bestBy a_weights a_shared m_random m_truePlace m_trueWay m_seconds m_done m_feelings m_tries m_leftOver m_playDoor m_playRing m_isOpen m_isOver m_wasTried m_hasPlayed a_feltNow a_last a_kept m_hasSeconds m_hasTurned m_hasRound a_hasFeels a_isOn m_firstAct m_meanTop m_meanBy a_order m_rowMany m_newSteps g_c n_17 g_weights d (by omega) hr_n_16 hC_g_c hC_n_17) lk_RX12_384 ⟨rfl, rfl⟩ ⟨Nat.le_of_ble_eq_true rfl, Nat.le_of_ble_eq_true rfl⟩ 12 rfl rfl rfl [1, 2, 3, 0] [] rfl rfl (by decide) rfl hl.1 rfl (lv_room (Nat.le_of_ble_eq_true rfl)) dX12_worth_60 ⟨Nat.le_of_ble_eq_true rfl, Nat.le_of_ble_eq_true rfl⟩ (fun r_57 u_58 H locs hw hP hD hS => ?_)
          obtain ⟨n_55, n_56⟩ := u_58
          try dsimp only at hw
          refine lv_ldc2 (v := 1000000) hx hb hown (hts _ tw_2374) dX12_worth_63 ?_
          refine lv_iload_n hx hb dX12_worth_66 rfl (lv_at hl 2 rfl) ?_
          refine z_callSl (As := [.int 3]) (rest := [.long 1000000, .long r_57, .ref h0]) (wr := [(h0, .inr (12, [.int 0, .int 0, .long m_above, .long m_under, .ref a_traySort, .ref a_trayMany, .ref a_numbers, .ref a_tape, .int m_taped, .int m_textEnd, .int m_faultKind, .int m_faultAt, .int m_bad, .int m_badAt, .int m_token, .int m_at, .int m_behind, .int m_number, .int m_letters, .long m_word, .ref a_c, .ref a_words, .int m_markMany, .ref a_there, .ref a_tried, .ref a_best, .ref a_found, .int n_16, .int m_foundMany, .int m_orderHow, .int m_orderRing, .int m_orderMany, .int m_hasBest, .long m_bestTop, .long m_bestBy, .ref a_weights, .ref a_shared, .int m_random, .int m_truePlace, .int m_trueWay, .int m_seconds, .int m_done, .int m_feelings, .int m_tries, .int m_leftOver, .int m_playDoor, .int m_playRing, .int m_isOpen, .int m_isOver, .int m_wasTried, .int m_hasPlayed, .ref a_feltNow, .ref a_last, .ref a_kept, .int m_hasSeconds, .int m_hasTurned, .int m_hasRound, .ref a_hasFeels, .ref a_isOn, .int n_55, .long m_meanTop, .long m_meanBy, .ref a_order, .int m_rowMany, .int m_newSteps])), (a_c, .inl (cA.1 0, 1825, .inl g_c)), (a_there, .inl (cA.1 0, 10, .inl n_17)), (a_weights, .inl (cA.1 1, 100, .inr (.inl n_56)))]) ⟨hx, hb, hml, hown, hts⟩ hK hE hT hP hD hS hA (r_power2 l G cA 3 (by decide +kernel)) lk_RX12_376 ⟨rfl, rfl⟩ ⟨Nat.le_of_ble_eq_true rfl, Nat.le_of_ble_eq_true rfl⟩ [] [0, 1, 2, 3] rfl rfl (by decide) rfl hl.1 rfl (lv_room (Nat.le_of_ble_eq_true rfl)) dX12_worth_67 ⟨Nat.le_of_ble_eq_true rfl, Nat.le_of_ble_eq_true rfl⟩ (fun r_59 u_60 H locs hw hP hD hS => ?_)
          have hr_r_59 := hw
          refine lv_lmul hx hb dX12_worth_70 ?_
          refine lv_topl (fun x_61 he_x_61 => ?_)
          have hq_x_61 := z_mulql he_x_61 hkl_1000000 (rfl : r_59.toInt = _) (by omega) (by omega)
          refine z_callVi (As := [.long r_57, .long x_61]) (rest := []) (wr := [(a_c, .inl (cA.1 0, 1825, .inl g_c)), (a_there, .inl (cA.1 0, 10, .inl n_17)), (a_weights, .inl (cA.1 1, 100, .inr (.inl n_56)))]) ⟨hx, hb, hml, hown, hts⟩ hK hE hT hP hD hS hA (r_fraction l G cA h0 0 0 m_above m_under a_traySort a_trayMany a_numbers a_tape m_taped m_textEnd m_faultKind m_faultAt m_bad m_badAt m_token m_at m_behind m_number m_letters m_word a_c a_words m_markMany a_there a_tried a_best a_found n_16 m_foundMany m_orderHow m_orderRing m_orderMany m_hasBest m_bestTop m_bestBy a_weights a_shared m_random m_truePlace m_trueWay m_seconds m_done m_feelings m_tries m_leftOver m_playDoor m_playRing m_isOpen m_isOver m_wasTried m_hasPlayed a_feltNow a_last a_kept m_hasSeconds m_hasTurned m_hasRound a_hasFeels a_isOn n_55 m_meanTop m_meanBy a_order m_rowMany m_newSteps r_57 x_61 (by omega)) lk_RX12_352 ⟨rfl, rfl⟩ ⟨Nat.le_of_ble_eq_true rfl, Nat.le_of_ble_eq_true rfl⟩ 12 rfl rfl rfl [0] [1, 2, 3] rfl rfl (by decide) rfl hl.1 rfl (lv_room (Nat.le_of_ble_eq_true rfl)) dX12_worth_71 ⟨Nat.le_of_ble_eq_true rfl, Nat.le_of_ble_eq_true rfl⟩ (fun r_64 u_65 H locs hw hP hD hS => ?_)
          obtain ⟨n_62, n_63⟩ := u_65
          try dsimp only at hw
          obtain ⟨rfl, -⟩ := hw
          have hpost : ((1 : Int32) = 0 ∧ (0 ≤ (0 : Int32).toInt ∧ (0 : Int32).toInt ≤ 0) ∧ (0 ≤ n_16.toInt ∧ n_16.toInt ≤ 10) ∧ (zRg 10 0 9 n_17)) ∨ ((1 : Int32) = 1 ∧ (0 ≤ (0 : Int32).toInt ∧ (0 : Int32).toInt ≤ 0) ∧ (0 ≤ (0 : Int32).toInt ∧ (0 : Int32).toInt ≤ 0) ∧ (0 ≤ n_16.toInt ∧ n_16.toInt ≤ 10) ∧ (zRg 10 0 9 n_17)) := (Or.inr ⟨rfl, ⟨(by decide +kernel), (by decide +kernel), hr_n_16, hC_n_17⟩⟩)
          exact hret _ _ _ _ _ _ (0, 0, n_16, n_17, n_62, n_63, n_56, n_55) [3, 0, 1, 2] hP hD hS rfl (by decide) dX12_worth_74 (Or.inr rfl) hpost
        · skip
          refine lv_aload_n hx hb dX12_worth_56 rfl (lv_at hl 0 rfl) ?_
          refine lv_aload_n hx hb dX12_worth_57 rfl (lv_at hl 0 rfl) ?_
          refine lv_iload_n hx hb dX12_worth_58 rfl (lv_at hl 1 rfl) ?_
          refine lv_iload_n hx hb dX12_worth_59 rfl (lv_at hl 2 rfl) ?_
          refine z_callVl (As := [.int d, .int 4]) (rest := [.ref h0]) (wr := []) ⟨hx, hb, hml, hown, hts⟩ hK hE hT hP hD hS hA (r_findWorth_4 l G cA h0 0 0 m_above m_under a_traySort a_trayMany a_numbers a_tape m_taped m_textEnd m_faultKind m_faultAt m_bad m_badAt m_token m_at m_behind m_number m_letters m_word a_c a_words m_markMany a_there a_tried a_best a_found n_16 m_foundMany m_orderHow m_orderRing m_orderMany m_hasBest m_bestTop m_bestBy a_weights a_shared m_random m_truePlace m_trueWay m_seconds m_done m_feelings m_tries m_leftOver m_playDoor m_playRing m_isOpen m_isOver m_wasTried m_hasPlayed a_feltNow a_last a_kept m_hasSeconds m_hasTurned m_hasRound a_hasFeels a_isOn m_firstAct m_meanTop m_meanBy a_order m_rowMany m_newSteps g_c n_17 g_weights d (by omega) hr_n_16 hC_g_c hC_n_17) lk_RX12_384 ⟨rfl, rfl⟩ ⟨Nat.le_of_ble_eq_true rfl, Nat.le_of_ble_eq_true rfl⟩ 12 rfl rfl rfl [1, 2, 3, 0] [] rfl rfl (by decide) rfl hl.1 rfl (lv_room (Nat.le_of_ble_eq_true rfl)) dX12_worth_60 ⟨Nat.le_of_ble_eq_true rfl, Nat.le_of_ble_eq_true rfl⟩ (fun r_68 u_69 H locs hw hP hD hS => ?_)
          obtain ⟨n_66, n_67⟩ := u_69
          try dsimp only at hw
          have hr_n_66 := hw
          refine lv_ldc2 (v := 1000000) hx hb hown (hts _ tw_2374) dX12_worth_63 ?_
          refine lv_iload_n hx hb dX12_worth_66 rfl (lv_at hl 2 rfl) ?_
          refine z_callSl (As := [.int 4]) (rest := [.long 1000000, .long r_68, .ref h0]) (wr := [(h0, .inr (12, [.int 0, .int 0, .long m_above, .long m_under, .ref a_traySort, .ref a_trayMany, .ref a_numbers, .ref a_tape, .int m_taped, .int m_textEnd, .int m_faultKind, .int m_faultAt, .int m_bad, .int m_badAt, .int m_token, .int m_at, .int m_behind, .int m_number, .int m_letters, .long m_word, .ref a_c, .ref a_words, .int m_markMany, .ref a_there, .ref a_tried, .ref a_best, .ref a_found, .int n_16, .int m_foundMany, .int m_orderHow, .int m_orderRing, .int m_orderMany, .int m_hasBest, .long m_bestTop, .long m_bestBy, .ref a_weights, .ref a_shared, .int m_random, .int m_truePlace, .int m_trueWay, .int m_seconds, .int m_done, .int m_feelings, .int m_tries, .int m_leftOver, .int m_playDoor, .int m_playRing, .int m_isOpen, .int m_isOver, .int m_wasTried, .int m_hasPlayed, .ref a_feltNow, .ref a_last, .ref a_kept, .int m_hasSeconds, .int m_hasTurned, .int m_hasRound, .ref a_hasFeels, .ref a_isOn, .int n_66, .long m_meanTop, .long m_meanBy, .ref a_order, .int m_rowMany, .int m_newSteps])), (a_c, .inl (cA.1 0, 1825, .inl g_c)), (a_there, .inl (cA.1 0, 10, .inl n_17)), (a_weights, .inl (cA.1 1, 100, .inr (.inl n_67)))]) ⟨hx, hb, hml, hown, hts⟩ hK hE hT hP hD hS hA (r_power2 l G cA 4 (by decide +kernel)) lk_RX12_376 ⟨rfl, rfl⟩ ⟨Nat.le_of_ble_eq_true rfl, Nat.le_of_ble_eq_true rfl⟩ [] [0, 1, 2, 3] rfl rfl (by decide) rfl hl.1 rfl (lv_room (Nat.le_of_ble_eq_true rfl)) dX12_worth_67 ⟨Nat.le_of_ble_eq_true rfl, Nat.le_of_ble_eq_true rfl⟩ (fun r_70 u_71 H locs hw hP hD hS => ?_)
          have hr_r_70 := hw
          refine lv_lmul hx hb dX12_worth_70 ?_
          refine lv_topl (fun x_72 he_x_72 => ?_)
          have hq_x_72 := z_mulql he_x_72 hkl_1000000 (rfl : r_70.toInt = _) (by omega) (by omega)
          refine z_callVi (As := [.long r_68, .long x_72]) (rest := []) (wr := [(a_c, .inl (cA.1 0, 1825, .inl g_c)), (a_there, .inl (cA.1 0, 10, .inl n_17)), (a_weights, .inl (cA.1 1, 100, .inr (.inl n_67)))]) ⟨hx, hb, hml, hown, hts⟩ hK hE hT hP hD hS hA (r_fraction l G cA h0 0 0 m_above m_under a_traySort a_trayMany a_numbers a_tape m_taped m_textEnd m_faultKind m_faultAt m_bad m_badAt m_token m_at m_behind m_number m_letters m_word a_c a_words m_markMany a_there a_tried a_best a_found n_16 m_foundMany m_orderHow m_orderRing m_orderMany m_hasBest m_bestTop m_bestBy a_weights a_shared m_random m_truePlace m_trueWay m_seconds m_done m_feelings m_tries m_leftOver m_playDoor m_playRing m_isOpen m_isOver m_wasTried m_hasPlayed a_feltNow a_last a_kept m_hasSeconds m_hasTurned m_hasRound a_hasFeels a_isOn n_66 m_meanTop m_meanBy a_order m_rowMany m_newSteps r_68 x_72 (by omega)) lk_RX12_352 ⟨rfl, rfl⟩ ⟨Nat.le_of_ble_eq_true rfl, Nat.le_of_ble_eq_true rfl⟩ 12 rfl rfl rfl [0] [1, 2, 3] rfl rfl (by decide) rfl hl.1 rfl (lv_room (Nat.le_of_ble_eq_true rfl)) dX12_worth_71 ⟨Nat.le_of_ble_eq_true rfl, Nat.le_of_ble_eq_true rfl⟩ (fun r_75 u_76 H locs hw hP hD hS => ?_)
          obtain ⟨n_73, n_74⟩ := u_76
          try dsimp only at hw
          obtain ⟨rfl, -⟩ := hw
          have hpost : ((1 : Int32) = 0 ∧ (0 ≤ (0 : Int32).toInt ∧ (0 : Int32).toInt ≤ 0) ∧ (0 ≤ n_16.toInt ∧ n_16.toInt ≤ 10) ∧ (zRg 10 0 9 n_17)) ∨ ((1 : Int32) = 1 ∧ (0 ≤ (0 : Int32).toInt ∧ (0 : Int32).toInt ≤ 0) ∧ (0 ≤ (0 : Int32).toInt ∧ (0 : Int32).toInt ≤ 0) ∧ (0 ≤ n_16.toInt ∧ n_16.toInt ≤ 10) ∧ (zRg 10 0 9 n_17)) := (Or.inr ⟨rfl, ⟨(by decide +kernel), (by decide +kernel), hr_n_16, hC_n_17⟩⟩)
          exact hret _ _ _ _ _ _ (0, 0, n_16, n_17, n_73, n_74, n_67, n_66) [3, 0, 1, 2] hP hD hS rfl (by decide) dX12_worth_74 (Or.inr rfl) hpost
set_option maxHeartbeats 4000000 in
set_option maxRecDepth 100000 in
theorem r_next (l : Launch) (G : va_G) (cA : zCA) (h0 : Nat) (m_status : Int32) (m_thrown : Int32) (m_above : Int64) (m_under : Int64) (a_traySort : Nat) (a_trayMany : Nat) (a_numbers : Nat) (a_tape : Nat) (m_taped : Int32) (m_textEnd : Int32) (m_faultKind : Int32) (m_faultAt : Int32) (m_bad : Int32) (m_badAt : Int32) (m_token : Int32) (m_at : Int32) (m_behind : Int32) (m_number : Int32) (m_letters : Int32) (m_word : Int64) (a_c : Nat) (a_words : Nat) (m_markMany : Int32) (a_there : Nat) (a_tried : Nat) (a_best : Nat) (a_found : Nat) (m_thereMany : Int32) (m_foundMany : Int32) (m_orderHow : Int32) (m_orderRing : Int32) (m_orderMany : Int32) (m_hasBest : Int32) (m_bestTop : Int64) (m_bestBy : Int64) (a_weights : Nat) (a_shared : Nat) (m_random : Int32) (m_truePlace : Int32) (m_trueWay : Int32) (m_seconds : Int32) (m_done : Int32) (m_feelings : Int32) (m_tries : Int32) (m_leftOver : Int32) (m_playDoor : Int32) (m_playRing : Int32) (m_isOpen : Int32) (m_isOver : Int32) (m_wasTried : Int32) (m_hasPlayed : Int32) (a_feltNow : Nat) (a_last : Nat) (a_kept : Nat) (m_hasSeconds : Int32) (m_hasTurned : Int32) (m_hasRound : Int32) (a_hasFeels : Nat) (a_isOn : Nat) (m_firstAct : Int32) (m_meanTop : Int64) (m_meanBy : Int64) (a_order : Nat) (m_rowMany : Int32) (m_newSteps : Int32) (g_c : Nat → Int32) (g_there : Nat → Int32) (g_weights : Nat → Int64) (d : Int32) (k : Int32) (hr_m_thereMany : 0 ≤ m_thereMany.toInt ∧ m_thereMany.toInt ≤ 10) (hC_g_c : zC g_c) (hC_g_there : zRg 10 0 9 g_there) : zCi l yX12_next cX12_next 3 (some .int) ({ frames := 11, cells := 0, slots := 0, locals := 299 }) G cA [.ref h0, .int d, .int k] [(h0, .inr (12, [.int m_status, .int m_thrown, .long m_above, .long m_under, .ref a_traySort, .ref a_trayMany, .ref a_numbers, .ref a_tape, .int m_taped, .int m_textEnd, .int m_faultKind, .int m_faultAt, .int m_bad, .int m_badAt, .int m_token, .int m_at, .int m_behind, .int m_number, .int m_letters, .long m_word, .ref a_c, .ref a_words, .int m_markMany, .ref a_there, .ref a_tried, .ref a_best, .ref a_found, .int m_thereMany, .int m_foundMany, .int m_orderHow, .int m_orderRing, .int m_orderMany, .int m_hasBest, .long m_bestTop, .long m_bestBy, .ref a_weights, .ref a_shared, .int m_random, .int m_truePlace, .int m_trueWay, .int m_seconds, .int m_done, .int m_feelings, .int m_tries, .int m_leftOver, .int m_playDoor, .int m_playRing, .int m_isOpen, .int m_isOver, .int m_wasTried, .int m_hasPlayed, .ref a_feltNow, .ref a_last, .ref a_kept, .int m_hasSeconds, .int m_hasTurned, .int m_hasRound, .ref a_hasFeels, .ref a_isOn, .int m_firstAct, .long m_meanTop, .long m_meanBy, .ref a_order, .int m_rowMany, .int m_newSteps])), (a_c, .inl (cA.1 0, 1825, .inl g_c)), (a_there, .inl (cA.1 0, 10, .inl g_there)), (a_weights, .inl (cA.1 1, 100, .inr (.inl g_weights)))] (S := Int32 × Int32 × Int32 × (Nat → Int32) × Int32 × (Nat → Int64)) (fun (r : Int32) (u : Int32 × Int32 × Int32 × (Nat → Int32) × Int32 × (Nat → Int64)) => (0 ≤ u.2.1.toInt ∧ u.2.1.toInt ≤ 0) ∧ (0 ≤ u.2.2.1.toInt ∧ u.2.2.1.toInt ≤ 10) ∧ (zRg 10 0 9 u.2.2.2.1)) (fun (u : Int32 × Int32 × Int32 × (Nat → Int32) × Int32 × (Nat → Int64)) => [(h0, .inr (12, [.int u.1, .int u.2.1, .long m_above, .long m_under, .ref a_traySort, .ref a_trayMany, .ref a_numbers, .ref a_tape, .int m_taped, .int m_textEnd, .int m_faultKind, .int m_faultAt, .int m_bad, .int m_badAt, .int m_token, .int m_at, .int m_behind, .int m_number, .int m_letters, .long m_word, .ref a_c, .ref a_words, .int m_markMany, .ref a_there, .ref a_tried, .ref a_best, .ref a_found, .int u.2.2.1, .int m_foundMany, .int m_orderHow, .int m_orderRing, .int m_orderMany, .int m_hasBest, .long m_bestTop, .long m_bestBy, .ref a_weights, .ref a_shared, .int m_random, .int m_truePlace, .int m_trueWay, .int m_seconds, .int m_done, .int m_feelings, .int m_tries, .int m_leftOver, .int m_playDoor, .int m_playRing, .int m_isOpen, .int m_isOver, .int m_wasTried, .int m_hasPlayed, .ref a_feltNow, .ref a_last, .ref a_kept, .int m_hasSeconds, .int m_hasTurned, .int m_hasRound, .ref a_hasFeels, .ref a_isOn, .int u.2.2.2.2.1, .long m_meanTop, .long m_meanBy, .ref a_order, .int m_rowMany, .int m_newSteps])), (a_c, .inl (cA.1 0, 1825, .inl g_c)), (a_there, .inl (cA.1 0, 10, .inl u.2.2.2.1)), (a_weights, .inl (cA.1 1, 100, .inr (.inl u.2.2.2.2.2)))]) 0 0 := by
  have hk_0 : (0 : Int32).toInt = 0 := by decide +kernel
  have hk_1 : (1 : Int32).toInt = 1 := by decide +kernel
  have hk_2 : (2 : Int32).toInt = 2 := by decide +kernel
  have hk_3 : (3 : Int32).toInt = 3 := by decide +kernel
  have hk_4 : (4 : Int32).toInt = 4 := by decide +kernel
  have hk_5 : (5 : Int32).toInt = 5 := by decide +kernel
  have hk_8 : (8 : Int32).toInt = 8 := by decide +kernel
  have hkl_1 : (1 : Int64).toInt = 1 := by decide +kernel
  have hkl_4 : (4 : Int64).toInt = 4 := by decide +kernel
  refine z_start2i (own := RX12) (by decide) (Nat.le_of_ble_eq_true rfl) rfl ?_
  intro p e s m args below meth c A ls Q hx hb hml hts hown hK hE hT hP hD hS hA hl hret
  have hl : lv_has ls 3 [(0, .ref h0), (1, .int d), (2, .int k)] := hl
  refine lv_aload_n hx hb dX12_next_0 rfl (lv_at hl 0 rfl) ?_
  refine lv_iconst (v := 0) hx hb dX12_next_1 (by decide) ?_
  refine va_put (D := G) (ci := 12) (v := .int 0) (ty := .int) (C := RX12) (T := TX12) (N := 65) hx hb hts inT12 tyX12 tyX12_ok nmX12 hown hK hP hD hS 0 rfl rfl 1 (by decide) (hts _ tw_1886) (fun _ h9 => h9) rfl (tyX12_ok 1 (by decide)) rfl rfl (Nat.le_of_ble_eq_true rfl) dX12_next_2 (fun H locs hP hD hS => ?_)
  refine lv_aload_n hx hb dX12_next_5 rfl (lv_at hl 0 rfl) ?_
  refine lv_iconst (v := 0) hx hb dX12_next_6 (by decide) ?_
  refine va_put (D := G) (ci := 12) (v := .int 0) (ty := .int) (C := RX12) (T := TX12) (N := 65) hx hb hts inT12 tyX12 tyX12_ok nmX12 hown hK hP hD hS 0 rfl rfl 0 (by decide) (hts _ tw_1885) (fun _ h9 => h9) rfl (tyX12_ok 0 (by decide)) rfl rfl (Nat.le_of_ble_eq_true rfl) dX12_next_7 (fun H locs hP hD hS => ?_)
  refine lv_aload_n hx hb dX12_next_10 rfl (lv_at hl 0 rfl) ?_
  refine lv_iload_n hx hb dX12_next_11 rfl (lv_at hl 1 rfl) ?_
  refine z_callVi (As := [.int d]) (rest := []) (wr := [(a_there, .inl (cA.1 0, 10, .inl g_there)), (a_weights, .inl (cA.1 1, 100, .inr (.inl g_weights)))]) ⟨hx, hb, hml, hown, hts⟩ hK hE hT hP hD hS hA (r_isDoor l G cA h0 0 0 m_above m_under a_traySort a_trayMany a_numbers a_tape m_taped m_textEnd m_faultKind m_faultAt m_bad m_badAt m_token m_at m_behind m_number m_letters m_word a_c a_words m_markMany a_there a_tried a_best a_found m_thereMany m_foundMany m_orderHow m_orderRing m_orderMany m_hasBest m_bestTop m_bestBy a_weights a_shared m_random m_truePlace m_trueWay m_seconds m_done m_feelings m_tries m_leftOver m_playDoor m_playRing m_isOpen m_isOver m_wasTried m_hasPlayed a_feltNow a_last a_kept m_hasSeconds m_hasTurned m_hasRound a_hasFeels a_isOn m_firstAct m_meanTop m_meanBy a_order m_rowMany m_newSteps g_c d hC_g_c) lk_RX12_295 ⟨rfl, rfl⟩ ⟨Nat.le_of_ble_eq_true rfl, Nat.le_of_ble_eq_true rfl⟩ 12 rfl rfl rfl [0, 1] [2, 3] rfl rfl (by decide) rfl hl.1 rfl (lv_room (Nat.le_of_ble_eq_true rfl)) dX12_next_12 ⟨Nat.le_of_ble_eq_true rfl, Nat.le_of_ble_eq_true rfl⟩ (fun r_1 u_2 H locs hw hP hD hS => ?_)
  obtain ⟨he_r_1, hw⟩ := hw
  rcases hw with ⟨rfl, -⟩ | ⟨rfl, hf_3, hf_4⟩
  · skip
    refine lv_if_ne (tgt := 24) hx hb dX12_next_15 (by decide) (fun h9 => absurd (by decide +kernel) h9) (fun _ => ?_)
    refine lv_aload_n hx hb dX12_next_18 rfl (lv_at hl 0 rfl) ?_
    refine lv_iconst (v := 2) hx hb dX12_next_19 (by decide) ?_
    refine z_callVi (As := [.int 2]) (rest := []) (wr := [(a_there, .inl (cA.1 0, 10, .inl g_there)), (a_weights, .inl (cA.1 1, 100, .inr (.inl g_weights))), (a_c, .inl (cA.1 0, 1825, .inl g_c))]) ⟨hx, hb, hml, hown, hts⟩ hK hE hT hP hD hS hA (r_refuse l G cA h0 0 0 m_above m_under a_traySort a_trayMany a_numbers a_tape m_taped m_textEnd m_faultKind m_faultAt m_bad m_badAt m_token m_at m_behind m_number m_letters m_word a_c a_words m_markMany a_there a_tried a_best a_found m_thereMany m_foundMany m_orderHow m_orderRing m_orderMany m_hasBest m_bestTop m_bestBy a_weights a_shared m_random m_truePlace m_trueWay m_seconds m_done m_feelings m_tries m_leftOver m_playDoor m_playRing m_isOpen m_isOver m_wasTried m_hasPlayed a_feltNow a_last a_kept m_hasSeconds m_hasTurned m_hasRound a_hasFeels a_isOn m_firstAct m_meanTop m_meanBy a_order m_rowMany m_newSteps 2) lk_RX12_269 ⟨rfl, rfl⟩ ⟨Nat.le_of_ble_eq_true rfl, Nat.le_of_ble_eq_true rfl⟩ 12 rfl rfl rfl [2] [0, 1, 3] rfl rfl (by decide) rfl hl.1 rfl (lv_room (Nat.le_of_ble_eq_true rfl)) dX12_next_20 ⟨Nat.le_of_ble_eq_true rfl, Nat.le_of_ble_eq_true rfl⟩ (fun r_6 u_7 H locs hw hP hD hS => ?_)
    obtain ⟨n_5, rfl⟩ : ∃ z, z = u_7 := ⟨_, rfl⟩
    obtain ⟨he_r_6, he_n_5, hw⟩ := hw
    have hr_r_6 := hw
    have hpost : (0 ≤ (0 : Int32).toInt ∧ (0 : Int32).toInt ≤ 0) ∧ (0 ≤ m_thereMany.toInt ∧ m_thereMany.toInt ≤ 10) ∧ (zRg 10 0 9 g_there) := ⟨(by decide +kernel), hr_m_thereMany, hC_g_there⟩
    exact hret _ _ _ _ _ _ (n_5, 0, m_thereMany, g_there, m_firstAct, g_weights) [3, 2, 0, 1] hP hD hS rfl (by decide) dX12_next_23 hpost
  · skip
    refine lv_if_ne (tgt := 24) hx hb dX12_next_15 (by decide) (fun _ => ?_) (fun h9 => absurd h9 (by decide +kernel))
    refine lv_iload_n hx hb dX12_next_24 rfl (lv_at hl 2 rfl) ?_
    refine lv_i2l (v := (k).toInt64) hx hb dX12_next_25 rfl ?_
    refine lv_topl (fun x_8 he_x_8 => ?_)
    have hq_x_8 := z_i2l he_x_8
    have hL_k := z_full k
    refine lv_lconst (v := 1) hx hb dX12_next_26 (by decide) ?_
    refine lv_ldc2 (v := 4) hx hb hown (hts _ tw_2454) dX12_next_27 ?_
    refine z_callSi (As := [.long x_8, .long 1, .long 4]) (rest := []) (wr := [(a_there, .inl (cA.1 0, 10, .inl g_there)), (a_weights, .inl (cA.1 1, 100, .inr (.inl g_weights))), (h0, .inr (12, [.int 0, .int 0, .long m_above, .long m_under, .ref a_traySort, .ref a_trayMany, .ref a_numbers, .ref a_tape, .int m_taped, .int m_textEnd, .int m_faultKind, .int m_faultAt, .int m_bad, .int m_badAt, .int m_token, .int m_at, .int m_behind, .int m_number, .int m_letters, .long m_word, .ref a_c, .ref a_words, .int m_markMany, .ref a_there, .ref a_tried, .ref a_best, .ref a_found, .int m_thereMany, .int m_foundMany, .int m_orderHow, .int m_orderRing, .int m_orderMany, .int m_hasBest, .long m_bestTop, .long m_bestBy, .ref a_weights, .ref a_shared, .int m_random, .int m_truePlace, .int m_trueWay, .int m_seconds, .int m_done, .int m_feelings, .int m_tries, .int m_leftOver, .int m_playDoor, .int m_playRing, .int m_isOpen, .int m_isOver, .int m_wasTried, .int m_hasPlayed, .ref a_feltNow, .ref a_last, .ref a_kept, .int m_hasSeconds, .int m_hasTurned, .int m_hasRound, .ref a_hasFeels, .ref a_isOn, .int m_firstAct, .long m_meanTop, .long m_meanBy, .ref a_order, .int m_rowMany, .int m_newSteps])), (a_c, .inl (cA.1 0, 1825, .inl g_c))]) ⟨hx, hb, hml, hown, hts⟩ hK hE hT hP hD hS hA (r_isIn l G cA x_8 1 4) lk_RX12_117 ⟨rfl, rfl⟩ ⟨Nat.le_of_ble_eq_true rfl, Nat.le_of_ble_eq_true rfl⟩ [] [0, 1, 2, 3] rfl rfl (by decide) rfl hl.1 rfl (lv_room (Nat.le_of_ble_eq_true rfl)) dX12_next_30 ⟨Nat.le_of_ble_eq_true rfl, Nat.le_of_ble_eq_true rfl⟩ (fun r_9 u_10 H locs hw hP hD hS => ?_)
    obtain ⟨he_r_9, hw⟩ := hw
    rcases hw with ⟨rfl, hf_11⟩ | ⟨rfl, hf_12⟩
    · skip
      refine lv_if_ne (tgt := 42) hx hb dX12_next_33 (by decide) (fun h9 => absurd (by decide +kernel) h9) (fun _ => ?_)
      refine lv_aload_n hx hb dX12_next_36 rfl (lv_at hl 0 rfl) ?_
      refine lv_iconst (v := 5) hx hb dX12_next_37 (by decide) ?_
      refine z_callVi (As := [.int 5]) (rest := []) (wr := [(a_there, .inl (cA.1 0, 10, .inl g_there)), (a_weights, .inl (cA.1 1, 100, .inr (.inl g_weights))), (a_c, .inl (cA.1 0, 1825, .inl g_c))]) ⟨hx, hb, hml, hown, hts⟩ hK hE hT hP hD hS hA (r_refuse l G cA h0 0 0 m_above m_under a_traySort a_trayMany a_numbers a_tape m_taped m_textEnd m_faultKind m_faultAt m_bad m_badAt m_token m_at m_behind m_number m_letters m_word a_c a_words m_markMany a_there a_tried a_best a_found m_thereMany m_foundMany m_orderHow m_orderRing m_orderMany m_hasBest m_bestTop m_bestBy a_weights a_shared m_random m_truePlace m_trueWay m_seconds m_done m_feelings m_tries m_leftOver m_playDoor m_playRing m_isOpen m_isOver m_wasTried m_hasPlayed a_feltNow a_last a_kept m_hasSeconds m_hasTurned m_hasRound a_hasFeels a_isOn m_firstAct m_meanTop m_meanBy a_order m_rowMany m_newSteps 5) lk_RX12_269 ⟨rfl, rfl⟩ ⟨Nat.le_of_ble_eq_true rfl, Nat.le_of_ble_eq_true rfl⟩ 12 rfl rfl rfl [2] [0, 1, 3] rfl rfl (by decide) rfl hl.1 rfl (lv_room (Nat.le_of_ble_eq_true rfl)) dX12_next_38 ⟨Nat.le_of_ble_eq_true rfl, Nat.le_of_ble_eq_true rfl⟩ (fun r_14 u_15 H locs hw hP hD hS => ?_)
      obtain ⟨n_13, rfl⟩ : ∃ z, z = u_15 := ⟨_, rfl⟩
      obtain ⟨he_r_14, he_n_13, hw⟩ := hw
      have hr_r_14 := hw
      have hpost : (0 ≤ (0 : Int32).toInt ∧ (0 : Int32).toInt ≤ 0) ∧ (0 ≤ m_thereMany.toInt ∧ m_thereMany.toInt ≤ 10) ∧ (zRg 10 0 9 g_there) := ⟨(by decide +kernel), hr_m_thereMany, hC_g_there⟩
      exact hret _ _ _ _ _ _ (n_13, 0, m_thereMany, g_there, m_firstAct, g_weights) [3, 2, 0, 1] hP hD hS rfl (by decide) dX12_next_41 hpost
    · skip
      refine lv_if_ne (tgt := 42) hx hb dX12_next_33 (by decide) (fun _ => ?_) (fun h9 => absurd h9 (by decide +kernel))
      refine lv_aload_n hx hb dX12_next_42 rfl (lv_at hl 0 rfl) ?_
      refine z_callVi (As := []) (rest := []) (wr := [(a_weights, .inl (cA.1 1, 100, .inr (.inl g_weights)))]) ⟨hx, hb, hml, hown, hts⟩ hK hE hT hP hD hS hA (r_isHeld l G cA h0 0 0 m_above m_under a_traySort a_trayMany a_numbers a_tape m_taped m_textEnd m_faultKind m_faultAt m_bad m_badAt m_token m_at m_behind m_number m_letters m_word a_c a_words m_markMany a_there a_tried a_best a_found m_thereMany m_foundMany m_orderHow m_orderRing m_orderMany m_hasBest m_bestTop m_bestBy a_weights a_shared m_random m_truePlace m_trueWay m_seconds m_done m_feelings m_tries m_leftOver m_playDoor m_playRing m_isOpen m_isOver m_wasTried m_hasPlayed a_feltNow a_last a_kept m_hasSeconds m_hasTurned m_hasRound a_hasFeels a_isOn m_firstAct m_meanTop m_meanBy a_order m_rowMany m_newSteps g_c g_there hr_m_thereMany hC_g_c hC_g_there) lk_RX12_323 ⟨rfl, rfl⟩ ⟨Nat.le_of_ble_eq_true rfl, Nat.le_of_ble_eq_true rfl⟩ 12 rfl rfl rfl [2, 3, 0] [1] rfl rfl (by decide) rfl hl.1 rfl (lv_room (Nat.le_of_ble_eq_true rfl)) dX12_next_43 ⟨Nat.le_of_ble_eq_true rfl, Nat.le_of_ble_eq_true rfl⟩ (fun r_18 u_19 H locs hw hP hD hS => ?_)
      obtain ⟨n_16, n_17⟩ := u_19
      try dsimp only at hw
      rcases hw with ⟨rfl, hr_n_16, hC_n_17⟩ | ⟨rfl, hr_n_16, hC_n_17⟩
      · skip
        refine lv_if_ne (tgt := 56) hx hb dX12_next_46 (by decide) (fun h9 => absurd (by decide +kernel) h9) (fun _ => ?_)
        refine lv_aload_n hx hb dX12_next_49 rfl (lv_at hl 0 rfl) ?_
        refine lv_bipush (v := 8) hx hb dX12_next_50 (by decide) ?_
        refine z_callVi (As := [.int 8]) (rest := []) (wr := [(a_weights, .inl (cA.1 1, 100, .inr (.inl g_weights))), (a_c, .inl (cA.1 0, 1825, .inl g_c)), (a_there, .inl (cA.1 0, 10, .inl n_17))]) ⟨hx, hb, hml, hown, hts⟩ hK hE hT hP hD hS hA (r_refuse l G cA h0 0 0 m_above m_under a_traySort a_trayMany a_numbers a_tape m_taped m_textEnd m_faultKind m_faultAt m_bad m_badAt m_token m_at m_behind m_number m_letters m_word a_c a_words m_markMany a_there a_tried a_best a_found n_16 m_foundMany m_orderHow m_orderRing m_orderMany m_hasBest m_bestTop m_bestBy a_weights a_shared m_random m_truePlace m_trueWay m_seconds m_done m_feelings m_tries m_leftOver m_playDoor m_playRing m_isOpen m_isOver m_wasTried m_hasPlayed a_feltNow a_last a_kept m_hasSeconds m_hasTurned m_hasRound a_hasFeels a_isOn m_firstAct m_meanTop m_meanBy a_order m_rowMany m_newSteps 8) lk_RX12_269 ⟨rfl, rfl⟩ ⟨Nat.le_of_ble_eq_true rfl, Nat.le_of_ble_eq_true rfl⟩ 12 rfl rfl rfl [1] [0, 2, 3] rfl rfl (by decide) rfl hl.1 rfl (lv_room (Nat.le_of_ble_eq_true rfl)) dX12_next_52 ⟨Nat.le_of_ble_eq_true rfl, Nat.le_of_ble_eq_true rfl⟩ (fun r_21 u_22 H locs hw hP hD hS => ?_)
        obtain ⟨n_20, rfl⟩ : ∃ z, z = u_22 := ⟨_, rfl⟩
        obtain ⟨he_r_21, he_n_20, hw⟩ := hw
        have hr_r_21 := hw
        have hpost : (0 ≤ (0 : Int32).toInt ∧ (0 : Int32).toInt ≤ 0) ∧ (0 ≤ n_16.toInt ∧ n_16.toInt ≤ 10) ∧ (zRg 10 0 9 n_17) := ⟨(by decide +kernel), hr_n_16, hC_n_17⟩
        exact hret _ _ _ _ _ _ (n_20, 0, n_16, n_17, m_firstAct, g_weights) [3, 1, 2, 0] hP hD hS rfl (by decide) dX12_next_55 hpost
      · skip
        refine lv_if_ne (tgt := 56) hx hb dX12_next_46 (by decide) (fun _ => ?_) (fun h9 => absurd h9 (by decide +kernel))
        rcases z_k5 (k := k) (by omega) (by omega) with rfl | rfl | rfl | rfl | rfl
        · exfalso; omega
        · skip
          refine lv_aload_n hx hb dX12_next_56 rfl (lv_at hl 0 rfl) ?_
          refine lv_iload_n hx hb dX12_next_57 rfl (lv_at hl 1 rfl) ?_
          refine lv_iload_n hx hb dX12_next_58 rfl (lv_at hl 2 rfl) ?_
          refine z_callVl (As := [.int d, .int 1]) (rest := []) (wr := []) ⟨hx, hb, hml, hown, hts⟩ hK hE hT hP hD hS hA (r_findWorth_1 l G cA h0 0 0 m_above m_under a_traySort a_trayMany a_numbers a_tape m_taped m_textEnd m_faultKind m_faultAt m_bad m_badAt m_token m_at m_behind m_number m_letters m_word a_c a_words m_markMany a_there a_tried a_best a_found n_16 m_foundMany m_orderHow m_orderRing m_orderMany m_hasBest m_bestTop m_bestBy a_weights a_shared m_random m_truePlace m_trueWay m_seconds m_done m_feelings m_tries m_leftOver m_playDoor m_playRing m_isOpen m_isOver m_wasTried m_hasPlayed a_feltNow a_last a_kept m_hasSeconds m_hasTurned m_hasRound a_hasFeels a_isOn m_firstAct m_meanTop m_meanBy a_order m_rowMany m_newSteps g_c n_17 g_weights d (by omega) hr_n_16 hC_g_c hC_n_17) lk_RX12_384 ⟨rfl, rfl⟩ ⟨Nat.le_of_ble_eq_true rfl, Nat.le_of_ble_eq_true rfl⟩ 12 rfl rfl rfl [1, 2, 3, 0] [] rfl rfl (by decide) rfl hl.1 rfl (lv_room (Nat.le_of_ble_eq_true rfl)) dX12_next_59 ⟨Nat.le_of_ble_eq_true rfl, Nat.le_of_ble_eq_true rfl⟩ (fun r_25 u_26 H locs hw hP hD hS => ?_)
          obtain ⟨n_23, n_24⟩ := u_26
          try dsimp only at hw
          refine lv_pop2_2 hx hb dX12_next_62 rfl ?_
          refine lv_aload_n hx hb dX12_next_63 rfl (lv_at hl 0 rfl) ?_
          refine va_get (D := G) (ci := 12) (v := .int n_23) (C := RX12) (T := TX12) (N := 65) hx hb hts inT12 hown hK hP 0 rfl rfl 59 (by decide) (hts _ tw_1942) (fun _ h9 => h9) rfl dX12_next_64 ?_
          have hpost : (0 ≤ (0 : Int32).toInt ∧ (0 : Int32).toInt ≤ 0) ∧ (0 ≤ n_16.toInt ∧ n_16.toInt ≤ 10) ∧ (zRg 10 0 9 n_17) := ⟨(by decide +kernel), hr_n_16, hC_n_17⟩
          exact hret _ _ _ _ _ _ (0, 0, n_16, n_17, n_23, n_24) [0, 1, 2, 3] hP hD hS rfl (by decide) dX12_next_67 hpost
        · skip
          refine lv_aload_n hx hb dX12_next_56 rfl (lv_at hl 0 rfl) ?_
          refine lv_iload_n hx hb dX12_next_57 rfl (lv_at hl 1 rfl) ?_
          refine lv_iload_n hx hb dX12_next_58 rfl (lv_at hl 2 rfl) ?_
          refine z_callVl (As := [.int d, .int 2]) (rest := []) (wr := []) ⟨hx, hb, hml, hown, hts⟩ hK hE hT hP hD hS hA (r_findWorth_2 l G cA h0 0 0 m_above m_under a_traySort a_trayMany a_numbers a_tape m_taped m_textEnd m_faultKind m_faultAt m_bad m_badAt m_token m_at m_behind m_number m_letters m_word a_c a_words m_markMany a_there a_tried a_best a_found n_16 m_foundMany m_orderHow m_orderRing m_orderMany m_hasBest m_bestTop m_bestBy a_weights a_shared m_random m_truePlace m_trueWay m_seconds m_done m_feelings m_tries m_leftOver m_playDoor m_playRing m_isOpen m_isOver m_wasTried m_hasPlayed a_feltNow a_last a_kept m_hasSeconds m_hasTurned m_hasRound a_hasFeels a_isOn m_firstAct m_meanTop m_meanBy a_order m_rowMany m_newSteps g_c n_17 g_weights d (by omega) hr_n_16 hC_g_c hC_n_17) lk_RX12_384 ⟨rfl, rfl⟩ ⟨Nat.le_of_ble_eq_true rfl, Nat.le_of_ble_eq_true rfl⟩ 12 rfl rfl rfl [1, 2, 3, 0] [] rfl rfl (by decide) rfl hl.1 rfl (lv_room (Nat.le_of_ble_eq_true rfl)) dX12_next_59 ⟨Nat.le_of_ble_eq_true rfl, Nat.le_of_ble_eq_true rfl⟩ (fun r_29 u_30 H locs hw hP hD hS => ?_)
          obtain ⟨n_27, n_28⟩ := u_30
          try dsimp only at hw
          refine lv_pop2_2 hx hb dX12_next_62 rfl ?_
          refine lv_aload_n hx hb dX12_next_63 rfl (lv_at hl 0 rfl) ?_
          refine va_get (D := G) (ci := 12) (v := .int n_27) (C := RX12) (T := TX12) (N := 65) hx hb hts inT12 hown hK hP 0 rfl rfl 59 (by decide) (hts _ tw_1942) (fun _ h9 => h9) rfl dX12_next_64 ?_
          have hpost : (0 ≤ (0 : Int32).toInt ∧ (0 : Int32).toInt ≤ 0) ∧ (0 ≤ n_16.toInt ∧ n_16.toInt ≤ 10) ∧ (zRg 10 0 9 n_17) := ⟨(by decide +kernel), hr_n_16, hC_n_17⟩
          exact hret _ _ _ _ _ _ (0, 0, n_16, n_17, n_27, n_28) [0, 1, 2, 3] hP hD hS rfl (by decide) dX12_next_67 hpost
        · skip
          refine lv_aload_n hx hb dX12_next_56 rfl (lv_at hl 0 rfl) ?_
          refine lv_iload_n hx hb dX12_next_57 rfl (lv_at hl 1 rfl) ?_
          refine lv_iload_n hx hb dX12_next_58 rfl (lv_at hl 2 rfl) ?_
          refine z_callVl (As := [.int d, .int 3]) (rest := []) (wr := []) ⟨hx, hb, hml, hown, hts⟩ hK hE hT hP hD hS hA (r_findWorth_3 l G cA h0 0 0 m_above m_under a_traySort a_trayMany a_numbers a_tape m_taped m_textEnd m_faultKind m_faultAt m_bad m_badAt m_token m_at m_behind m_number m_letters m_word a_c a_words m_markMany a_there a_tried a_best a_found n_16 m_foundMany m_orderHow m_orderRing m_orderMany m_hasBest m_bestTop m_bestBy a_weights a_shared m_random m_truePlace m_trueWay m_seconds m_done m_feelings m_tries m_leftOver m_playDoor m_playRing m_isOpen m_isOver m_wasTried m_hasPlayed a_feltNow a_last a_kept m_hasSeconds m_hasTurned m_hasRound a_hasFeels a_isOn m_firstAct m_meanTop m_meanBy a_order m_rowMany m_newSteps g_c n_17 g_weights d (by omega) hr_n_16 hC_g_c hC_n_17) lk_RX12_384 ⟨rfl, rfl⟩ ⟨Nat.le_of_ble_eq_true rfl, Nat.le_of_ble_eq_true rfl⟩ 12 rfl rfl rfl [1, 2, 3, 0] [] rfl rfl (by decide) rfl hl.1 rfl (lv_room (Nat.le_of_ble_eq_true rfl)) dX12_next_59 ⟨Nat.le_of_ble_eq_true rfl, Nat.le_of_ble_eq_true rfl⟩ (fun r_33 u_34 H locs hw hP hD hS => ?_)
          obtain ⟨n_31, n_32⟩ := u_34
          try dsimp only at hw
          refine lv_pop2_2 hx hb dX12_next_62 rfl ?_
          refine lv_aload_n hx hb dX12_next_63 rfl (lv_at hl 0 rfl) ?_
          refine va_get (D := G) (ci := 12) (v := .int n_31) (C := RX12) (T := TX12) (N := 65) hx hb hts inT12 hown hK hP 0 rfl rfl 59 (by decide) (hts _ tw_1942) (fun _ h9 => h9) rfl dX12_next_64 ?_
          have hpost : (0 ≤ (0 : Int32).toInt ∧ (0 : Int32).toInt ≤ 0) ∧ (0 ≤ n_16.toInt ∧ n_16.toInt ≤ 10) ∧ (zRg 10 0 9 n_17) := ⟨(by decide +kernel), hr_n_16, hC_n_17⟩
          exact hret _ _ _ _ _ _ (0, 0, n_16, n_17, n_31, n_32) [0, 1, 2, 3] hP hD hS rfl (by decide) dX12_next_67 hpost
        · skip
          refine lv_aload_n hx hb dX12_next_56 rfl (lv_at hl 0 rfl) ?_
          refine lv_iload_n hx hb dX12_next_57 rfl (lv_at hl 1 rfl) ?_
          refine lv_iload_n hx hb dX12_next_58 rfl (lv_at hl 2 rfl) ?_
          refine z_callVl (As := [.int d, .int 4]) (rest := []) (wr := []) ⟨hx, hb, hml, hown, hts⟩ hK hE hT hP hD hS hA (r_findWorth_4 l G cA h0 0 0 m_above m_under a_traySort a_trayMany a_numbers a_tape m_taped m_textEnd m_faultKind m_faultAt m_bad m_badAt m_token m_at m_behind m_number m_letters m_word a_c a_words m_markMany a_there a_tried a_best a_found n_16 m_foundMany m_orderHow m_orderRing m_orderMany m_hasBest m_bestTop m_bestBy a_weights a_shared m_random m_truePlace m_trueWay m_seconds m_done m_feelings m_tries m_leftOver m_playDoor m_playRing m_isOpen m_isOver m_wasTried m_hasPlayed a_feltNow a_last a_kept m_hasSeconds m_hasTurned m_hasRound a_hasFeels a_isOn m_firstAct m_meanTop m_meanBy a_order m_rowMany m_newSteps g_c n_17 g_weights d (by omega) hr_n_16 hC_g_c hC_n_17) lk_RX12_384 ⟨rfl, rfl⟩ ⟨Nat.le_of_ble_eq_true rfl, Nat.le_of_ble_eq_true rfl⟩ 12 rfl rfl rfl [1, 2, 3, 0] [] rfl rfl (by decide) rfl hl.1 rfl (lv_room (Nat.le_of_ble_eq_true rfl)) dX12_next_59 ⟨Nat.le_of_ble_eq_true rfl, Nat.le_of_ble_eq_true rfl⟩ (fun r_37 u_38 H locs hw hP hD hS => ?_)
          obtain ⟨n_35, n_36⟩ := u_38
          try dsimp only at hw
          have hr_n_35 := hw
          refine lv_pop2_2 hx hb dX12_next_62 rfl ?_
          refine lv_aload_n hx hb dX12_next_63 rfl (lv_at hl 0 rfl) ?_
          refine va_get (D := G) (ci := 12) (v := .int n_35) (C := RX12) (T := TX12) (N := 65) hx hb hts inT12 hown hK hP 0 rfl rfl 59 (by decide) (hts _ tw_1942) (fun _ h9 => h9) rfl dX12_next_64 ?_
          have hpost : (0 ≤ (0 : Int32).toInt ∧ (0 : Int32).toInt ≤ 0) ∧ (0 ≤ n_16.toInt ∧ n_16.toInt ≤ 10) ∧ (zRg 10 0 9 n_17) := ⟨(by decide +kernel), hr_n_16, hC_n_17⟩
          exact hret _ _ _ _ _ _ (0, 0, n_16, n_17, n_35, n_36) [0, 1, 2, 3] hP hD hS rfl (by decide) dX12_next_67 hpost
set_option maxHeartbeats 4000000 in
set_option maxRecDepth 100000 in
theorem r_tray_ok (l : Launch) (G : va_G) (cA : zCA) (h0 : Nat) (m_status : Int32) (m_thrown : Int32) (m_above : Int64) (m_under : Int64) (a_traySort : Nat) (a_trayMany : Nat) (a_numbers : Nat) (a_tape : Nat) (m_taped : Int32) (m_textEnd : Int32) (m_faultKind : Int32) (m_faultAt : Int32) (m_bad : Int32) (m_badAt : Int32) (m_token : Int32) (m_at : Int32) (m_behind : Int32) (m_number : Int32) (m_letters : Int32) (m_word : Int64) (a_c : Nat) (a_words : Nat) (m_markMany : Int32) (a_there : Nat) (a_tried : Nat) (a_best : Nat) (a_found : Nat) (m_thereMany : Int32) (m_foundMany : Int32) (m_orderHow : Int32) (m_orderRing : Int32) (m_orderMany : Int32) (m_hasBest : Int32) (m_bestTop : Int64) (m_bestBy : Int64) (a_weights : Nat) (a_shared : Nat) (m_random : Int32) (m_truePlace : Int32) (m_trueWay : Int32) (m_seconds : Int32) (m_done : Int32) (m_feelings : Int32) (m_tries : Int32) (m_leftOver : Int32) (m_playDoor : Int32) (m_playRing : Int32) (m_isOpen : Int32) (m_isOver : Int32) (m_wasTried : Int32) (m_hasPlayed : Int32) (a_feltNow : Nat) (a_last : Nat) (a_kept : Nat) (m_hasSeconds : Int32) (m_hasTurned : Int32) (m_hasRound : Int32) (a_hasFeels : Nat) (a_isOn : Nat) (m_firstAct : Int32) (m_meanTop : Int64) (m_meanBy : Int64) (a_order : Nat) (m_rowMany : Int32) (m_newSteps : Int32) (g_traySort : Nat → Int32) (g_trayMany : Nat → Int32) (g_numbers : Nat → Int64) (t : Int32) (ss : Int32) (nn : Int32) (hC_g_trayMany : zRg 4 (-1) 60 g_trayMany) : zCi l yX12_tray cX12_tray 5 (some .boolean) ({ frames := 1, cells := 0, slots := 0, locals := 21 }) G cA [.ref h0, .int t, .int ss, .int nn] [(h0, .inr (12, [.int m_status, .int m_thrown, .long m_above, .long m_under, .ref a_traySort, .ref a_trayMany, .ref a_numbers, .ref a_tape, .int m_taped, .int m_textEnd, .int m_faultKind, .int m_faultAt, .int m_bad, .int m_badAt, .int m_token, .int m_at, .int m_behind, .int m_number, .int m_letters, .long m_word, .ref a_c, .ref a_words, .int m_markMany, .ref a_there, .ref a_tried, .ref a_best, .ref a_found, .int m_thereMany, .int m_foundMany, .int m_orderHow, .int m_orderRing, .int m_orderMany, .int m_hasBest, .long m_bestTop, .long m_bestBy, .ref a_weights, .ref a_shared, .int m_random, .int m_truePlace, .int m_trueWay, .int m_seconds, .int m_done, .int m_feelings, .int m_tries, .int m_leftOver, .int m_playDoor, .int m_playRing, .int m_isOpen, .int m_isOver, .int m_wasTried, .int m_hasPlayed, .ref a_feltNow, .ref a_last, .ref a_kept, .int m_hasSeconds, .int m_hasTurned, .int m_hasRound, .ref a_hasFeels, .ref a_isOn, .int m_firstAct, .long m_meanTop, .long m_meanBy, .ref a_order, .int m_rowMany, .int m_newSteps])), (a_traySort, .inl (cA.1 0, 4, .inl g_traySort)), (a_trayMany, .inl (cA.1 0, 4, .inl g_trayMany)), (a_numbers, .inl (cA.1 1, 240, .inr (.inl g_numbers)))] (S := Int32 × Int32 × (Nat → Int32) × (Nat → Int32) × (Nat → Int64)) (fun (r : Int32) (u : Int32 × Int32 × (Nat → Int32) × (Nat → Int32) × (Nat → Int64)) => (r = 0 ∧ (0 ≤ u.2.1.toInt ∧ u.2.1.toInt ≤ 0) ∧ (zRg 4 (-1) 60 u.2.2.2.1) ∧ (¬ trOK t ss nn)) ∨ (r = 1 ∧ (0 ≤ u.1.toInt ∧ u.1.toInt ≤ 0) ∧ (0 ≤ u.2.1.toInt ∧ u.2.1.toInt ≤ 0) ∧ (zRg 4 (-1) 60 u.2.2.2.1) ∧ (trOK t ss nn))) (fun (u : Int32 × Int32 × (Nat → Int32) × (Nat → Int32) × (Nat → Int64)) => [(h0, .inr (12, [.int u.1, .int u.2.1, .long m_above, .long m_under, .ref a_traySort, .ref a_trayMany, .ref a_numbers, .ref a_tape, .int m_taped, .int m_textEnd, .int m_faultKind, .int m_faultAt, .int m_bad, .int m_badAt, .int m_token, .int m_at, .int m_behind, .int m_number, .int m_letters, .long m_word, .ref a_c, .ref a_words, .int m_markMany, .ref a_there, .ref a_tried, .ref a_best, .ref a_found, .int m_thereMany, .int m_foundMany, .int m_orderHow, .int m_orderRing, .int m_orderMany, .int m_hasBest, .long m_bestTop, .long m_bestBy, .ref a_weights, .ref a_shared, .int m_random, .int m_truePlace, .int m_trueWay, .int m_seconds, .int m_done, .int m_feelings, .int m_tries, .int m_leftOver, .int m_playDoor, .int m_playRing, .int m_isOpen, .int m_isOver, .int m_wasTried, .int m_hasPlayed, .ref a_feltNow, .ref a_last, .ref a_kept, .int m_hasSeconds, .int m_hasTurned, .int m_hasRound, .ref a_hasFeels, .ref a_isOn, .int m_firstAct, .long m_meanTop, .long m_meanBy, .ref a_order, .int m_rowMany, .int m_newSteps])), (a_traySort, .inl (cA.1 0, 4, .inl u.2.2.1)), (a_trayMany, .inl (cA.1 0, 4, .inl u.2.2.2.1)), (a_numbers, .inl (cA.1 1, 240, .inr (.inl u.2.2.2.2)))]) 0 0 := by
  have hk_0 : (0 : Int32).toInt = 0 := by decide +kernel
  have hk_1 : (1 : Int32).toInt = 1 := by decide +kernel
  have hk_3 : (3 : Int32).toInt = 3 := by decide +kernel
  have hk_4 : (4 : Int32).toInt = 4 := by decide +kernel
  have hk_5 : (5 : Int32).toInt = 5 := by decide +kernel
  have hk_6 : (6 : Int32).toInt = 6 := by decide +kernel
  have hk_60 : (60 : Int32).toInt = 60 := by decide +kernel
  refine z_start2z (own := RX12) (by decide) (Nat.le_of_ble_eq_true rfl) rfl ?_
  intro p e s m args below meth c A ls Q hx hb hml hts hown hK hE hT hP hD hS hA hl hret
  have hl : lv_has ls 5 [(0, .ref h0), (1, .int t), (2, .int ss), (3, .int nn)] := hl
  refine lv_aload_n hx hb dX12_tray_0 rfl (lv_at hl 0 rfl) ?_
  refine lv_iconst (v := 0) hx hb dX12_tray_1 (by decide) ?_
  refine va_put (D := G) (ci := 12) (v := .int 0) (ty := .int) (C := RX12) (T := TX12) (N := 65) hx hb hts inT12 tyX12 tyX12_ok nmX12 hown hK hP hD hS 0 rfl rfl 1 (by decide) (hts _ tw_1886) (fun _ h9 => h9) rfl (tyX12_ok 1 (by decide)) rfl rfl (Nat.le_of_ble_eq_true rfl) dX12_tray_2 (fun H locs hP hD hS => ?_)
  refine lv_aload_n hx hb dX12_tray_5 rfl (lv_at hl 0 rfl) ?_
  refine lv_iconst (v := 0) hx hb dX12_tray_6 (by decide) ?_
  refine va_put (D := G) (ci := 12) (v := .int 0) (ty := .int) (C := RX12) (T := TX12) (N := 65) hx hb hts inT12 tyX12 tyX12_ok nmX12 hown hK hP hD hS 0 rfl rfl 0 (by decide) (hts _ tw_1885) (fun _ h9 => h9) rfl (tyX12_ok 0 (by decide)) rfl rfl (Nat.le_of_ble_eq_true rfl) dX12_tray_7 (fun H locs hP hD hS => ?_)
  refine lv_iload_n hx hb dX12_tray_10 rfl (lv_at hl 1 rfl) ?_
  refine lv_if_lt (tgt := 28) hx hb dX12_tray_11 (by decide) (fun c_1 => ?_) (fun c_1 => ?_)
  · have b_2 := z_fltT c_1
    refine lv_aload_n hx hb dX12_tray_28 rfl (lv_at hl 0 rfl) ?_
    refine lv_iconst (v := 1) hx hb dX12_tray_29 (by decide) ?_
    refine z_callVi (As := [.int 1]) (rest := []) (wr := [(a_traySort, .inl (cA.1 0, 4, .inl g_traySort)), (a_trayMany, .inl (cA.1 0, 4, .inl g_trayMany)), (a_numbers, .inl (cA.1 1, 240, .inr (.inl g_numbers)))]) ⟨hx, hb, hml, hown, hts⟩ hK hE hT hP hD hS hA (r_no l G cA h0 0 0 m_above m_under a_traySort a_trayMany a_numbers a_tape m_taped m_textEnd m_faultKind m_faultAt m_bad m_badAt m_token m_at m_behind m_number m_letters m_word a_c a_words m_markMany a_there a_tried a_best a_found m_thereMany m_foundMany m_orderHow m_orderRing m_orderMany m_hasBest m_bestTop m_bestBy a_weights a_shared m_random m_truePlace m_trueWay m_seconds m_done m_feelings m_tries m_leftOver m_playDoor m_playRing m_isOpen m_isOver m_wasTried m_hasPlayed a_feltNow a_last a_kept m_hasSeconds m_hasTurned m_hasRound a_hasFeels a_isOn m_firstAct m_meanTop m_meanBy a_order m_rowMany m_newSteps 1) lk_RX12_97 ⟨rfl, rfl⟩ ⟨Nat.le_of_ble_eq_true rfl, Nat.le_of_ble_eq_true rfl⟩ 12 rfl rfl rfl [0] [1, 2, 3] rfl rfl (by decide) rfl hl.1 rfl (lv_room (Nat.le_of_ble_eq_true rfl)) dX12_tray_30 ⟨Nat.le_of_ble_eq_true rfl, Nat.le_of_ble_eq_true rfl⟩ (fun r_4 u_5 H locs hw hP hD hS => ?_)
    obtain ⟨n_3, rfl⟩ : ∃ z, z = u_5 := ⟨_, rfl⟩
    obtain ⟨he_r_4, he_n_3, hw⟩ := hw
    obtain ⟨rfl, -⟩ := hw
    have hpost : ((0 : Int32) = 0 ∧ (0 ≤ (0 : Int32).toInt ∧ (0 : Int32).toInt ≤ 0) ∧ (zRg 4 (-1) 60 g_trayMany) ∧ (¬ trOK t ss nn)) ∨ ((0 : Int32) = 1 ∧ (0 ≤ n_3.toInt ∧ n_3.toInt ≤ 0) ∧ (0 ≤ (0 : Int32).toInt ∧ (0 : Int32).toInt ≤ 0) ∧ (zRg 4 (-1) 60 g_trayMany) ∧ (trOK t ss nn)) := (Or.inl ⟨rfl, ⟨(by decide +kernel), hC_g_trayMany, (by unfold trOK; omega)⟩⟩)
    exact hret _ _ _ _ _ _ (n_3, 0, g_traySort, g_trayMany, g_numbers) [3, 0, 1, 2] hP hD hS rfl (by decide) dX12_tray_33 (Or.inl rfl) hpost
  · have b_6 := z_fgeF c_1
    refine lv_iload_n hx hb dX12_tray_14 rfl (lv_at hl 1 rfl) ?_
    refine lv_iconst (v := 4) hx hb dX12_tray_15 (by decide) ?_
    refine lv_icmp_ge (tgt := 28) hx hb dX12_tray_16 (by decide) (fun c_7 => ?_) (fun c_7 => ?_)
    · have b_8 := z_fgeT c_7
      refine lv_aload_n hx hb dX12_tray_28 rfl (lv_at hl 0 rfl) ?_
      refine lv_iconst (v := 1) hx hb dX12_tray_29 (by decide) ?_
      refine z_callVi (As := [.int 1]) (rest := []) (wr := [(a_traySort, .inl (cA.1 0, 4, .inl g_traySort)), (a_trayMany, .inl (cA.1 0, 4, .inl g_trayMany)), (a_numbers, .inl (cA.1 1, 240, .inr (.inl g_numbers)))]) ⟨hx, hb, hml, hown, hts⟩ hK hE hT hP hD hS hA (r_no l G cA h0 0 0 m_above m_under a_traySort a_trayMany a_numbers a_tape m_taped m_textEnd m_faultKind m_faultAt m_bad m_badAt m_token m_at m_behind m_number m_letters m_word a_c a_words m_markMany a_there a_tried a_best a_found m_thereMany m_foundMany m_orderHow m_orderRing m_orderMany m_hasBest m_bestTop m_bestBy a_weights a_shared m_random m_truePlace m_trueWay m_seconds m_done m_feelings m_tries m_leftOver m_playDoor m_playRing m_isOpen m_isOver m_wasTried m_hasPlayed a_feltNow a_last a_kept m_hasSeconds m_hasTurned m_hasRound a_hasFeels a_isOn m_firstAct m_meanTop m_meanBy a_order m_rowMany m_newSteps 1) lk_RX12_97 ⟨rfl, rfl⟩ ⟨Nat.le_of_ble_eq_true rfl, Nat.le_of_ble_eq_true rfl⟩ 12 rfl rfl rfl [0] [1, 2, 3] rfl rfl (by decide) rfl hl.1 rfl (lv_room (Nat.le_of_ble_eq_true rfl)) dX12_tray_30 ⟨Nat.le_of_ble_eq_true rfl, Nat.le_of_ble_eq_true rfl⟩ (fun r_10 u_11 H locs hw hP hD hS => ?_)
      obtain ⟨n_9, rfl⟩ : ∃ z, z = u_11 := ⟨_, rfl⟩
      obtain ⟨he_r_10, he_n_9, hw⟩ := hw
      obtain ⟨rfl, -⟩ := hw
      have hpost : ((0 : Int32) = 0 ∧ (0 ≤ (0 : Int32).toInt ∧ (0 : Int32).toInt ≤ 0) ∧ (zRg 4 (-1) 60 g_trayMany) ∧ (¬ trOK t ss nn)) ∨ ((0 : Int32) = 1 ∧ (0 ≤ n_9.toInt ∧ n_9.toInt ≤ 0) ∧ (0 ≤ (0 : Int32).toInt ∧ (0 : Int32).toInt ≤ 0) ∧ (zRg 4 (-1) 60 g_trayMany) ∧ (trOK t ss nn)) := (Or.inl ⟨rfl, ⟨(by decide +kernel), hC_g_trayMany, (by unfold trOK; omega)⟩⟩)
      exact hret _ _ _ _ _ _ (n_9, 0, g_traySort, g_trayMany, g_numbers) [3, 0, 1, 2] hP hD hS rfl (by decide) dX12_tray_33 (Or.inl rfl) hpost
    · have b_12 := z_fltF c_7
      refine lv_iload_n hx hb dX12_tray_19 rfl (lv_at hl 2 rfl) ?_
      refine lv_if_lt (tgt := 28) hx hb dX12_tray_20 (by decide) (fun c_13 => ?_) (fun c_13 => ?_)
      · have b_14 := z_fltT c_13
        refine lv_aload_n hx hb dX12_tray_28 rfl (lv_at hl 0 rfl) ?_
        refine lv_iconst (v := 1) hx hb dX12_tray_29 (by decide) ?_
        refine z_callVi (As := [.int 1]) (rest := []) (wr := [(a_traySort, .inl (cA.1 0, 4, .inl g_traySort)), (a_trayMany, .inl (cA.1 0, 4, .inl g_trayMany)), (a_numbers, .inl (cA.1 1, 240, .inr (.inl g_numbers)))]) ⟨hx, hb, hml, hown, hts⟩ hK hE hT hP hD hS hA (r_no l G cA h0 0 0 m_above m_under a_traySort a_trayMany a_numbers a_tape m_taped m_textEnd m_faultKind m_faultAt m_bad m_badAt m_token m_at m_behind m_number m_letters m_word a_c a_words m_markMany a_there a_tried a_best a_found m_thereMany m_foundMany m_orderHow m_orderRing m_orderMany m_hasBest m_bestTop m_bestBy a_weights a_shared m_random m_truePlace m_trueWay m_seconds m_done m_feelings m_tries m_leftOver m_playDoor m_playRing m_isOpen m_isOver m_wasTried m_hasPlayed a_feltNow a_last a_kept m_hasSeconds m_hasTurned m_hasRound a_hasFeels a_isOn m_firstAct m_meanTop m_meanBy a_order m_rowMany m_newSteps 1) lk_RX12_97 ⟨rfl, rfl⟩ ⟨Nat.le_of_ble_eq_true rfl, Nat.le_of_ble_eq_true rfl⟩ 12 rfl rfl rfl [0] [1, 2, 3] rfl rfl (by decide) rfl hl.1 rfl (lv_room (Nat.le_of_ble_eq_true rfl)) dX12_tray_30 ⟨Nat.le_of_ble_eq_true rfl, Nat.le_of_ble_eq_true rfl⟩ (fun r_16 u_17 H locs hw hP hD hS => ?_)
        obtain ⟨n_15, rfl⟩ : ∃ z, z = u_17 := ⟨_, rfl⟩
        obtain ⟨he_r_16, he_n_15, hw⟩ := hw
        obtain ⟨rfl, -⟩ := hw
        have hpost : ((0 : Int32) = 0 ∧ (0 ≤ (0 : Int32).toInt ∧ (0 : Int32).toInt ≤ 0) ∧ (zRg 4 (-1) 60 g_trayMany) ∧ (¬ trOK t ss nn)) ∨ ((0 : Int32) = 1 ∧ (0 ≤ n_15.toInt ∧ n_15.toInt ≤ 0) ∧ (0 ≤ (0 : Int32).toInt ∧ (0 : Int32).toInt ≤ 0) ∧ (zRg 4 (-1) 60 g_trayMany) ∧ (trOK t ss nn)) := (Or.inl ⟨rfl, ⟨(by decide +kernel), hC_g_trayMany, (by unfold trOK; omega)⟩⟩)
        exact hret _ _ _ _ _ _ (n_15, 0, g_traySort, g_trayMany, g_numbers) [3, 0, 1, 2] hP hD hS rfl (by decide) dX12_tray_33 (Or.inl rfl) hpost
      · have b_18 := z_fgeF c_13
        refine lv_iload_n hx hb dX12_tray_23 rfl (lv_at hl 2 rfl) ?_
        refine lv_iconst (v := 3) hx hb dX12_tray_24 (by decide) ?_
        refine lv_icmp_le (tgt := 34) hx hb dX12_tray_25 (by decide) (fun c_19 => ?_) (fun c_19 => ?_)
        · have b_20 := z_fleT c_19
          refine lv_iload_n hx hb dX12_tray_34 rfl (lv_at hl 3 rfl) ?_
          refine lv_bipush (v := 60) hx hb dX12_tray_35 (by decide) ?_
          refine lv_icmp_le (tgt := 46) hx hb dX12_tray_37 (by decide) (fun c_21 => ?_) (fun c_21 => ?_)
          · have b_22 := z_fleT c_21
            refine lv_iload_n hx hb dX12_tray_46 rfl (lv_at hl 3 rfl) ?_
            refine lv_if_ge (tgt := 57) hx hb dX12_tray_47 (by decide) (fun c_23 => ?_) (fun c_23 => ?_)
            · have b_24 := z_fgeT c_23
              refine lv_aload_n hx hb dX12_tray_57 rfl (lv_at hl 0 rfl) ?_
              refine va_get (D := G) (ci := 12) (v := .ref a_traySort) (C := RX12) (T := TX12) (N := 65) hx hb hts inT12 hown hK hP 0 rfl rfl 4 (by decide) (hts _ tw_1889) (fun _ h9 => h9) rfl dX12_tray_58 ?_
              refine lv_iload_n hx hb dX12_tray_61 rfl (lv_at hl 1 rfl) ?_
              refine lv_iload_n hx hb dX12_tray_62 rfl (lv_at hl 2 rfl) ?_
              refine z_iast hx hb hK hP hD hS 1 0 rfl rfl (z_inN (by omega) (by omega)) dX12_tray_63 (fun g_25 hg_g_25 H locs hP hD hS => ?_)
              refine lv_aload_n hx hb dX12_tray_64 rfl (lv_at hl 0 rfl) ?_
              refine va_get (D := G) (ci := 12) (v := .ref a_trayMany) (C := RX12) (T := TX12) (N := 65) hx hb hts inT12 hown hK hP 0 rfl rfl 5 (by decide) (hts _ tw_1890) (fun _ h9 => h9) rfl dX12_tray_65 ?_
              refine lv_iload_n hx hb dX12_tray_68 rfl (lv_at hl 1 rfl) ?_
              refine lv_iload_n hx hb dX12_tray_69 rfl (lv_at hl 3 rfl) ?_
              refine z_iast hx hb hK hP hD hS 2 0 rfl rfl (z_inN (by omega) (by omega)) dX12_tray_70 (fun g_26 hg_g_26 H locs hP hD hS => ?_)
              have hC_g_26 := z_rgU hC_g_trayMany hg_g_26 (by omega)
              refine lv_iconst (v := 0) hx hb dX12_tray_71 (by decide) ?_
              refine lv_istore (lv' := [(4, .int 0), (0, .ref h0), (1, .int t), (2, .int ss), (3, .int nn)]) hx hb dX12_tray_72 hl (by decide) rfl (fun ls hl => ?_)
              have hlp_258 : ∀ (n : Nat) (v_249 : Int32) (g_250 : Nat → Int64) (H : Heap) (locs : List Loc) (ls : Array Slot), (2147483647 - v_249.toInt).toNat < n → (0 ≤ v_249.toInt ∧ v_249.toInt ≤ 60) → va_P G vwCl [(h0, .inr (12, [.int 0, .int 0, .long m_above, .long m_under, .ref a_traySort, .ref a_trayMany, .ref a_numbers, .ref a_tape, .int m_taped, .int m_textEnd, .int m_faultKind, .int m_faultAt, .int m_bad, .int m_badAt, .int m_token, .int m_at, .int m_behind, .int m_number, .int m_letters, .long m_word, .ref a_c, .ref a_words, .int m_markMany, .ref a_there, .ref a_tried, .ref a_best, .ref a_found, .int m_thereMany, .int m_foundMany, .int m_orderHow, .int m_orderRing, .int m_orderMany, .int m_hasBest, .long m_bestTop, .long m_bestBy, .ref a_weights, .ref a_shared, .int m_random, .int m_truePlace, .int m_trueWay, .int m_seconds, .int m_done, .int m_feelings, .int m_tries, .int m_leftOver, .int m_playDoor, .int m_playRing, .int m_isOpen, .int m_isOver, .int m_wasTried, .int m_hasPlayed, .ref a_feltNow, .ref a_last, .ref a_kept, .int m_hasSeconds, .int m_hasTurned, .int m_hasRound, .ref a_hasFeels, .ref a_isOn, .int m_firstAct, .long m_meanTop, .long m_meanBy, .ref a_order, .int m_rowMany, .int m_newSteps])), (a_traySort, .inl (cA.1 0, 4, .inl g_25)), (a_trayMany, .inl (cA.1 0, 4, .inl g_26)), (a_numbers, .inl (cA.1 1, 240, .inr (.inl g_250)))] H → va_D A [(h0, .inr (12, [.int 0, .int 0, .long m_above, .long m_under, .ref a_traySort, .ref a_trayMany, .ref a_numbers, .ref a_tape, .int m_taped, .int m_textEnd, .int m_faultKind, .int m_faultAt, .int m_bad, .int m_badAt, .int m_token, .int m_at, .int m_behind, .int m_number, .int m_letters, .long m_word, .ref a_c, .ref a_words, .int m_markMany, .ref a_there, .ref a_tried, .ref a_best, .ref a_found, .int m_thereMany, .int m_foundMany, .int m_orderHow, .int m_orderRing, .int m_orderMany, .int m_hasBest, .long m_bestTop, .long m_bestBy, .ref a_weights, .ref a_shared, .int m_random, .int m_truePlace, .int m_trueWay, .int m_seconds, .int m_done, .int m_feelings, .int m_tries, .int m_leftOver, .int m_playDoor, .int m_playRing, .int m_isOpen, .int m_isOver, .int m_wasTried, .int m_hasPlayed, .ref a_feltNow, .ref a_last, .ref a_kept, .int m_hasSeconds, .int m_hasTurned, .int m_hasRound, .ref a_hasFeels, .ref a_isOn, .int m_firstAct, .long m_meanTop, .long m_meanBy, .ref a_order, .int m_rowMany, .int m_newSteps])), (a_traySort, .inl (cA.1 0, 4, .inl g_25)), (a_trayMany, .inl (cA.1 0, 4, .inl g_26)), (a_numbers, .inl (cA.1 1, 240, .inr (.inl g_250)))] → va_S A s.heap H locs → lv_has ls 5 [(0, .ref h0), (1, .int t), (2, .int ss), (3, .int nn), (4, .int v_249)] → W p l e ({ frames := 1, cells := 0, slots := 0, locals := 21 }) s m args below meth c H locs 0 0 Q (F0 m 74 ls []) := by
                intro n
                induction n with
                | zero =>
                  intro v_249 g_250 H locs ls hmu_hlp_258 hr_v_249 hP hD hS hl
                  exact absurd hmu_hlp_258 (Nat.not_lt_zero _)
                | succ n ih_259 =>
                  intro v_249 g_250 H locs ls hmu_hlp_258 hr_v_249 hP hD hS hl
                  refine lv_iload hx hb dX12_tray_74 (lv_at hl 4 rfl) ?_
                  refine lv_iload_n hx hb dX12_tray_76 rfl (lv_at hl 3 rfl) ?_
                  refine lv_icmp_ge (tgt := 99) hx hb dX12_tray_77 (by decide) (fun c_260 => ?_) (fun c_260 => ?_)
                  · have b_261 := z_fgeT c_260
                    refine lv_iconst (v := 1) hx hb dX12_tray_99 (by decide) ?_
                    have hpost : ((1 : Int32) = 0 ∧ (0 ≤ (0 : Int32).toInt ∧ (0 : Int32).toInt ≤ 0) ∧ (zRg 4 (-1) 60 g_26) ∧ (¬ trOK t ss nn)) ∨ ((1 : Int32) = 1 ∧ (0 ≤ (0 : Int32).toInt ∧ (0 : Int32).toInt ≤ 0) ∧ (0 ≤ (0 : Int32).toInt ∧ (0 : Int32).toInt ≤ 0) ∧ (zRg 4 (-1) 60 g_26) ∧ (trOK t ss nn)) := (Or.inr ⟨rfl, ⟨(by decide +kernel), (by decide +kernel), hC_g_26, (by unfold trOK; omega)⟩⟩)
                    exact hret _ _ _ _ _ _ (0, 0, g_25, g_26, g_250) [0, 1, 2, 3] hP hD hS rfl (by decide) dX12_tray_100 (Or.inr rfl) hpost
                  · have b_262 := z_fltF c_260
                    refine lv_aload_n hx hb dX12_tray_80 rfl (lv_at hl 0 rfl) ?_
                    refine va_get (D := G) (ci := 12) (v := .ref a_numbers) (C := RX12) (T := TX12) (N := 65) hx hb hts inT12 hown hK hP 0 rfl rfl 6 (by decide) (hts _ tw_1891) (fun _ h9 => h9) rfl dX12_tray_81 ?_
                    refine lv_bipush (v := 60) hx hb dX12_tray_84 (by decide) ?_
                    refine lv_iload_n hx hb dX12_tray_86 rfl (lv_at hl 1 rfl) ?_
                    refine lv_imul hx hb dX12_tray_87 ?_
                    refine lv_topi (fun x_263 he_x_263 => ?_)
                    have hq_x_263 := z_mulq he_x_263 hk_60 (rfl : t.toInt = _) (by omega) (by omega)
                    refine lv_iload hx hb dX12_tray_88 (lv_at hl 4 rfl) ?_
                    refine lv_iadd hx hb dX12_tray_90 ?_
                    refine lv_topi (fun x_264 he_x_264 => ?_)
                    have hq_x_264 := z_addq he_x_264 (rfl : x_263.toInt = _) (rfl : v_249.toInt = _) (by omega) (by omega)
                    refine lv_lconst (v := 0) hx hb dX12_tray_91 (by decide) ?_
                    refine z_last hx hb hK hP hD hS 3 1 rfl rfl (z_inN (by omega) (by omega)) dX12_tray_92 (fun g_265 hg_g_265 H locs hP hD hS => ?_)
                    obtain ⟨x_266, he_x_266⟩ : ∃ z : Int32, z = v_249 + 1 := ⟨_, rfl⟩
                    have hq_x_266 := z_addq he_x_266 (rfl : v_249.toInt = _) hk_1 (by omega) (by omega)
                    refine lv_iinc (v := x_266) (lv' := [(4, .int x_266), (0, .ref h0), (1, .int t), (2, .int ss), (3, .int nn)]) hx hb dX12_tray_93 hl (k := 4) rfl ((z_ofi (by decide +kernel)).trans he_x_266.symm) (by decide) rfl (fun ls hl => ?_)
                    refine lv_goto (tgt := 74) hx hb dX12_tray_96 (by decide) ?_
                    exact ih_259 x_266 g_265 H locs ls (by omega) (by omega) hP hD hS (lv_sub hl [1, 2, 3, 4, 0] rfl)
              exact hlp_258 _ 0 g_numbers _ _ _ (Nat.lt_succ_self _) (by decide +kernel) hP hD hS (lv_sub hl [1, 2, 3, 4, 0] rfl)
            · have b_267 := z_fltF c_23
              refine lv_aload_n hx hb dX12_tray_50 rfl (lv_at hl 0 rfl) ?_
              refine lv_bipush (v := 6) hx hb dX12_tray_51 (by decide) ?_
              refine z_callVi (As := [.int 6]) (rest := []) (wr := [(a_traySort, .inl (cA.1 0, 4, .inl g_traySort)), (a_trayMany, .inl (cA.1 0, 4, .inl g_trayMany)), (a_numbers, .inl (cA.1 1, 240, .inr (.inl g_numbers)))]) ⟨hx, hb, hml, hown, hts⟩ hK hE hT hP hD hS hA (r_no l G cA h0 0 0 m_above m_under a_traySort a_trayMany a_numbers a_tape m_taped m_textEnd m_faultKind m_faultAt m_bad m_badAt m_token m_at m_behind m_number m_letters m_word a_c a_words m_markMany a_there a_tried a_best a_found m_thereMany m_foundMany m_orderHow m_orderRing m_orderMany m_hasBest m_bestTop m_bestBy a_weights a_shared m_random m_truePlace m_trueWay m_seconds m_done m_feelings m_tries m_leftOver m_playDoor m_playRing m_isOpen m_isOver m_wasTried m_hasPlayed a_feltNow a_last a_kept m_hasSeconds m_hasTurned m_hasRound a_hasFeels a_isOn m_firstAct m_meanTop m_meanBy a_order m_rowMany m_newSteps 6) lk_RX12_97 ⟨rfl, rfl⟩ ⟨Nat.le_of_ble_eq_true rfl, Nat.le_of_ble_eq_true rfl⟩ 12 rfl rfl rfl [0] [1, 2, 3] rfl rfl (by decide) rfl hl.1 rfl (lv_room (Nat.le_of_ble_eq_true rfl)) dX12_tray_53 ⟨Nat.le_of_ble_eq_true rfl, Nat.le_of_ble_eq_true rfl⟩ (fun r_269 u_270 H locs hw hP hD hS => ?_)
              obtain ⟨n_268, rfl⟩ : ∃ z, z = u_270 := ⟨_, rfl⟩
              obtain ⟨he_r_269, he_n_268, hw⟩ := hw
              obtain ⟨rfl, -⟩ := hw
              have hpost : ((0 : Int32) = 0 ∧ (0 ≤ (0 : Int32).toInt ∧ (0 : Int32).toInt ≤ 0) ∧ (zRg 4 (-1) 60 g_trayMany) ∧ (¬ trOK t ss nn)) ∨ ((0 : Int32) = 1 ∧ (0 ≤ n_268.toInt ∧ n_268.toInt ≤ 0) ∧ (0 ≤ (0 : Int32).toInt ∧ (0 : Int32).toInt ≤ 0) ∧ (zRg 4 (-1) 60 g_trayMany) ∧ (trOK t ss nn)) := (Or.inl ⟨rfl, ⟨(by decide +kernel), hC_g_trayMany, (by unfold trOK; omega)⟩⟩)
              exact hret _ _ _ _ _ _ (n_268, 0, g_traySort, g_trayMany, g_numbers) [3, 0, 1, 2] hP hD hS rfl (by decide) dX12_tray_56 (Or.inl rfl) hpost
          · have b_271 := z_fgtF c_21
            refine lv_aload_n hx hb dX12_tray_40 rfl (lv_at hl 0 rfl) ?_
            refine lv_iconst (v := 5) hx hb dX12_tray_41 (by decide) ?_
            refine z_callVi (As := [.int 5]) (rest := []) (wr := [(a_traySort, .inl (cA.1 0, 4, .inl g_traySort)), (a_trayMany, .inl (cA.1 0, 4, .inl g_trayMany)), (a_numbers, .inl (cA.1 1, 240, .inr (.inl g_numbers)))]) ⟨hx, hb, hml, hown, hts⟩ hK hE hT hP hD hS hA (r_no l G cA h0 0 0 m_above m_under a_traySort a_trayMany a_numbers a_tape m_taped m_textEnd m_faultKind m_faultAt m_bad m_badAt m_token m_at m_behind m_number m_letters m_word a_c a_words m_markMany a_there a_tried a_best a_found m_thereMany m_foundMany m_orderHow m_orderRing m_orderMany m_hasBest m_bestTop m_bestBy a_weights a_shared m_random m_truePlace m_trueWay m_seconds m_done m_feelings m_tries m_leftOver m_playDoor m_playRing m_isOpen m_isOver m_wasTried m_hasPlayed a_feltNow a_last a_kept m_hasSeconds m_hasTurned m_hasRound a_hasFeels a_isOn m_firstAct m_meanTop m_meanBy a_order m_rowMany m_newSteps 5) lk_RX12_97 ⟨rfl, rfl⟩ ⟨Nat.le_of_ble_eq_true rfl, Nat.le_of_ble_eq_true rfl⟩ 12 rfl rfl rfl [0] [1, 2, 3] rfl rfl (by decide) rfl hl.1 rfl (lv_room (Nat.le_of_ble_eq_true rfl)) dX12_tray_42 ⟨Nat.le_of_ble_eq_true rfl, Nat.le_of_ble_eq_true rfl⟩ (fun r_273 u_274 H locs hw hP hD hS => ?_)
            obtain ⟨n_272, rfl⟩ : ∃ z, z = u_274 := ⟨_, rfl⟩
            obtain ⟨he_r_273, he_n_272, hw⟩ := hw
            obtain ⟨rfl, -⟩ := hw
            have hpost : ((0 : Int32) = 0 ∧ (0 ≤ (0 : Int32).toInt ∧ (0 : Int32).toInt ≤ 0) ∧ (zRg 4 (-1) 60 g_trayMany) ∧ (¬ trOK t ss nn)) ∨ ((0 : Int32) = 1 ∧ (0 ≤ n_272.toInt ∧ n_272.toInt ≤ 0) ∧ (0 ≤ (0 : Int32).toInt ∧ (0 : Int32).toInt ≤ 0) ∧ (zRg 4 (-1) 60 g_trayMany) ∧ (trOK t ss nn)) := (Or.inl ⟨rfl, ⟨(by decide +kernel), hC_g_trayMany, (by unfold trOK; omega)⟩⟩)
            exact hret _ _ _ _ _ _ (n_272, 0, g_traySort, g_trayMany, g_numbers) [3, 0, 1, 2] hP hD hS rfl (by decide) dX12_tray_45 (Or.inl rfl) hpost
        · have b_275 := z_fgtF c_19
          refine lv_aload_n hx hb dX12_tray_28 rfl (lv_at hl 0 rfl) ?_
          refine lv_iconst (v := 1) hx hb dX12_tray_29 (by decide) ?_
          refine z_callVi (As := [.int 1]) (rest := []) (wr := [(a_traySort, .inl (cA.1 0, 4, .inl g_traySort)), (a_trayMany, .inl (cA.1 0, 4, .inl g_trayMany)), (a_numbers, .inl (cA.1 1, 240, .inr (.inl g_numbers)))]) ⟨hx, hb, hml, hown, hts⟩ hK hE hT hP hD hS hA (r_no l G cA h0 0 0 m_above m_under a_traySort a_trayMany a_numbers a_tape m_taped m_textEnd m_faultKind m_faultAt m_bad m_badAt m_token m_at m_behind m_number m_letters m_word a_c a_words m_markMany a_there a_tried a_best a_found m_thereMany m_foundMany m_orderHow m_orderRing m_orderMany m_hasBest m_bestTop m_bestBy a_weights a_shared m_random m_truePlace m_trueWay m_seconds m_done m_feelings m_tries m_leftOver m_playDoor m_playRing m_isOpen m_isOver m_wasTried m_hasPlayed a_feltNow a_last a_kept m_hasSeconds m_hasTurned m_hasRound a_hasFeels a_isOn m_firstAct m_meanTop m_meanBy a_order m_rowMany m_newSteps 1) lk_RX12_97 ⟨rfl, rfl⟩ ⟨Nat.le_of_ble_eq_true rfl, Nat.le_of_ble_eq_true rfl⟩ 12 rfl rfl rfl [0] [1, 2, 3] rfl rfl (by decide) rfl hl.1 rfl (lv_room (Nat.le_of_ble_eq_true rfl)) dX12_tray_30 ⟨Nat.le_of_ble_eq_true rfl, Nat.le_of_ble_eq_true rfl⟩ (fun r_277 u_278 H locs hw hP hD hS => ?_)
          obtain ⟨n_276, rfl⟩ : ∃ z, z = u_278 := ⟨_, rfl⟩
          obtain ⟨he_r_277, he_n_276, hw⟩ := hw
          obtain ⟨rfl, -⟩ := hw
          have hpost : ((0 : Int32) = 0 ∧ (0 ≤ (0 : Int32).toInt ∧ (0 : Int32).toInt ≤ 0) ∧ (zRg 4 (-1) 60 g_trayMany) ∧ (¬ trOK t ss nn)) ∨ ((0 : Int32) = 1 ∧ (0 ≤ n_276.toInt ∧ n_276.toInt ≤ 0) ∧ (0 ≤ (0 : Int32).toInt ∧ (0 : Int32).toInt ≤ 0) ∧ (zRg 4 (-1) 60 g_trayMany) ∧ (trOK t ss nn)) := (Or.inl ⟨rfl, ⟨(by decide +kernel), hC_g_trayMany, (by unfold trOK; omega)⟩⟩)
          exact hret _ _ _ _ _ _ (n_276, 0, g_traySort, g_trayMany, g_numbers) [3, 0, 1, 2] hP hD hS rfl (by decide) dX12_tray_33 (Or.inl rfl) hpost
