set_option maxHeartbeats 40000000 in
set_option maxRecDepth 100000 in
theorem r_take (l : Launch) (G : va_G) (cA : zCA) (h0 : Nat) (m_status : Int32) (m_thrown : Int32) (m_above : Int64) (m_under : Int64) (a_traySort : Nat) (a_trayMany : Nat) (a_numbers : Nat) (a_tape : Nat) (m_taped : Int32) (m_textEnd : Int32) (m_faultKind : Int32) (m_faultAt : Int32) (m_bad : Int32) (m_badAt : Int32) (m_token : Int32) (m_at : Int32) (m_behind : Int32) (m_number : Int32) (m_letters : Int32) (m_word : Int64) (a_c : Nat) (a_words : Nat) (m_markMany : Int32) (a_there : Nat) (a_tried : Nat) (a_best : Nat) (a_found : Nat) (m_thereMany : Int32) (m_foundMany : Int32) (m_orderHow : Int32) (m_orderRing : Int32) (m_orderMany : Int32) (m_hasBest : Int32) (m_bestTop : Int64) (m_bestBy : Int64) (a_weights : Nat) (a_shared : Nat) (m_random : Int32) (m_truePlace : Int32) (m_trueWay : Int32) (m_seconds : Int32) (m_done : Int32) (m_feelings : Int32) (m_tries : Int32) (m_leftOver : Int32) (m_playDoor : Int32) (m_playRing : Int32) (m_isOpen : Int32) (m_isOver : Int32) (m_wasTried : Int32) (m_hasPlayed : Int32) (a_feltNow : Nat) (a_last : Nat) (a_kept : Nat) (m_hasSeconds : Int32) (m_hasTurned : Int32) (m_hasRound : Int32) (a_hasFeels : Nat) (a_isOn : Nat) (m_firstAct : Int32) (m_meanTop : Int64) (m_meanBy : Int64) (a_order : Nat) (m_rowMany : Int32) (m_newSteps : Int32) (g_c : Nat → Int32) (g_there : Nat → Int32) (g_shared : Nat → Int64) (r : Int32) (hr_m_thereMany : 0 ≤ m_thereMany.toInt ∧ m_thereMany.toInt ≤ 10) (hC_g_c : zC g_c) (hC_g_there : zRg 10 0 9 g_there) : zCi l yX12_take cX12_take 2 (some .boolean) ({ frames := 2, cells := 0, slots := 0, locals := 47 }) G cA [.ref h0, .int r] [(h0, .inr (12, [.int m_status, .int m_thrown, .long m_above, .long m_under, .ref a_traySort, .ref a_trayMany, .ref a_numbers, .ref a_tape, .int m_taped, .int m_textEnd, .int m_faultKind, .int m_faultAt, .int m_bad, .int m_badAt, .int m_token, .int m_at, .int m_behind, .int m_number, .int m_letters, .long m_word, .ref a_c, .ref a_words, .int m_markMany, .ref a_there, .ref a_tried, .ref a_best, .ref a_found, .int m_thereMany, .int m_foundMany, .int m_orderHow, .int m_orderRing, .int m_orderMany, .int m_hasBest, .long m_bestTop, .long m_bestBy, .ref a_weights, .ref a_shared, .int m_random, .int m_truePlace, .int m_trueWay, .int m_seconds, .int m_done, .int m_feelings, .int m_tries, .int m_leftOver, .int m_playDoor, .int m_playRing, .int m_isOpen, .int m_isOver, .int m_wasTried, .int m_hasPlayed, .ref a_feltNow, .ref a_last, .ref a_kept, .int m_hasSeconds, .int m_hasTurned, .int m_hasRound, .ref a_hasFeels, .ref a_isOn, .int m_firstAct, .long m_meanTop, .long m_meanBy, .ref a_order, .int m_rowMany, .int m_newSteps])), (a_c, .inl (cA.1 0, 1825, .inl g_c)), (a_there, .inl (cA.1 0, 10, .inl g_there)), (a_shared, .inl (cA.1 1, 20, .inr (.inl g_shared)))] (S := Int32 × Int32 × Int32 × (Nat → Int32) × (Nat → Int32) × (Nat → Int64)) (fun (r_0 : Int32) (u : Int32 × Int32 × Int32 × (Nat → Int32) × (Nat → Int32) × (Nat → Int64)) => (r_0 = (F_r_take g_c g_there r)) ∧ ((r_0 = 0 ∧ (0 ≤ u.2.1.toInt ∧ u.2.1.toInt ≤ 0) ∧ (0 ≤ u.2.2.1.toInt ∧ u.2.2.1.toInt ≤ 10) ∧ (zC u.2.2.2.1) ∧ (zRg 10 0 9 u.2.2.2.2.1) ∧ (zHG g_c u.2.2.2.1)) ∨ (r_0 = 1 ∧ (0 ≤ u.1.toInt ∧ u.1.toInt ≤ 0) ∧ (0 ≤ u.2.1.toInt ∧ u.2.1.toInt ≤ 0) ∧ (1 ≤ u.2.2.1.toInt ∧ u.2.2.1.toInt ≤ 10) ∧ (zC u.2.2.2.1) ∧ (zRg 10 0 9 u.2.2.2.2.1) ∧ (zHG g_c u.2.2.2.1)))) (fun (u : Int32 × Int32 × Int32 × (Nat → Int32) × (Nat → Int32) × (Nat → Int64)) => [(h0, .inr (12, [.int u.1, .int u.2.1, .long m_above, .long m_under, .ref a_traySort, .ref a_trayMany, .ref a_numbers, .ref a_tape, .int m_taped, .int m_textEnd, .int m_faultKind, .int m_faultAt, .int m_bad, .int m_badAt, .int m_token, .int m_at, .int m_behind, .int m_number, .int m_letters, .long m_word, .ref a_c, .ref a_words, .int m_markMany, .ref a_there, .ref a_tried, .ref a_best, .ref a_found, .int u.2.2.1, .int m_foundMany, .int m_orderHow, .int m_orderRing, .int m_orderMany, .int m_hasBest, .long m_bestTop, .long m_bestBy, .ref a_weights, .ref a_shared, .int m_random, .int m_truePlace, .int m_trueWay, .int m_seconds, .int m_done, .int m_feelings, .int m_tries, .int m_leftOver, .int m_playDoor, .int m_playRing, .int m_isOpen, .int m_isOver, .int m_wasTried, .int m_hasPlayed, .ref a_feltNow, .ref a_last, .ref a_kept, .int m_hasSeconds, .int m_hasTurned, .int m_hasRound, .ref a_hasFeels, .ref a_isOn, .int m_firstAct, .long m_meanTop, .long m_meanBy, .ref a_order, .int m_rowMany, .int m_newSteps])), (a_c, .inl (cA.1 0, 1825, .inl u.2.2.2.1)), (a_there, .inl (cA.1 0, 10, .inl u.2.2.2.2.1)), (a_shared, .inl (cA.1 1, 20, .inr (.inl u.2.2.2.2.2)))]) 0 0 := by
  have hk_0 : (0 : Int32).toInt = 0 := by decide +kernel
  have hk_2 : (2 : Int32).toInt = 2 := by decide +kernel
  have hk_8 : (8 : Int32).toInt = 8 := by decide +kernel
  refine z_start2z (own := RX12) (by decide) (Nat.le_of_ble_eq_true rfl) rfl ?_
  intro p e s m args below meth c A ls Q hx hb hml hts hown hK hE hT hP hD hS hA hl hret
  have hl : lv_has ls 2 [(0, .ref h0), (1, .int r)] := hl
  refine lv_aload_n hx hb dX12_take_0 rfl (lv_at hl 0 rfl) ?_
  refine lv_iconst (v := 0) hx hb dX12_take_1 (by decide) ?_
  refine va_put (D := G) (ci := 12) (v := .int 0) (ty := .int) (C := RX12) (T := TX12) (N := 65) hx hb hts inT12 tyX12 tyX12_ok nmX12 hown hK hP hD hS 0 rfl rfl 1 (by decide) (hts _ tw_1886) (fun _ h9 => h9) rfl (tyX12_ok 1 (by decide)) rfl rfl (Nat.le_of_ble_eq_true rfl) dX12_take_2 (fun H locs hP hD hS => ?_)
  refine lv_aload_n hx hb dX12_take_5 rfl (lv_at hl 0 rfl) ?_
  refine lv_iconst (v := 0) hx hb dX12_take_6 (by decide) ?_
  refine va_put (D := G) (ci := 12) (v := .int 0) (ty := .int) (C := RX12) (T := TX12) (N := 65) hx hb hts inT12 tyX12 tyX12_ok nmX12 hown hK hP hD hS 0 rfl rfl 0 (by decide) (hts _ tw_1885) (fun _ h9 => h9) rfl (tyX12_ok 0 (by decide)) rfl rfl (Nat.le_of_ble_eq_true rfl) dX12_take_7 (fun H locs hP hD hS => ?_)
  refine lv_aload_n hx hb dX12_take_10 rfl (lv_at hl 0 rfl) ?_
  refine lv_iload_n hx hb dX12_take_11 rfl (lv_at hl 1 rfl) ?_
  refine z_callVi (As := [.int r]) (rest := []) (wr := [(a_there, .inl (cA.1 0, 10, .inl g_there)), (a_shared, .inl (cA.1 1, 20, .inr (.inl g_shared)))]) ⟨hx, hb, hml, hown, hts⟩ hK hE hT hP hD hS hA (r_isRing l G cA h0 0 0 m_above m_under a_traySort a_trayMany a_numbers a_tape m_taped m_textEnd m_faultKind m_faultAt m_bad m_badAt m_token m_at m_behind m_number m_letters m_word a_c a_words m_markMany a_there a_tried a_best a_found m_thereMany m_foundMany m_orderHow m_orderRing m_orderMany m_hasBest m_bestTop m_bestBy a_weights a_shared m_random m_truePlace m_trueWay m_seconds m_done m_feelings m_tries m_leftOver m_playDoor m_playRing m_isOpen m_isOver m_wasTried m_hasPlayed a_feltNow a_last a_kept m_hasSeconds m_hasTurned m_hasRound a_hasFeels a_isOn m_firstAct m_meanTop m_meanBy a_order m_rowMany m_newSteps g_c r hC_g_c) lk_RX12_289 ⟨rfl, rfl⟩ ⟨Nat.le_of_ble_eq_true rfl, Nat.le_of_ble_eq_true rfl⟩ 12 rfl rfl rfl [0, 1] [2, 3] rfl rfl (by decide) rfl hl.1 rfl (lv_room (Nat.le_of_ble_eq_true rfl)) dX12_take_12 ⟨Nat.le_of_ble_eq_true rfl, Nat.le_of_ble_eq_true rfl⟩ (fun r_1 u_2 H locs hw hP hD hS => ?_)
  obtain ⟨he_r_1, hw⟩ := hw
  rcases hw with ⟨rfl, -⟩ | ⟨rfl, hf_4, hf_5⟩
  · skip
    refine lv_if_ne (tgt := 24) hx hb dX12_take_15 (by decide) (fun h9 => absurd (by decide +kernel) h9) (fun _ => ?_)
    refine lv_aload_n hx hb dX12_take_18 rfl (lv_at hl 0 rfl) ?_
    refine lv_iconst (v := 2) hx hb dX12_take_19 (by decide) ?_
    refine z_callVi (As := [.int 2]) (rest := []) (wr := [(a_there, .inl (cA.1 0, 10, .inl g_there)), (a_shared, .inl (cA.1 1, 20, .inr (.inl g_shared))), (a_c, .inl (cA.1 0, 1825, .inl g_c))]) ⟨hx, hb, hml, hown, hts⟩ hK hE hT hP hD hS hA (r_no l G cA h0 0 0 m_above m_under a_traySort a_trayMany a_numbers a_tape m_taped m_textEnd m_faultKind m_faultAt m_bad m_badAt m_token m_at m_behind m_number m_letters m_word a_c a_words m_markMany a_there a_tried a_best a_found m_thereMany m_foundMany m_orderHow m_orderRing m_orderMany m_hasBest m_bestTop m_bestBy a_weights a_shared m_random m_truePlace m_trueWay m_seconds m_done m_feelings m_tries m_leftOver m_playDoor m_playRing m_isOpen m_isOver m_wasTried m_hasPlayed a_feltNow a_last a_kept m_hasSeconds m_hasTurned m_hasRound a_hasFeels a_isOn m_firstAct m_meanTop m_meanBy a_order m_rowMany m_newSteps 2) lk_RX12_97 ⟨rfl, rfl⟩ ⟨Nat.le_of_ble_eq_true rfl, Nat.le_of_ble_eq_true rfl⟩ 12 rfl rfl rfl [2] [0, 1, 3] rfl rfl (by decide) rfl hl.1 rfl (lv_room (Nat.le_of_ble_eq_true rfl)) dX12_take_20 ⟨Nat.le_of_ble_eq_true rfl, Nat.le_of_ble_eq_true rfl⟩ (fun r_7 u_8 H locs hw hP hD hS => ?_)
    obtain ⟨n_6, rfl⟩ : ∃ z, z = u_8 := ⟨_, rfl⟩
    obtain ⟨he_r_7, he_n_6, hw⟩ := hw
    obtain ⟨rfl, -⟩ := hw
    have hpost : ((0 : Int32) = 0 ∧ (0 ≤ (0 : Int32).toInt ∧ (0 : Int32).toInt ≤ 0) ∧ (0 ≤ m_thereMany.toInt ∧ m_thereMany.toInt ≤ 10) ∧ (zC g_c) ∧ (zRg 10 0 9 g_there) ∧ (zHG g_c g_c)) ∨ ((0 : Int32) = 1 ∧ (0 ≤ n_6.toInt ∧ n_6.toInt ≤ 0) ∧ (0 ≤ (0 : Int32).toInt ∧ (0 : Int32).toInt ≤ 0) ∧ (1 ≤ m_thereMany.toInt ∧ m_thereMany.toInt ≤ 10) ∧ (zC g_c) ∧ (zRg 10 0 9 g_there) ∧ (zHG g_c g_c)) := (Or.inl ⟨rfl, ⟨(by decide +kernel), hr_m_thereMany, hC_g_c, hC_g_there, (zHG_refl g_c)⟩⟩)
    have hX_10 : F_r_take g_c g_there r = ((0 : Int32) : Int32) := by
      refine (F_r_take_s ..).trans ?_
      extract_lets -merge -useContext +onlyGivenNames w9 y9; have e9 : (0 : Int32) = w9 := he_r_1; clear_value w9; subst e9
      refine (if_pos rfl).trans ?_
      extract_lets -merge -useContext +onlyGivenNames w9 y2_0 y2_1; have e9 : ((0 : Int32), n_6) = w9 := ((z_tS he_r_7 he_n_6.symm)).symm; clear_value w9; subst e9
      exact rfl
    exact hret _ _ _ _ _ _ (n_6, 0, m_thereMany, g_c, g_there, g_shared) [3, 2, 0, 1] hP hD hS rfl (by decide) dX12_take_23 (Or.inl rfl) ⟨(congrArg (fun z9 => z9) hX_10).symm, hpost⟩
  · skip
    refine lv_if_ne (tgt := 24) hx hb dX12_take_15 (by decide) (fun _ => ?_) (fun h9 => absurd h9 (by decide +kernel))
    refine lv_aload_n hx hb dX12_take_24 rfl (lv_at hl 0 rfl) ?_
    refine lv_iload_n hx hb dX12_take_25 rfl (lv_at hl 1 rfl) ?_
    refine z_callVv (As := [.int r]) (rest := []) (wr := [(a_shared, .inl (cA.1 1, 20, .inr (.inl g_shared)))]) ⟨hx, hb, hml, hown, hts⟩ hK hE hT hP hD hS hA (r_gather l G cA h0 0 0 m_above m_under a_traySort a_trayMany a_numbers a_tape m_taped m_textEnd m_faultKind m_faultAt m_bad m_badAt m_token m_at m_behind m_number m_letters m_word a_c a_words m_markMany a_there a_tried a_best a_found m_thereMany m_foundMany m_orderHow m_orderRing m_orderMany m_hasBest m_bestTop m_bestBy a_weights a_shared m_random m_truePlace m_trueWay m_seconds m_done m_feelings m_tries m_leftOver m_playDoor m_playRing m_isOpen m_isOver m_wasTried m_hasPlayed a_feltNow a_last a_kept m_hasSeconds m_hasTurned m_hasRound a_hasFeels a_isOn m_firstAct m_meanTop m_meanBy a_order m_rowMany m_newSteps g_c g_there r (by omega) hr_m_thereMany hC_g_c hC_g_there) lk_RX12_292 ⟨rfl, rfl⟩ ⟨Nat.le_of_ble_eq_true rfl, Nat.le_of_ble_eq_true rfl⟩ 12 rfl rfl rfl [2, 3, 0] [1] rfl rfl (by decide) rfl hl.1 rfl (lv_room (Nat.le_of_ble_eq_true rfl)) dX12_take_26 ⟨Nat.le_of_ble_eq_true rfl, Nat.le_of_ble_eq_true rfl⟩ (fun u_14 H locs hw hP hD hS => ?_)
    obtain ⟨n_11, n_12⟩ := u_14
    try dsimp only at hw
    obtain ⟨he_n_11, he_n_12, hw⟩ := hw
    obtain ⟨hr_n_11, hC_n_12, hf_16, hf_17⟩ := hw
    refine lv_aload_n hx hb dX12_take_29 rfl (lv_at hl 0 rfl) ?_
    refine va_get (D := G) (ci := 12) (v := .int n_11) (C := RX12) (T := TX12) (N := 65) hx hb hts inT12 hown hK hP 1 rfl rfl 27 (by decide) (hts _ tw_1912) (fun _ h9 => h9) rfl dX12_take_30 ?_
    refine lv_if_ne (tgt := 43) hx hb dX12_take_33 (by decide) (fun c_18 => ?_) (fun c_18 => ?_)
    · have b_19 := z_fneT c_18
      refine lv_aload_n hx hb dX12_take_43 rfl (lv_at hl 0 rfl) ?_
      refine va_get (D := G) (ci := 12) (v := .ref a_c) (C := RX12) (T := TX12) (N := 65) hx hb hts inT12 hown hK hP 1 rfl rfl 20 (by decide) (hts _ tw_1905) (fun _ h9 => h9) rfl dX12_take_44 ?_
      refine lv_bipush (v := 10) hx hb dX12_take_47 (by decide) ?_
      refine lv_iload_n hx hb dX12_take_49 rfl (lv_at hl 1 rfl) ?_
      refine z_iast hx hb hK hP hD hS 2 0 rfl rfl (z_in (i := 10) (n := 1825) (by decide +kernel) (by decide +kernel)) dX12_take_50 (fun g_20 hg_g_20 H locs hP hD hS => ?_)
      have hC_g_20 := z_ctUk hC_g_c hg_g_20 (k := 10) (lo := (-1)) (hi := 2) (by decide +kernel) (by decide +kernel) (by decide +kernel) (by omega)
      have hs_21 : zHG g_c g_20 := (zHG_upd (zHG_refl g_c) hg_g_20 (a := 10) (b := 10) (by decide) (by decide +kernel) (by decide +kernel))
      refine lv_aload_n hx hb dX12_take_51 rfl (lv_at hl 0 rfl) ?_
      refine z_callVv (As := []) (rest := []) (wr := [(a_there, .inl (cA.1 0, 10, .inl n_12))]) ⟨hx, hb, hml, hown, hts⟩ hK hE hT hP hD hS hA (r_beginThought l G cA h0 0 0 m_above m_under a_traySort a_trayMany a_numbers a_tape m_taped m_textEnd m_faultKind m_faultAt m_bad m_badAt m_token m_at m_behind m_number m_letters m_word a_c a_words m_markMany a_there a_tried a_best a_found n_11 m_foundMany m_orderHow m_orderRing m_orderMany m_hasBest m_bestTop m_bestBy a_weights a_shared m_random m_truePlace m_trueWay m_seconds m_done m_feelings m_tries m_leftOver m_playDoor m_playRing m_isOpen m_isOver m_wasTried m_hasPlayed a_feltNow a_last a_kept m_hasSeconds m_hasTurned m_hasRound a_hasFeels a_isOn m_firstAct m_meanTop m_meanBy a_order m_rowMany m_newSteps g_20 g_shared hr_n_11 hC_g_20) lk_RX12_320 ⟨rfl, rfl⟩ ⟨Nat.le_of_ble_eq_true rfl, Nat.le_of_ble_eq_true rfl⟩ 12 rfl rfl rfl [1, 2, 0] [3] rfl rfl (by decide) rfl hl.1 rfl (lv_room (Nat.le_of_ble_eq_true rfl)) dX12_take_52 ⟨Nat.le_of_ble_eq_true rfl, Nat.le_of_ble_eq_true rfl⟩ (fun u_25 H locs hw hP hD hS => ?_)
      obtain ⟨n_22, n_23⟩ := u_25
      try dsimp only at hw
      obtain ⟨hC_n_22, hf_26⟩ := hw
      have hs_27 : zHG g_c n_22 := (zHG_trans hs_21 (zHG_PF hf_26))
      refine lv_iconst (v := 1) hx hb dX12_take_55 (by decide) ?_
      have hpost : ((1 : Int32) = 0 ∧ (0 ≤ (0 : Int32).toInt ∧ (0 : Int32).toInt ≤ 0) ∧ (0 ≤ n_11.toInt ∧ n_11.toInt ≤ 10) ∧ (zC n_22) ∧ (zRg 10 0 9 n_12) ∧ (zHG g_c n_22)) ∨ ((1 : Int32) = 1 ∧ (0 ≤ (0 : Int32).toInt ∧ (0 : Int32).toInt ≤ 0) ∧ (0 ≤ (0 : Int32).toInt ∧ (0 : Int32).toInt ≤ 0) ∧ (1 ≤ n_11.toInt ∧ n_11.toInt ≤ 10) ∧ (zC n_22) ∧ (zRg 10 0 9 n_12) ∧ (zHG g_c n_22)) := (Or.inr ⟨rfl, ⟨(by decide +kernel), (by decide +kernel), (by omega), hC_n_22, hC_n_12, hs_27⟩⟩)
      have hX_28 : F_r_take g_c g_there r = ((1 : Int32) : Int32) := by
        refine (F_r_take_s ..).trans ?_
        extract_lets -merge -useContext +onlyGivenNames w9 y9; have e9 : (1 : Int32) = w9 := he_r_1; clear_value w9; subst e9
        refine (if_neg (show ¬ (1 : Int32) = 0 by decide)).trans ?_
        extract_lets -merge -useContext +onlyGivenNames w9 y2_0 y2_1; have e9 : (n_11, n_12) = w9 := ((z_tS he_n_11 he_n_12.symm)).symm; clear_value w9; subst e9
        refine (if_neg c_18).trans ?_
        try (extract_lets -merge -useContext +onlyGivenNames y9; have e9 : g_20 = y9 := (by first | exact hg_g_20 | exact hg_g_20.symm); clear_value y9; subst e9)
        exact rfl
      exact hret _ _ _ _ _ _ (0, 0, n_11, n_22, n_12, n_23) [1, 2, 0, 3] hP hD hS rfl (by decide) dX12_take_56 (Or.inr rfl) ⟨(congrArg (fun z9 => z9) hX_28).symm, hpost⟩
    · have b_29 := z_feqF c_18
      refine lv_aload_n hx hb dX12_take_36 rfl (lv_at hl 0 rfl) ?_
      refine lv_bipush (v := 8) hx hb dX12_take_37 (by decide) ?_
      refine z_callVi (As := [.int 8]) (rest := []) (wr := [(a_shared, .inl (cA.1 1, 20, .inr (.inl g_shared))), (a_c, .inl (cA.1 0, 1825, .inl g_c)), (a_there, .inl (cA.1 0, 10, .inl n_12))]) ⟨hx, hb, hml, hown, hts⟩ hK hE hT hP hD hS hA (r_no l G cA h0 0 0 m_above m_under a_traySort a_trayMany a_numbers a_tape m_taped m_textEnd m_faultKind m_faultAt m_bad m_badAt m_token m_at m_behind m_number m_letters m_word a_c a_words m_markMany a_there a_tried a_best a_found n_11 m_foundMany m_orderHow m_orderRing m_orderMany m_hasBest m_bestTop m_bestBy a_weights a_shared m_random m_truePlace m_trueWay m_seconds m_done m_feelings m_tries m_leftOver m_playDoor m_playRing m_isOpen m_isOver m_wasTried m_hasPlayed a_feltNow a_last a_kept m_hasSeconds m_hasTurned m_hasRound a_hasFeels a_isOn m_firstAct m_meanTop m_meanBy a_order m_rowMany m_newSteps 8) lk_RX12_97 ⟨rfl, rfl⟩ ⟨Nat.le_of_ble_eq_true rfl, Nat.le_of_ble_eq_true rfl⟩ 12 rfl rfl rfl [1] [0, 2, 3] rfl rfl (by decide) rfl hl.1 rfl (lv_room (Nat.le_of_ble_eq_true rfl)) dX12_take_39 ⟨Nat.le_of_ble_eq_true rfl, Nat.le_of_ble_eq_true rfl⟩ (fun r_31 u_32 H locs hw hP hD hS => ?_)
      obtain ⟨n_30, rfl⟩ : ∃ z, z = u_32 := ⟨_, rfl⟩
      obtain ⟨he_r_31, he_n_30, hw⟩ := hw
      obtain ⟨rfl, -⟩ := hw
      have hpost : ((0 : Int32) = 0 ∧ (0 ≤ (0 : Int32).toInt ∧ (0 : Int32).toInt ≤ 0) ∧ (0 ≤ n_11.toInt ∧ n_11.toInt ≤ 10) ∧ (zC g_c) ∧ (zRg 10 0 9 n_12) ∧ (zHG g_c g_c)) ∨ ((0 : Int32) = 1 ∧ (0 ≤ n_30.toInt ∧ n_30.toInt ≤ 0) ∧ (0 ≤ (0 : Int32).toInt ∧ (0 : Int32).toInt ≤ 0) ∧ (1 ≤ n_11.toInt ∧ n_11.toInt ≤ 10) ∧ (zC g_c) ∧ (zRg 10 0 9 n_12) ∧ (zHG g_c g_c)) := (Or.inl ⟨rfl, ⟨(by decide +kernel), hr_n_11, hC_g_c, hC_n_12, (zHG_refl g_c)⟩⟩)
      have hX_34 : F_r_take g_c g_there r = ((0 : Int32) : Int32) := by
        refine (F_r_take_s ..).trans ?_
        extract_lets -merge -useContext +onlyGivenNames w9 y9; have e9 : (1 : Int32) = w9 := he_r_1; clear_value w9; subst e9
        refine (if_neg (show ¬ (1 : Int32) = 0 by decide)).trans ?_
        extract_lets -merge -useContext +onlyGivenNames w9 y2_0 y2_1; have e9 : (n_11, n_12) = w9 := ((z_tS he_n_11 he_n_12.symm)).symm; clear_value w9; subst e9
        refine (if_pos c_18).trans ?_
        extract_lets -merge -useContext +onlyGivenNames w9 y4_0 y4_1; have e9 : ((0 : Int32), n_30) = w9 := ((z_tS he_r_31 he_n_30.symm)).symm; clear_value w9; subst e9
        exact rfl
      exact hret _ _ _ _ _ _ (n_30, 0, n_11, g_c, n_12, g_shared) [3, 1, 2, 0] hP hD hS rfl (by decide) dX12_take_42 (Or.inl rfl) ⟨(congrArg (fun z9 => z9) hX_34).symm, hpost⟩
set_option maxHeartbeats 4000000 in
set_option maxRecDepth 100000 in
theorem r_isHeld (l : Launch) (G : va_G) (cA : zCA) (h0 : Nat) (m_status : Int32) (m_thrown : Int32) (m_above : Int64) (m_under : Int64) (a_traySort : Nat) (a_trayMany : Nat) (a_numbers : Nat) (a_tape : Nat) (m_taped : Int32) (m_textEnd : Int32) (m_faultKind : Int32) (m_faultAt : Int32) (m_bad : Int32) (m_badAt : Int32) (m_token : Int32) (m_at : Int32) (m_behind : Int32) (m_number : Int32) (m_letters : Int32) (m_word : Int64) (a_c : Nat) (a_words : Nat) (m_markMany : Int32) (a_there : Nat) (a_tried : Nat) (a_best : Nat) (a_found : Nat) (m_thereMany : Int32) (m_foundMany : Int32) (m_orderHow : Int32) (m_orderRing : Int32) (m_orderMany : Int32) (m_hasBest : Int32) (m_bestTop : Int64) (m_bestBy : Int64) (a_weights : Nat) (a_shared : Nat) (m_random : Int32) (m_truePlace : Int32) (m_trueWay : Int32) (m_seconds : Int32) (m_done : Int32) (m_feelings : Int32) (m_tries : Int32) (m_leftOver : Int32) (m_playDoor : Int32) (m_playRing : Int32) (m_isOpen : Int32) (m_isOver : Int32) (m_wasTried : Int32) (m_hasPlayed : Int32) (a_feltNow : Nat) (a_last : Nat) (a_kept : Nat) (m_hasSeconds : Int32) (m_hasTurned : Int32) (m_hasRound : Int32) (a_hasFeels : Nat) (a_isOn : Nat) (m_firstAct : Int32) (m_meanTop : Int64) (m_meanBy : Int64) (a_order : Nat) (m_rowMany : Int32) (m_newSteps : Int32) (g_c : Nat → Int32) (g_there : Nat → Int32) (hr_m_thereMany : 0 ≤ m_thereMany.toInt ∧ m_thereMany.toInt ≤ 10) (hC_g_c : zC g_c) (hC_g_there : zRg 10 0 9 g_there) : zCi l yX12_isHeld cX12_isHeld 1 (some .boolean) ({ frames := 1, cells := 0, slots := 0, locals := 23 }) G cA [.ref h0] [(h0, .inr (12, [.int m_status, .int m_thrown, .long m_above, .long m_under, .ref a_traySort, .ref a_trayMany, .ref a_numbers, .ref a_tape, .int m_taped, .int m_textEnd, .int m_faultKind, .int m_faultAt, .int m_bad, .int m_badAt, .int m_token, .int m_at, .int m_behind, .int m_number, .int m_letters, .long m_word, .ref a_c, .ref a_words, .int m_markMany, .ref a_there, .ref a_tried, .ref a_best, .ref a_found, .int m_thereMany, .int m_foundMany, .int m_orderHow, .int m_orderRing, .int m_orderMany, .int m_hasBest, .long m_bestTop, .long m_bestBy, .ref a_weights, .ref a_shared, .int m_random, .int m_truePlace, .int m_trueWay, .int m_seconds, .int m_done, .int m_feelings, .int m_tries, .int m_leftOver, .int m_playDoor, .int m_playRing, .int m_isOpen, .int m_isOver, .int m_wasTried, .int m_hasPlayed, .ref a_feltNow, .ref a_last, .ref a_kept, .int m_hasSeconds, .int m_hasTurned, .int m_hasRound, .ref a_hasFeels, .ref a_isOn, .int m_firstAct, .long m_meanTop, .long m_meanBy, .ref a_order, .int m_rowMany, .int m_newSteps])), (a_c, .inl (cA.1 0, 1825, .inl g_c)), (a_there, .inl (cA.1 0, 10, .inl g_there))] (S := Int32 × (Nat → Int32)) (fun (r : Int32) (u : Int32 × (Nat → Int32)) => (r = 0 ∧ (0 ≤ u.1.toInt ∧ u.1.toInt ≤ 10) ∧ (zRg 10 0 9 u.2)) ∨ (r = 1 ∧ (0 ≤ u.1.toInt ∧ u.1.toInt ≤ 10) ∧ (zRg 10 0 9 u.2))) (fun (u : Int32 × (Nat → Int32)) => [(h0, .inr (12, [.int m_status, .int m_thrown, .long m_above, .long m_under, .ref a_traySort, .ref a_trayMany, .ref a_numbers, .ref a_tape, .int m_taped, .int m_textEnd, .int m_faultKind, .int m_faultAt, .int m_bad, .int m_badAt, .int m_token, .int m_at, .int m_behind, .int m_number, .int m_letters, .long m_word, .ref a_c, .ref a_words, .int m_markMany, .ref a_there, .ref a_tried, .ref a_best, .ref a_found, .int u.1, .int m_foundMany, .int m_orderHow, .int m_orderRing, .int m_orderMany, .int m_hasBest, .long m_bestTop, .long m_bestBy, .ref a_weights, .ref a_shared, .int m_random, .int m_truePlace, .int m_trueWay, .int m_seconds, .int m_done, .int m_feelings, .int m_tries, .int m_leftOver, .int m_playDoor, .int m_playRing, .int m_isOpen, .int m_isOver, .int m_wasTried, .int m_hasPlayed, .ref a_feltNow, .ref a_last, .ref a_kept, .int m_hasSeconds, .int m_hasTurned, .int m_hasRound, .ref a_hasFeels, .ref a_isOn, .int m_firstAct, .long m_meanTop, .long m_meanBy, .ref a_order, .int m_rowMany, .int m_newSteps])), (a_c, .inl (cA.1 0, 1825, .inl g_c)), (a_there, .inl (cA.1 0, 10, .inl u.2))]) 0 0 := by
  have hk_0 : (0 : Int32).toInt = 0 := by decide +kernel
  refine z_start2z (own := RX12) (by decide) (Nat.le_of_ble_eq_true rfl) rfl ?_
  intro p e s m args below meth c A ls Q hx hb hml hts hown hK hE hT hP hD hS hA hl hret
  have hl : lv_has ls 1 [(0, .ref h0)] := hl
  refine lv_aload_n hx hb dX12_isHeld_0 rfl (lv_at hl 0 rfl) ?_
  refine va_get (D := G) (ci := 12) (v := .ref a_c) (C := RX12) (T := TX12) (N := 65) hx hb hts inT12 hown hK hP 0 rfl rfl 20 (by decide) (hts _ tw_1905) (fun _ h9 => h9) rfl dX12_isHeld_1 ?_
  refine lv_bipush (v := 10) hx hb dX12_isHeld_4 (by decide) ?_
  refine va_iald hx hb hK hP 1 0 rfl rfl (z_in (i := 10) (n := 1825) (by decide +kernel) (by decide +kernel)) dX12_isHeld_6 ?_
  refine lv_topi (fun x_1 he_x_1 => ?_)
  have hr_x_1 := z_ctk hC_g_c he_x_1 (k := 10) (lo := (-1)) (hi := 2) (by decide +kernel) (by decide +kernel) (by decide +kernel)
  have hv_x_1 := z_cv he_x_1 (k := 10) (by decide +kernel)
  refine lv_if_ge (tgt := 12) hx hb dX12_isHeld_7 (by decide) (fun c_2 => ?_) (fun c_2 => ?_)
  · have b_3 := z_fgeT c_2
    refine lv_aload_n hx hb dX12_isHeld_12 rfl (lv_at hl 0 rfl) ?_
    refine lv_aload_n hx hb dX12_isHeld_13 rfl (lv_at hl 0 rfl) ?_
    refine va_get (D := G) (ci := 12) (v := .ref a_c) (C := RX12) (T := TX12) (N := 65) hx hb hts inT12 hown hK hP 0 rfl rfl 20 (by decide) (hts _ tw_1905) (fun _ h9 => h9) rfl dX12_isHeld_14 ?_
    refine lv_bipush (v := 10) hx hb dX12_isHeld_17 (by decide) ?_
    refine va_iald hx hb hK hP 1 0 rfl rfl (z_in (i := 10) (n := 1825) (by decide +kernel) (by decide +kernel)) dX12_isHeld_19 ?_
    refine lv_topi (fun x_4 he_x_4 => ?_)
    have hr_x_4 := z_ctk hC_g_c he_x_4 (k := 10) (lo := (-1)) (hi := 2) (by decide +kernel) (by decide +kernel) (by decide +kernel)
    have hv_x_4 := z_cv he_x_4 (k := 10) (by decide +kernel)
    refine z_callVv (As := [.int x_4]) (rest := []) (wr := []) ⟨hx, hb, hml, hown, hts⟩ hK hE hT hP hD hS hA (r_gather l G cA h0 m_status m_thrown m_above m_under a_traySort a_trayMany a_numbers a_tape m_taped m_textEnd m_faultKind m_faultAt m_bad m_badAt m_token m_at m_behind m_number m_letters m_word a_c a_words m_markMany a_there a_tried a_best a_found m_thereMany m_foundMany m_orderHow m_orderRing m_orderMany m_hasBest m_bestTop m_bestBy a_weights a_shared m_random m_truePlace m_trueWay m_seconds m_done m_feelings m_tries m_leftOver m_playDoor m_playRing m_isOpen m_isOver m_wasTried m_hasPlayed a_feltNow a_last a_kept m_hasSeconds m_hasTurned m_hasRound a_hasFeels a_isOn m_firstAct m_meanTop m_meanBy a_order m_rowMany m_newSteps g_c g_there x_4 (by omega) hr_m_thereMany hC_g_c hC_g_there) lk_RX12_292 ⟨rfl, rfl⟩ ⟨Nat.le_of_ble_eq_true rfl, Nat.le_of_ble_eq_true rfl⟩ 12 rfl rfl rfl [0, 1, 2] [] rfl rfl (by decide) rfl hl.1 rfl (lv_room (Nat.le_of_ble_eq_true rfl)) dX12_isHeld_20 ⟨Nat.le_of_ble_eq_true rfl, Nat.le_of_ble_eq_true rfl⟩ (fun u_8 H locs hw hP hD hS => ?_)
    obtain ⟨n_5, n_6⟩ := u_8
    try dsimp only at hw
    obtain ⟨he_n_5, he_n_6, hw⟩ := hw
    obtain ⟨hr_n_5, hC_n_6, hf_9, hf_10⟩ := hw
    refine lv_iconst (v := 1) hx hb dX12_isHeld_23 (by decide) ?_
    have hpost : ((1 : Int32) = 0 ∧ (0 ≤ n_5.toInt ∧ n_5.toInt ≤ 10) ∧ (zRg 10 0 9 n_6)) ∨ ((1 : Int32) = 1 ∧ (0 ≤ n_5.toInt ∧ n_5.toInt ≤ 10) ∧ (zRg 10 0 9 n_6)) := (Or.inr ⟨rfl, ⟨hr_n_5, hC_n_6⟩⟩)
    exact hret _ _ _ _ _ _ (n_5, n_6) [0, 1, 2] hP hD hS rfl (by decide) dX12_isHeld_24 (Or.inr rfl) hpost
  · have b_11 := z_fltF c_2
    refine lv_iconst (v := 0) hx hb dX12_isHeld_10 (by decide) ?_
    have hpost : ((0 : Int32) = 0 ∧ (0 ≤ m_thereMany.toInt ∧ m_thereMany.toInt ≤ 10) ∧ (zRg 10 0 9 g_there)) ∨ ((0 : Int32) = 1 ∧ (0 ≤ m_thereMany.toInt ∧ m_thereMany.toInt ≤ 10) ∧ (zRg 10 0 9 g_there)) := (Or.inl ⟨rfl, ⟨hr_m_thereMany, hC_g_there⟩⟩)
    exact hret _ _ _ _ _ _ (m_thereMany, g_there) [0, 1, 2] hP hD hS rfl (by decide) dX12_isHeld_11 (Or.inl rfl) hpost
set_option maxHeartbeats 4000000 in
set_option maxRecDepth 100000 in
theorem r_part (l : Launch) (G : va_G) (cA : zCA) (h0 : Nat) (m_status : Int32) (m_thrown : Int32) (m_above : Int64) (m_under : Int64) (a_traySort : Nat) (a_trayMany : Nat) (a_numbers : Nat) (a_tape : Nat) (m_taped : Int32) (m_textEnd : Int32) (m_faultKind : Int32) (m_faultAt : Int32) (m_bad : Int32) (m_badAt : Int32) (m_token : Int32) (m_at : Int32) (m_behind : Int32) (m_number : Int32) (m_letters : Int32) (m_word : Int64) (a_c : Nat) (a_words : Nat) (m_markMany : Int32) (a_there : Nat) (a_tried : Nat) (a_best : Nat) (a_found : Nat) (m_thereMany : Int32) (m_foundMany : Int32) (m_orderHow : Int32) (m_orderRing : Int32) (m_orderMany : Int32) (m_hasBest : Int32) (m_bestTop : Int64) (m_bestBy : Int64) (a_weights : Nat) (a_shared : Nat) (m_random : Int32) (m_truePlace : Int32) (m_trueWay : Int32) (m_seconds : Int32) (m_done : Int32) (m_feelings : Int32) (m_tries : Int32) (m_leftOver : Int32) (m_playDoor : Int32) (m_playRing : Int32) (m_isOpen : Int32) (m_isOver : Int32) (m_wasTried : Int32) (m_hasPlayed : Int32) (a_feltNow : Nat) (a_last : Nat) (a_kept : Nat) (m_hasSeconds : Int32) (m_hasTurned : Int32) (m_hasRound : Int32) (a_hasFeels : Nat) (a_isOn : Nat) (m_firstAct : Int32) (m_meanTop : Int64) (m_meanBy : Int64) (a_order : Nat) (m_rowMany : Int32) (m_newSteps : Int32) (g_c : Nat → Int32) (g_there : Nat → Int32) (pp : Int32) (w : Int32) (hr_m_thereMany : 0 ≤ m_thereMany.toInt ∧ m_thereMany.toInt ≤ 10) (hC_g_c : zC g_c) (hC_g_there : zRg 10 0 9 g_there) : zCi l yX12_part cX12_part 3 (some .int) ({ frames := 2, cells := 0, slots := 0, locals := 43 }) G cA [.ref h0, .int pp, .int w] [(h0, .inr (12, [.int m_status, .int m_thrown, .long m_above, .long m_under, .ref a_traySort, .ref a_trayMany, .ref a_numbers, .ref a_tape, .int m_taped, .int m_textEnd, .int m_faultKind, .int m_faultAt, .int m_bad, .int m_badAt, .int m_token, .int m_at, .int m_behind, .int m_number, .int m_letters, .long m_word, .ref a_c, .ref a_words, .int m_markMany, .ref a_there, .ref a_tried, .ref a_best, .ref a_found, .int m_thereMany, .int m_foundMany, .int m_orderHow, .int m_orderRing, .int m_orderMany, .int m_hasBest, .long m_bestTop, .long m_bestBy, .ref a_weights, .ref a_shared, .int m_random, .int m_truePlace, .int m_trueWay, .int m_seconds, .int m_done, .int m_feelings, .int m_tries, .int m_leftOver, .int m_playDoor, .int m_playRing, .int m_isOpen, .int m_isOver, .int m_wasTried, .int m_hasPlayed, .ref a_feltNow, .ref a_last, .ref a_kept, .int m_hasSeconds, .int m_hasTurned, .int m_hasRound, .ref a_hasFeels, .ref a_isOn, .int m_firstAct, .long m_meanTop, .long m_meanBy, .ref a_order, .int m_rowMany, .int m_newSteps])), (a_c, .inl (cA.1 0, 1825, .inl g_c)), (a_there, .inl (cA.1 0, 10, .inl g_there))] (S := Int32 × Int32 × Int32 × (Nat → Int32)) (fun (r : Int32) (u : Int32 × Int32 × Int32 × (Nat → Int32)) => (0 ≤ u.2.1.toInt ∧ u.2.1.toInt ≤ 0) ∧ (0 ≤ u.2.2.1.toInt ∧ u.2.2.1.toInt ≤ 10) ∧ (zRg 10 0 9 u.2.2.2)) (fun (u : Int32 × Int32 × Int32 × (Nat → Int32)) => [(h0, .inr (12, [.int u.1, .int u.2.1, .long m_above, .long m_under, .ref a_traySort, .ref a_trayMany, .ref a_numbers, .ref a_tape, .int m_taped, .int m_textEnd, .int m_faultKind, .int m_faultAt, .int m_bad, .int m_badAt, .int m_token, .int m_at, .int m_behind, .int m_number, .int m_letters, .long m_word, .ref a_c, .ref a_words, .int m_markMany, .ref a_there, .ref a_tried, .ref a_best, .ref a_found, .int u.2.2.1, .int m_foundMany, .int m_orderHow, .int m_orderRing, .int m_orderMany, .int m_hasBest, .long m_bestTop, .long m_bestBy, .ref a_weights, .ref a_shared, .int m_random, .int m_truePlace, .int m_trueWay, .int m_seconds, .int m_done, .int m_feelings, .int m_tries, .int m_leftOver, .int m_playDoor, .int m_playRing, .int m_isOpen, .int m_isOver, .int m_wasTried, .int m_hasPlayed, .ref a_feltNow, .ref a_last, .ref a_kept, .int m_hasSeconds, .int m_hasTurned, .int m_hasRound, .ref a_hasFeels, .ref a_isOn, .int m_firstAct, .long m_meanTop, .long m_meanBy, .ref a_order, .int m_rowMany, .int m_newSteps])), (a_c, .inl (cA.1 0, 1825, .inl g_c)), (a_there, .inl (cA.1 0, 10, .inl u.2.2.2))]) 0 0 := by
  have hk_1 : (1 : Int32).toInt = 1 := by decide +kernel
  have hk_2 : (2 : Int32).toInt = 2 := by decide +kernel
  have hk_5 : (5 : Int32).toInt = 5 := by decide +kernel
  have hk_8 : (8 : Int32).toInt = 8 := by decide +kernel
  have hk_160 : (160 : Int32).toInt = 160 := by decide +kernel
  have hkl_0 : (0 : Int64).toInt = 0 := by decide +kernel
  have hkl_1 : (1 : Int64).toInt = 1 := by decide +kernel
  refine z_start2i (own := RX12) (by decide) (Nat.le_of_ble_eq_true rfl) rfl ?_
  intro p e s m args below meth c A ls Q hx hb hml hts hown hK hE hT hP hD hS hA hl hret
  have hl : lv_has ls 3 [(0, .ref h0), (1, .int pp), (2, .int w)] := hl
  refine lv_aload_n hx hb dX12_part_0 rfl (lv_at hl 0 rfl) ?_
  refine lv_iconst (v := 0) hx hb dX12_part_1 (by decide) ?_
  refine va_put (D := G) (ci := 12) (v := .int 0) (ty := .int) (C := RX12) (T := TX12) (N := 65) hx hb hts inT12 tyX12 tyX12_ok nmX12 hown hK hP hD hS 0 rfl rfl 1 (by decide) (hts _ tw_1886) (fun _ h9 => h9) rfl (tyX12_ok 1 (by decide)) rfl rfl (Nat.le_of_ble_eq_true rfl) dX12_part_2 (fun H locs hP hD hS => ?_)
  refine lv_aload_n hx hb dX12_part_5 rfl (lv_at hl 0 rfl) ?_
  refine lv_iconst (v := 0) hx hb dX12_part_6 (by decide) ?_
  refine va_put (D := G) (ci := 12) (v := .int 0) (ty := .int) (C := RX12) (T := TX12) (N := 65) hx hb hts inT12 tyX12 tyX12_ok nmX12 hown hK hP hD hS 0 rfl rfl 0 (by decide) (hts _ tw_1885) (fun _ h9 => h9) rfl (tyX12_ok 0 (by decide)) rfl rfl (Nat.le_of_ble_eq_true rfl) dX12_part_7 (fun H locs hP hD hS => ?_)
  refine lv_aload_n hx hb dX12_part_10 rfl (lv_at hl 0 rfl) ?_
  refine z_callVi (As := []) (rest := []) (wr := []) ⟨hx, hb, hml, hown, hts⟩ hK hE hT hP hD hS hA (r_isHeld l G cA h0 0 0 m_above m_under a_traySort a_trayMany a_numbers a_tape m_taped m_textEnd m_faultKind m_faultAt m_bad m_badAt m_token m_at m_behind m_number m_letters m_word a_c a_words m_markMany a_there a_tried a_best a_found m_thereMany m_foundMany m_orderHow m_orderRing m_orderMany m_hasBest m_bestTop m_bestBy a_weights a_shared m_random m_truePlace m_trueWay m_seconds m_done m_feelings m_tries m_leftOver m_playDoor m_playRing m_isOpen m_isOver m_wasTried m_hasPlayed a_feltNow a_last a_kept m_hasSeconds m_hasTurned m_hasRound a_hasFeels a_isOn m_firstAct m_meanTop m_meanBy a_order m_rowMany m_newSteps g_c g_there hr_m_thereMany hC_g_c hC_g_there) lk_RX12_323 ⟨rfl, rfl⟩ ⟨Nat.le_of_ble_eq_true rfl, Nat.le_of_ble_eq_true rfl⟩ 12 rfl rfl rfl [0, 1, 2] [] rfl rfl (by decide) rfl hl.1 rfl (lv_room (Nat.le_of_ble_eq_true rfl)) dX12_part_11 ⟨Nat.le_of_ble_eq_true rfl, Nat.le_of_ble_eq_true rfl⟩ (fun r_3 u_4 H locs hw hP hD hS => ?_)
  obtain ⟨n_1, n_2⟩ := u_4
  try dsimp only at hw
  rcases hw with ⟨rfl, hr_n_1, hC_n_2⟩ | ⟨rfl, hr_n_1, hC_n_2⟩
  · skip
    refine lv_if_ne (tgt := 24) hx hb dX12_part_14 (by decide) (fun h9 => absurd (by decide +kernel) h9) (fun _ => ?_)
    refine lv_aload_n hx hb dX12_part_17 rfl (lv_at hl 0 rfl) ?_
    refine lv_bipush (v := 8) hx hb dX12_part_18 (by decide) ?_
    refine z_callVi (As := [.int 8]) (rest := []) (wr := [(a_c, .inl (cA.1 0, 1825, .inl g_c)), (a_there, .inl (cA.1 0, 10, .inl n_2))]) ⟨hx, hb, hml, hown, hts⟩ hK hE hT hP hD hS hA (r_refuse l G cA h0 0 0 m_above m_under a_traySort a_trayMany a_numbers a_tape m_taped m_textEnd m_faultKind m_faultAt m_bad m_badAt m_token m_at m_behind m_number m_letters m_word a_c a_words m_markMany a_there a_tried a_best a_found n_1 m_foundMany m_orderHow m_orderRing m_orderMany m_hasBest m_bestTop m_bestBy a_weights a_shared m_random m_truePlace m_trueWay m_seconds m_done m_feelings m_tries m_leftOver m_playDoor m_playRing m_isOpen m_isOver m_wasTried m_hasPlayed a_feltNow a_last a_kept m_hasSeconds m_hasTurned m_hasRound a_hasFeels a_isOn m_firstAct m_meanTop m_meanBy a_order m_rowMany m_newSteps 8) lk_RX12_269 ⟨rfl, rfl⟩ ⟨Nat.le_of_ble_eq_true rfl, Nat.le_of_ble_eq_true rfl⟩ 12 rfl rfl rfl [0] [1, 2] rfl rfl (by decide) rfl hl.1 rfl (lv_room (Nat.le_of_ble_eq_true rfl)) dX12_part_20 ⟨Nat.le_of_ble_eq_true rfl, Nat.le_of_ble_eq_true rfl⟩ (fun r_6 u_7 H locs hw hP hD hS => ?_)
    obtain ⟨n_5, rfl⟩ : ∃ z, z = u_7 := ⟨_, rfl⟩
    obtain ⟨he_r_6, he_n_5, hw⟩ := hw
    have hr_r_6 := hw
    have hpost : (0 ≤ (0 : Int32).toInt ∧ (0 : Int32).toInt ≤ 0) ∧ (0 ≤ n_1.toInt ∧ n_1.toInt ≤ 10) ∧ (zRg 10 0 9 n_2) := ⟨(by decide +kernel), hr_n_1, hC_n_2⟩
    exact hret _ _ _ _ _ _ (n_5, 0, n_1, n_2) [2, 0, 1] hP hD hS rfl (by decide) dX12_part_23 hpost
  · skip
    refine lv_if_ne (tgt := 24) hx hb dX12_part_14 (by decide) (fun _ => ?_) (fun h9 => absurd h9 (by decide +kernel))
    refine lv_iload_n hx hb dX12_part_24 rfl (lv_at hl 1 rfl) ?_
    refine lv_i2l (v := (pp).toInt64) hx hb dX12_part_25 rfl ?_
    refine lv_topl (fun x_8 he_x_8 => ?_)
    have hq_x_8 := z_i2l he_x_8
    have hL_pp := z_full pp
    refine lv_lconst (v := 0) hx hb dX12_part_26 (by decide) ?_
    refine lv_aload_n hx hb dX12_part_27 rfl (lv_at hl 0 rfl) ?_
    refine va_get (D := G) (ci := 12) (v := .int n_1) (C := RX12) (T := TX12) (N := 65) hx hb hts inT12 hown hK hP 0 rfl rfl 27 (by decide) (hts _ tw_1912) (fun _ h9 => h9) rfl dX12_part_28 ?_
    refine lv_iconst (v := 1) hx hb dX12_part_31 (by decide) ?_
    refine lv_isub hx hb dX12_part_32 ?_
    refine lv_topi (fun x_9 he_x_9 => ?_)
    have hq_x_9 := z_subq he_x_9 (rfl : n_1.toInt = _) hk_1 (by omega) (by omega)
    refine lv_i2l (v := (x_9).toInt64) hx hb dX12_part_33 rfl ?_
    refine lv_topl (fun x_10 he_x_10 => ?_)
    have hq_x_10 := z_i2l he_x_10
    refine z_callSi (As := [.long x_8, .long 0, .long x_10]) (rest := []) (wr := [(h0, .inr (12, [.int 0, .int 0, .long m_above, .long m_under, .ref a_traySort, .ref a_trayMany, .ref a_numbers, .ref a_tape, .int m_taped, .int m_textEnd, .int m_faultKind, .int m_faultAt, .int m_bad, .int m_badAt, .int m_token, .int m_at, .int m_behind, .int m_number, .int m_letters, .long m_word, .ref a_c, .ref a_words, .int m_markMany, .ref a_there, .ref a_tried, .ref a_best, .ref a_found, .int n_1, .int m_foundMany, .int m_orderHow, .int m_orderRing, .int m_orderMany, .int m_hasBest, .long m_bestTop, .long m_bestBy, .ref a_weights, .ref a_shared, .int m_random, .int m_truePlace, .int m_trueWay, .int m_seconds, .int m_done, .int m_feelings, .int m_tries, .int m_leftOver, .int m_playDoor, .int m_playRing, .int m_isOpen, .int m_isOver, .int m_wasTried, .int m_hasPlayed, .ref a_feltNow, .ref a_last, .ref a_kept, .int m_hasSeconds, .int m_hasTurned, .int m_hasRound, .ref a_hasFeels, .ref a_isOn, .int m_firstAct, .long m_meanTop, .long m_meanBy, .ref a_order, .int m_rowMany, .int m_newSteps])), (a_c, .inl (cA.1 0, 1825, .inl g_c)), (a_there, .inl (cA.1 0, 10, .inl n_2))]) ⟨hx, hb, hml, hown, hts⟩ hK hE hT hP hD hS hA (r_isIn l G cA x_8 0 x_10) lk_RX12_117 ⟨rfl, rfl⟩ ⟨Nat.le_of_ble_eq_true rfl, Nat.le_of_ble_eq_true rfl⟩ [] [0, 1, 2] rfl rfl (by decide) rfl hl.1 rfl (lv_room (Nat.le_of_ble_eq_true rfl)) dX12_part_34 ⟨Nat.le_of_ble_eq_true rfl, Nat.le_of_ble_eq_true rfl⟩ (fun r_11 u_12 H locs hw hP hD hS => ?_)
    obtain ⟨he_r_11, hw⟩ := hw
    rcases hw with ⟨rfl, hf_13⟩ | ⟨rfl, hf_14⟩
    · skip
      refine lv_if_eq (tgt := 67) hx hb dX12_part_37 (by decide) (fun _ => ?_) (fun h9 => absurd (by decide +kernel) h9)
      refine lv_aload_n hx hb dX12_part_67 rfl (lv_at hl 0 rfl) ?_
      refine lv_iconst (v := 5) hx hb dX12_part_68 (by decide) ?_
      refine z_callVi (As := [.int 5]) (rest := []) (wr := [(a_c, .inl (cA.1 0, 1825, .inl g_c)), (a_there, .inl (cA.1 0, 10, .inl n_2))]) ⟨hx, hb, hml, hown, hts⟩ hK hE hT hP hD hS hA (r_refuse l G cA h0 0 0 m_above m_under a_traySort a_trayMany a_numbers a_tape m_taped m_textEnd m_faultKind m_faultAt m_bad m_badAt m_token m_at m_behind m_number m_letters m_word a_c a_words m_markMany a_there a_tried a_best a_found n_1 m_foundMany m_orderHow m_orderRing m_orderMany m_hasBest m_bestTop m_bestBy a_weights a_shared m_random m_truePlace m_trueWay m_seconds m_done m_feelings m_tries m_leftOver m_playDoor m_playRing m_isOpen m_isOver m_wasTried m_hasPlayed a_feltNow a_last a_kept m_hasSeconds m_hasTurned m_hasRound a_hasFeels a_isOn m_firstAct m_meanTop m_meanBy a_order m_rowMany m_newSteps 5) lk_RX12_269 ⟨rfl, rfl⟩ ⟨Nat.le_of_ble_eq_true rfl, Nat.le_of_ble_eq_true rfl⟩ 12 rfl rfl rfl [0] [1, 2] rfl rfl (by decide) rfl hl.1 rfl (lv_room (Nat.le_of_ble_eq_true rfl)) dX12_part_69 ⟨Nat.le_of_ble_eq_true rfl, Nat.le_of_ble_eq_true rfl⟩ (fun r_16 u_17 H locs hw hP hD hS => ?_)
      obtain ⟨n_15, rfl⟩ : ∃ z, z = u_17 := ⟨_, rfl⟩
      obtain ⟨he_r_16, he_n_15, hw⟩ := hw
      have hr_r_16 := hw
      have hpost : (0 ≤ (0 : Int32).toInt ∧ (0 : Int32).toInt ≤ 0) ∧ (0 ≤ n_1.toInt ∧ n_1.toInt ≤ 10) ∧ (zRg 10 0 9 n_2) := ⟨(by decide +kernel), hr_n_1, hC_n_2⟩
      exact hret _ _ _ _ _ _ (n_15, 0, n_1, n_2) [2, 0, 1] hP hD hS rfl (by decide) dX12_part_72 hpost
    · skip
      refine lv_if_eq (tgt := 67) hx hb dX12_part_37 (by decide) (fun h9 => absurd h9 (by decide +kernel)) (fun _ => ?_)
      refine lv_iload_n hx hb dX12_part_40 rfl (lv_at hl 2 rfl) ?_
      refine lv_i2l (v := (w).toInt64) hx hb dX12_part_41 rfl ?_
      refine lv_topl (fun x_18 he_x_18 => ?_)
      have hq_x_18 := z_i2l he_x_18
      have hL_w := z_full w
      refine lv_lconst (v := 0) hx hb dX12_part_42 (by decide) ?_
      refine lv_lconst (v := 1) hx hb dX12_part_43 (by decide) ?_
      refine z_callSi (As := [.long x_18, .long 0, .long 1]) (rest := []) (wr := [(h0, .inr (12, [.int 0, .int 0, .long m_above, .long m_under, .ref a_traySort, .ref a_trayMany, .ref a_numbers, .ref a_tape, .int m_taped, .int m_textEnd, .int m_faultKind, .int m_faultAt, .int m_bad, .int m_badAt, .int m_token, .int m_at, .int m_behind, .int m_number, .int m_letters, .long m_word, .ref a_c, .ref a_words, .int m_markMany, .ref a_there, .ref a_tried, .ref a_best, .ref a_found, .int n_1, .int m_foundMany, .int m_orderHow, .int m_orderRing, .int m_orderMany, .int m_hasBest, .long m_bestTop, .long m_bestBy, .ref a_weights, .ref a_shared, .int m_random, .int m_truePlace, .int m_trueWay, .int m_seconds, .int m_done, .int m_feelings, .int m_tries, .int m_leftOver, .int m_playDoor, .int m_playRing, .int m_isOpen, .int m_isOver, .int m_wasTried, .int m_hasPlayed, .ref a_feltNow, .ref a_last, .ref a_kept, .int m_hasSeconds, .int m_hasTurned, .int m_hasRound, .ref a_hasFeels, .ref a_isOn, .int m_firstAct, .long m_meanTop, .long m_meanBy, .ref a_order, .int m_rowMany, .int m_newSteps])), (a_c, .inl (cA.1 0, 1825, .inl g_c)), (a_there, .inl (cA.1 0, 10, .inl n_2))]) ⟨hx, hb, hml, hown, hts⟩ hK hE hT hP hD hS hA (r_isIn l G cA x_18 0 1) lk_RX12_117 ⟨rfl, rfl⟩ ⟨Nat.le_of_ble_eq_true rfl, Nat.le_of_ble_eq_true rfl⟩ [] [0, 1, 2] rfl rfl (by decide) rfl hl.1 rfl (lv_room (Nat.le_of_ble_eq_true rfl)) dX12_part_44 ⟨Nat.le_of_ble_eq_true rfl, Nat.le_of_ble_eq_true rfl⟩ (fun r_19 u_20 H locs hw hP hD hS => ?_)
      obtain ⟨he_r_19, hw⟩ := hw
      rcases hw with ⟨rfl, hf_21⟩ | ⟨rfl, hf_22⟩
      · skip
        refine lv_if_eq (tgt := 67) hx hb dX12_part_47 (by decide) (fun _ => ?_) (fun h9 => absurd (by decide +kernel) h9)
        refine lv_aload_n hx hb dX12_part_67 rfl (lv_at hl 0 rfl) ?_
        refine lv_iconst (v := 5) hx hb dX12_part_68 (by decide) ?_
        refine z_callVi (As := [.int 5]) (rest := []) (wr := [(a_c, .inl (cA.1 0, 1825, .inl g_c)), (a_there, .inl (cA.1 0, 10, .inl n_2))]) ⟨hx, hb, hml, hown, hts⟩ hK hE hT hP hD hS hA (r_refuse l G cA h0 0 0 m_above m_under a_traySort a_trayMany a_numbers a_tape m_taped m_textEnd m_faultKind m_faultAt m_bad m_badAt m_token m_at m_behind m_number m_letters m_word a_c a_words m_markMany a_there a_tried a_best a_found n_1 m_foundMany m_orderHow m_orderRing m_orderMany m_hasBest m_bestTop m_bestBy a_weights a_shared m_random m_truePlace m_trueWay m_seconds m_done m_feelings m_tries m_leftOver m_playDoor m_playRing m_isOpen m_isOver m_wasTried m_hasPlayed a_feltNow a_last a_kept m_hasSeconds m_hasTurned m_hasRound a_hasFeels a_isOn m_firstAct m_meanTop m_meanBy a_order m_rowMany m_newSteps 5) lk_RX12_269 ⟨rfl, rfl⟩ ⟨Nat.le_of_ble_eq_true rfl, Nat.le_of_ble_eq_true rfl⟩ 12 rfl rfl rfl [0] [1, 2] rfl rfl (by decide) rfl hl.1 rfl (lv_room (Nat.le_of_ble_eq_true rfl)) dX12_part_69 ⟨Nat.le_of_ble_eq_true rfl, Nat.le_of_ble_eq_true rfl⟩ (fun r_24 u_25 H locs hw hP hD hS => ?_)
        obtain ⟨n_23, rfl⟩ : ∃ z, z = u_25 := ⟨_, rfl⟩
        obtain ⟨he_r_24, he_n_23, hw⟩ := hw
        have hr_r_24 := hw
        have hpost : (0 ≤ (0 : Int32).toInt ∧ (0 : Int32).toInt ≤ 0) ∧ (0 ≤ n_1.toInt ∧ n_1.toInt ≤ 10) ∧ (zRg 10 0 9 n_2) := ⟨(by decide +kernel), hr_n_1, hC_n_2⟩
        exact hret _ _ _ _ _ _ (n_23, 0, n_1, n_2) [2, 0, 1] hP hD hS rfl (by decide) dX12_part_72 hpost
      · skip
        refine lv_if_eq (tgt := 67) hx hb dX12_part_47 (by decide) (fun h9 => absurd h9 (by decide +kernel)) (fun _ => ?_)
        refine lv_aload_n hx hb dX12_part_50 rfl (lv_at hl 0 rfl) ?_
        refine va_get (D := G) (ci := 12) (v := .ref a_c) (C := RX12) (T := TX12) (N := 65) hx hb hts inT12 hown hK hP 0 rfl rfl 20 (by decide) (hts _ tw_1905) (fun _ h9 => h9) rfl dX12_part_51 ?_
        refine lv_sipush (v := 160) hx hb dX12_part_54 (by decide) ?_
        refine lv_iconst (v := 2) hx hb dX12_part_57 (by decide) ?_
        refine lv_iload_n hx hb dX12_part_58 rfl (lv_at hl 1 rfl) ?_
        refine lv_imul hx hb dX12_part_59 ?_
        refine lv_topi (fun x_26 he_x_26 => ?_)
        have hq_x_26 := z_mulq he_x_26 hk_2 (rfl : pp.toInt = _) (by omega) (by omega)
        refine lv_iadd hx hb dX12_part_60 ?_
        refine lv_topi (fun x_27 he_x_27 => ?_)
        have hq_x_27 := z_addq he_x_27 hk_160 (rfl : x_26.toInt = _) (by omega) (by omega)
        refine lv_iload_n hx hb dX12_part_61 rfl (lv_at hl 2 rfl) ?_
        refine lv_iadd hx hb dX12_part_62 ?_
        refine lv_topi (fun x_28 he_x_28 => ?_)
        have hq_x_28 := z_addq he_x_28 (rfl : x_27.toInt = _) (rfl : w.toInt = _) (by omega) (by omega)
        refine va_iald hx hb hK hP 1 0 rfl rfl (z_inN (by omega) (by omega)) dX12_part_63 ?_
        refine lv_topi (fun x_29 he_x_29 => ?_)
        refine lv_goto (tgt := 72) hx hb dX12_part_64 (by decide) ?_
        have hpost : (0 ≤ (0 : Int32).toInt ∧ (0 : Int32).toInt ≤ 0) ∧ (0 ≤ n_1.toInt ∧ n_1.toInt ≤ 10) ∧ (zRg 10 0 9 n_2) := ⟨(by decide +kernel), hr_n_1, hC_n_2⟩
        exact hret _ _ _ _ _ _ (0, 0, n_1, n_2) [0, 1, 2] hP hD hS rfl (by decide) dX12_part_72 hpost
set_option maxHeartbeats 40000000 in
set_option maxRecDepth 100000 in
theorem r_stepAs (l : Launch) (G : va_G) (cA : zCA) (h0 : Nat) (m_status : Int32) (m_thrown : Int32) (m_above : Int64) (m_under : Int64) (a_traySort : Nat) (a_trayMany : Nat) (a_numbers : Nat) (a_tape : Nat) (m_taped : Int32) (m_textEnd : Int32) (m_faultKind : Int32) (m_faultAt : Int32) (m_bad : Int32) (m_badAt : Int32) (m_token : Int32) (m_at : Int32) (m_behind : Int32) (m_number : Int32) (m_letters : Int32) (m_word : Int64) (a_c : Nat) (a_words : Nat) (m_markMany : Int32) (a_there : Nat) (a_tried : Nat) (a_best : Nat) (a_found : Nat) (m_thereMany : Int32) (m_foundMany : Int32) (m_orderHow : Int32) (m_orderRing : Int32) (m_orderMany : Int32) (m_hasBest : Int32) (m_bestTop : Int64) (m_bestBy : Int64) (a_weights : Nat) (a_shared : Nat) (m_random : Int32) (m_truePlace : Int32) (m_trueWay : Int32) (m_seconds : Int32) (m_done : Int32) (m_feelings : Int32) (m_tries : Int32) (m_leftOver : Int32) (m_playDoor : Int32) (m_playRing : Int32) (m_isOpen : Int32) (m_isOver : Int32) (m_wasTried : Int32) (m_hasPlayed : Int32) (a_feltNow : Nat) (a_last : Nat) (a_kept : Nat) (m_hasSeconds : Int32) (m_hasTurned : Int32) (m_hasRound : Int32) (a_hasFeels : Nat) (a_isOn : Nat) (m_firstAct : Int32) (m_meanTop : Int64) (m_meanBy : Int64) (a_order : Nat) (m_rowMany : Int32) (m_newSteps : Int32) (g_c : Nat → Int32) (k : Int32) (f : Int32) (w : Int32) (hr_k : 0 ≤ k.toInt ∧ k.toInt ≤ 9) (hr_f : 0 ≤ f.toInt ∧ f.toInt ≤ 2) (hr_w : 0 ≤ w.toInt ∧ w.toInt ≤ 1) (hC_g_c : zC g_c) : zCi l yX12_stepAs cX12_stepAs 5 (some .int) ({ frames := 0, cells := 0, slots := 0, locals := 0 }) G cA [.ref h0, .int k, .int f, .int w] [(h0, .inr (12, [.int m_status, .int m_thrown, .long m_above, .long m_under, .ref a_traySort, .ref a_trayMany, .ref a_numbers, .ref a_tape, .int m_taped, .int m_textEnd, .int m_faultKind, .int m_faultAt, .int m_bad, .int m_badAt, .int m_token, .int m_at, .int m_behind, .int m_number, .int m_letters, .long m_word, .ref a_c, .ref a_words, .int m_markMany, .ref a_there, .ref a_tried, .ref a_best, .ref a_found, .int m_thereMany, .int m_foundMany, .int m_orderHow, .int m_orderRing, .int m_orderMany, .int m_hasBest, .long m_bestTop, .long m_bestBy, .ref a_weights, .ref a_shared, .int m_random, .int m_truePlace, .int m_trueWay, .int m_seconds, .int m_done, .int m_feelings, .int m_tries, .int m_leftOver, .int m_playDoor, .int m_playRing, .int m_isOpen, .int m_isOver, .int m_wasTried, .int m_hasPlayed, .ref a_feltNow, .ref a_last, .ref a_kept, .int m_hasSeconds, .int m_hasTurned, .int m_hasRound, .ref a_hasFeels, .ref a_isOn, .int m_firstAct, .long m_meanTop, .long m_meanBy, .ref a_order, .int m_rowMany, .int m_newSteps])), (a_c, .inl (cA.1 0, 1825, .inl g_c))] (S := Unit) (fun (r : Int32) (u : Unit) => (r = (F_r_stepAs g_c k f w)) ∧ (((-4) ≤ r.toInt ∧ r.toInt ≤ 3) ∧ (r.toInt = zst g_c k.toInt f.toInt w.toInt))) (fun (u : Unit) => [(h0, .inr (12, [.int m_status, .int m_thrown, .long m_above, .long m_under, .ref a_traySort, .ref a_trayMany, .ref a_numbers, .ref a_tape, .int m_taped, .int m_textEnd, .int m_faultKind, .int m_faultAt, .int m_bad, .int m_badAt, .int m_token, .int m_at, .int m_behind, .int m_number, .int m_letters, .long m_word, .ref a_c, .ref a_words, .int m_markMany, .ref a_there, .ref a_tried, .ref a_best, .ref a_found, .int m_thereMany, .int m_foundMany, .int m_orderHow, .int m_orderRing, .int m_orderMany, .int m_hasBest, .long m_bestTop, .long m_bestBy, .ref a_weights, .ref a_shared, .int m_random, .int m_truePlace, .int m_trueWay, .int m_seconds, .int m_done, .int m_feelings, .int m_tries, .int m_leftOver, .int m_playDoor, .int m_playRing, .int m_isOpen, .int m_isOver, .int m_wasTried, .int m_hasPlayed, .ref a_feltNow, .ref a_last, .ref a_kept, .int m_hasSeconds, .int m_hasTurned, .int m_hasRound, .ref a_hasFeels, .ref a_isOn, .int m_firstAct, .long m_meanTop, .long m_meanBy, .ref a_order, .int m_rowMany, .int m_newSteps])), (a_c, .inl (cA.1 0, 1825, .inl g_c))]) 0 0 := by
  have hk_1 : (1 : Int32).toInt = 1 := by decide +kernel
  have hk_3 : (3 : Int32).toInt = 3 := by decide +kernel
  have hk_11 : (11 : Int32).toInt = 11 := by decide +kernel
  have hk_14 : (14 : Int32).toInt = 14 := by decide +kernel
  have hk_65 : (65 : Int32).toInt = 65 := by decide +kernel
  refine z_start2i (own := RX12) (by decide) (Nat.le_of_ble_eq_true rfl) rfl ?_
  intro p e s m args below meth c A ls Q hx hb hml hts hown hK hE hT hP hD hS hA hl hret
  have hl : lv_has ls 5 [(0, .ref h0), (1, .int k), (2, .int f), (3, .int w)] := hl
  refine lv_aload_n hx hb dX12_stepAs_0 rfl (lv_at hl 0 rfl) ?_
  refine va_get (D := G) (ci := 12) (v := .ref a_c) (C := RX12) (T := TX12) (N := 65) hx hb hts inT12 hown hK hP 0 rfl rfl 20 (by decide) (hts _ tw_1905) (fun _ h9 => h9) rfl dX12_stepAs_1 ?_
  refine lv_bipush (v := 65) hx hb dX12_stepAs_4 (by decide) ?_
  refine lv_iconst (v := 3) hx hb dX12_stepAs_6 (by decide) ?_
  refine lv_iload_n hx hb dX12_stepAs_7 rfl (lv_at hl 1 rfl) ?_
  refine lv_imul hx hb dX12_stepAs_8 ?_
  refine lv_topi (fun x_1 he_x_1 => ?_)
  have hq_x_1 := z_mulq he_x_1 hk_3 (rfl : k.toInt = _) (by omega) (by omega)
  refine lv_iadd hx hb dX12_stepAs_9 ?_
  refine lv_topi (fun x_2 he_x_2 => ?_)
  have hq_x_2 := z_addq he_x_2 hk_65 (rfl : x_1.toInt = _) (by omega) (by omega)
  refine lv_iload_n hx hb dX12_stepAs_10 rfl (lv_at hl 2 rfl) ?_
  refine lv_iadd hx hb dX12_stepAs_11 ?_
  refine lv_topi (fun x_3 he_x_3 => ?_)
  have hq_x_3 := z_addq he_x_3 (rfl : x_2.toInt = _) (rfl : f.toInt = _) (by omega) (by omega)
  refine va_iald hx hb hK hP 1 0 rfl rfl (z_inN (by omega) (by omega)) dX12_stepAs_12 ?_
  refine lv_topi (fun x_4 he_x_4 => ?_)
  have hr_x_4 := z_ct hC_g_c he_x_4 (a := 65) (b := 94) (lo := 0) (hi := 3) (by decide +kernel) (by decide) (by omega) (by omega)
  refine lv_istore (lv' := [(4, .int x_4), (0, .ref h0), (1, .int k), (2, .int f), (3, .int w)]) hx hb dX12_stepAs_13 hl (by decide) rfl (fun ls hl => ?_)
  refine lv_iload_n hx hb dX12_stepAs_15 rfl (lv_at hl 4 rfl) ?_
  refine lv_iconst (v := 1) hx hb dX12_stepAs_16 (by decide) ?_
  refine lv_icmp_ne (tgt := 50) hx hb dX12_stepAs_17 (by decide) (fun c_5 => ?_) (fun c_5 => ?_)
  · have b_6 := z_fneT c_5
    refine lv_iload hx hb dX12_stepAs_50 (lv_at hl 0 rfl) ?_
    have hpost : ((-4) ≤ x_4.toInt ∧ x_4.toInt ≤ 3) ∧ (x_4.toInt = zst g_c k.toInt f.toInt w.toInt) := ⟨(z_rgw hr_x_4 (by decide) (by decide)), (zst_0 he_x_4 (by omega) (by omega) (by omega) (by omega))⟩
    have hX_7 : F_r_stepAs g_c k f w = (x_4 : Int32) := by
      refine (F_r_stepAs_s ..).trans ?_
      try (extract_lets -merge -useContext +onlyGivenNames y9; have e9 : x_1 = y9 := (by first | exact he_x_1 | exact he_x_1.symm); clear_value y9; subst e9)
      try (extract_lets -merge -useContext +onlyGivenNames y9; have e9 : x_2 = y9 := (by first | exact he_x_2 | exact he_x_2.symm); clear_value y9; subst e9)
      try (extract_lets -merge -useContext +onlyGivenNames y9; have e9 : x_3 = y9 := (by first | exact he_x_3 | exact he_x_3.symm); clear_value y9; subst e9)
      try (extract_lets -merge -useContext +onlyGivenNames y9; have e9 : x_4 = y9 := (by first | exact he_x_4 | exact he_x_4.symm); clear_value y9; subst e9)
      refine (if_neg c_5).trans ?_
      exact rfl
    exact hret _ _ _ _ _ _ () [0, 1] hP hD hS rfl (by decide) dX12_stepAs_52 ⟨(congrArg (fun z9 => z9) hX_7).symm, hpost⟩
  · have b_8 := z_feqF c_5
    refine lv_aload_n hx hb dX12_stepAs_20 rfl (lv_at hl 1 rfl) ?_
    refine va_get (D := G) (ci := 12) (v := .ref a_c) (C := RX12) (T := TX12) (N := 65) hx hb hts inT12 hown hK hP 0 rfl rfl 20 (by decide) (hts _ tw_1905) (fun _ h9 => h9) rfl dX12_stepAs_21 ?_
    refine lv_bipush (v := 14) hx hb dX12_stepAs_24 (by decide) ?_
    refine lv_iload_n hx hb dX12_stepAs_26 rfl (lv_at hl 3 rfl) ?_
    refine lv_iadd hx hb dX12_stepAs_27 ?_
    refine lv_topi (fun x_9 he_x_9 => ?_)
    have hq_x_9 := z_addq he_x_9 hk_14 (rfl : f.toInt = _) (by omega) (by omega)
    refine va_iald hx hb hK hP 1 0 rfl rfl (z_inN (by omega) (by omega)) dX12_stepAs_28 ?_
    refine lv_topi (fun x_10 he_x_10 => ?_)
    have hr_x_10 := z_ct hC_g_c he_x_10 (a := 14) (b := 16) (lo := 0) (hi := 1) (by decide +kernel) (by decide) (by omega) (by omega)
    refine lv_iconst (v := 1) hx hb dX12_stepAs_29 (by decide) ?_
    refine lv_icmp_ne (tgt := 50) hx hb dX12_stepAs_30 (by decide) (fun c_11 => ?_) (fun c_11 => ?_)
    · have b_12 := z_fneT c_11
      refine lv_iload hx hb dX12_stepAs_50 (lv_at hl 0 rfl) ?_
      have hpost : ((-4) ≤ x_4.toInt ∧ x_4.toInt ≤ 3) ∧ (x_4.toInt = zst g_c k.toInt f.toInt w.toInt) := ⟨(z_rgw hr_x_4 (by decide) (by decide)), (zst_1 he_x_4 (by omega) he_x_10 (by omega) (by omega) (by omega) (by omega))⟩
      have hX_13 : F_r_stepAs g_c k f w = (x_4 : Int32) := by
        refine (F_r_stepAs_s ..).trans ?_
        try (extract_lets -merge -useContext +onlyGivenNames y9; have e9 : x_1 = y9 := (by first | exact he_x_1 | exact he_x_1.symm); clear_value y9; subst e9)
        try (extract_lets -merge -useContext +onlyGivenNames y9; have e9 : x_2 = y9 := (by first | exact he_x_2 | exact he_x_2.symm); clear_value y9; subst e9)
        try (extract_lets -merge -useContext +onlyGivenNames y9; have e9 : x_3 = y9 := (by first | exact he_x_3 | exact he_x_3.symm); clear_value y9; subst e9)
        try (extract_lets -merge -useContext +onlyGivenNames y9; have e9 : x_4 = y9 := (by first | exact he_x_4 | exact he_x_4.symm); clear_value y9; subst e9)
        refine (if_pos c_5).trans ?_
        try (extract_lets -merge -useContext +onlyGivenNames y9; have e9 : x_9 = y9 := (by first | exact he_x_9 | exact he_x_9.symm); clear_value y9; subst e9)
        try (extract_lets -merge -useContext +onlyGivenNames y9; have e9 : x_10 = y9 := (by first | exact he_x_10 | exact he_x_10.symm); clear_value y9; subst e9)
        refine (if_neg c_11).trans ?_
        exact rfl
      exact hret _ _ _ _ _ _ () [0, 1] hP hD hS rfl (by decide) dX12_stepAs_52 ⟨(congrArg (fun z9 => z9) hX_13).symm, hpost⟩
    · have b_14 := z_feqF c_11
      refine lv_aload_n hx hb dX12_stepAs_33 rfl (lv_at hl 1 rfl) ?_
      refine va_get (D := G) (ci := 12) (v := .ref a_c) (C := RX12) (T := TX12) (N := 65) hx hb hts inT12 hown hK hP 0 rfl rfl 20 (by decide) (hts _ tw_1905) (fun _ h9 => h9) rfl dX12_stepAs_34 ?_
      refine lv_bipush (v := 11) hx hb dX12_stepAs_37 (by decide) ?_
      refine lv_iload_n hx hb dX12_stepAs_39 rfl (lv_at hl 3 rfl) ?_
      refine lv_iadd hx hb dX12_stepAs_40 ?_
      refine lv_topi (fun x_15 he_x_15 => ?_)
      have hq_x_15 := z_addq he_x_15 hk_11 (rfl : f.toInt = _) (by omega) (by omega)
      refine va_iald hx hb hK hP 1 0 rfl rfl (z_inN (by omega) (by omega)) dX12_stepAs_41 ?_
      refine lv_topi (fun x_16 he_x_16 => ?_)
      have hr_x_16 := z_ct hC_g_c he_x_16 (a := 11) (b := 13) (lo := 0) (hi := 4) (by decide +kernel) (by decide) (by omega) (by omega)
      refine lv_iconst (v := 1) hx hb dX12_stepAs_42 (by decide) ?_
      refine lv_isub hx hb dX12_stepAs_43 ?_
      refine lv_topi (fun x_17 he_x_17 => ?_)
      have hq_x_17 := z_subq he_x_17 (rfl : x_16.toInt = _) hk_1 (by omega) (by omega)
      refine lv_iload hx hb dX12_stepAs_44 (lv_at hl 0 rfl) ?_
      refine lv_isub hx hb dX12_stepAs_46 ?_
      refine lv_topi (fun x_18 he_x_18 => ?_)
      have hq_x_18 := z_subq he_x_18 (rfl : x_17.toInt = _) (rfl : x_4.toInt = _) (by omega) (by omega)
      refine lv_goto (tgt := 52) hx hb dX12_stepAs_47 (by decide) ?_
      have hpost : ((-4) ≤ x_18.toInt ∧ x_18.toInt ≤ 3) ∧ (x_18.toInt = zst g_c k.toInt f.toInt w.toInt) := ⟨(by omega), (zst_2 he_x_4 (by omega) he_x_10 (by omega) he_x_16 (by omega) (by omega) (by omega) (by omega) (by omega) (by omega))⟩
      have hX_19 : F_r_stepAs g_c k f w = (x_18 : Int32) := by
        refine (F_r_stepAs_s ..).trans ?_
        try (extract_lets -merge -useContext +onlyGivenNames y9; have e9 : x_1 = y9 := (by first | exact he_x_1 | exact he_x_1.symm); clear_value y9; subst e9)
        try (extract_lets -merge -useContext +onlyGivenNames y9; have e9 : x_2 = y9 := (by first | exact he_x_2 | exact he_x_2.symm); clear_value y9; subst e9)
        try (extract_lets -merge -useContext +onlyGivenNames y9; have e9 : x_3 = y9 := (by first | exact he_x_3 | exact he_x_3.symm); clear_value y9; subst e9)
        try (extract_lets -merge -useContext +onlyGivenNames y9; have e9 : x_4 = y9 := (by first | exact he_x_4 | exact he_x_4.symm); clear_value y9; subst e9)
        refine (if_pos c_5).trans ?_
        try (extract_lets -merge -useContext +onlyGivenNames y9; have e9 : x_9 = y9 := (by first | exact he_x_9 | exact he_x_9.symm); clear_value y9; subst e9)
        try (extract_lets -merge -useContext +onlyGivenNames y9; have e9 : x_10 = y9 := (by first | exact he_x_10 | exact he_x_10.symm); clear_value y9; subst e9)
        refine (if_pos c_11).trans ?_
        try (extract_lets -merge -useContext +onlyGivenNames y9; have e9 : x_15 = y9 := (by first | exact he_x_15 | exact he_x_15.symm); clear_value y9; subst e9)
        try (extract_lets -merge -useContext +onlyGivenNames y9; have e9 : x_16 = y9 := (by first | exact he_x_16 | exact he_x_16.symm); clear_value y9; subst e9)
        try (extract_lets -merge -useContext +onlyGivenNames y9; have e9 : x_17 = y9 := (by first | exact he_x_17 | exact he_x_17.symm); clear_value y9; subst e9)
        try (extract_lets -merge -useContext +onlyGivenNames y9; have e9 : x_18 = y9 := (by first | exact he_x_18 | exact he_x_18.symm); clear_value y9; subst e9)
        exact rfl
      exact hret _ _ _ _ _ _ () [0, 1] hP hD hS rfl (by decide) dX12_stepAs_52 ⟨(congrArg (fun z9 => z9) hX_19).symm, hpost⟩
set_option maxHeartbeats 4000000 in
set_option maxRecDepth 100000 in
theorem r_felt (l : Launch) (G : va_G) (cA : zCA) (h0 : Nat) (m_status : Int32) (m_thrown : Int32) (m_above : Int64) (m_under : Int64) (a_traySort : Nat) (a_trayMany : Nat) (a_numbers : Nat) (a_tape : Nat) (m_taped : Int32) (m_textEnd : Int32) (m_faultKind : Int32) (m_faultAt : Int32) (m_bad : Int32) (m_badAt : Int32) (m_token : Int32) (m_at : Int32) (m_behind : Int32) (m_number : Int32) (m_letters : Int32) (m_word : Int64) (a_c : Nat) (a_words : Nat) (m_markMany : Int32) (a_there : Nat) (a_tried : Nat) (a_best : Nat) (a_found : Nat) (m_thereMany : Int32) (m_foundMany : Int32) (m_orderHow : Int32) (m_orderRing : Int32) (m_orderMany : Int32) (m_hasBest : Int32) (m_bestTop : Int64) (m_bestBy : Int64) (a_weights : Nat) (a_shared : Nat) (m_random : Int32) (m_truePlace : Int32) (m_trueWay : Int32) (m_seconds : Int32) (m_done : Int32) (m_feelings : Int32) (m_tries : Int32) (m_leftOver : Int32) (m_playDoor : Int32) (m_playRing : Int32) (m_isOpen : Int32) (m_isOver : Int32) (m_wasTried : Int32) (m_hasPlayed : Int32) (a_feltNow : Nat) (a_last : Nat) (a_kept : Nat) (m_hasSeconds : Int32) (m_hasTurned : Int32) (m_hasRound : Int32) (a_hasFeels : Nat) (a_isOn : Nat) (m_firstAct : Int32) (m_meanTop : Int64) (m_meanBy : Int64) (a_order : Nat) (m_rowMany : Int32) (m_newSteps : Int32) (g_c : Nat → Int32) (k : Int32) (f : Int32) (w : Int32) (v : Int32) (hr_k : 0 ≤ k.toInt ∧ k.toInt ≤ 9) (hr_f : 0 ≤ f.toInt ∧ f.toInt ≤ 2) (hr_w : 0 ≤ w.toInt ∧ w.toInt ≤ 1) (hr_v : 0 ≤ v.toInt ∧ v.toInt ≤ 3) (hC_g_c : zC g_c) : zCi l yX12_felt cX12_felt 5 (some .int) ({ frames := 1, cells := 0, slots := 0, locals := 24 }) G cA [.ref h0, .int k, .int f, .int w, .int v] [(h0, .inr (12, [.int m_status, .int m_thrown, .long m_above, .long m_under, .ref a_traySort, .ref a_trayMany, .ref a_numbers, .ref a_tape, .int m_taped, .int m_textEnd, .int m_faultKind, .int m_faultAt, .int m_bad, .int m_badAt, .int m_token, .int m_at, .int m_behind, .int m_number, .int m_letters, .long m_word, .ref a_c, .ref a_words, .int m_markMany, .ref a_there, .ref a_tried, .ref a_best, .ref a_found, .int m_thereMany, .int m_foundMany, .int m_orderHow, .int m_orderRing, .int m_orderMany, .int m_hasBest, .long m_bestTop, .long m_bestBy, .ref a_weights, .ref a_shared, .int m_random, .int m_truePlace, .int m_trueWay, .int m_seconds, .int m_done, .int m_feelings, .int m_tries, .int m_leftOver, .int m_playDoor, .int m_playRing, .int m_isOpen, .int m_isOver, .int m_wasTried, .int m_hasPlayed, .ref a_feltNow, .ref a_last, .ref a_kept, .int m_hasSeconds, .int m_hasTurned, .int m_hasRound, .ref a_hasFeels, .ref a_isOn, .int m_firstAct, .long m_meanTop, .long m_meanBy, .ref a_order, .int m_rowMany, .int m_newSteps])), (a_c, .inl (cA.1 0, 1825, .inl g_c))] (S := Unit) (fun (r : Int32) (u : Unit) => ((-1) ≤ r.toInt ∧ r.toInt ≤ 99) ∧ (0 ≤ zst g_c k.toInt f.toInt w.toInt → r.toInt = zft g_c k.toInt f.toInt w.toInt v.toInt)) (fun (u : Unit) => [(h0, .inr (12, [.int m_status, .int m_thrown, .long m_above, .long m_under, .ref a_traySort, .ref a_trayMany, .ref a_numbers, .ref a_tape, .int m_taped, .int m_textEnd, .int m_faultKind, .int m_faultAt, .int m_bad, .int m_badAt, .int m_token, .int m_at, .int m_behind, .int m_number, .int m_letters, .long m_word, .ref a_c, .ref a_words, .int m_markMany, .ref a_there, .ref a_tried, .ref a_best, .ref a_found, .int m_thereMany, .int m_foundMany, .int m_orderHow, .int m_orderRing, .int m_orderMany, .int m_hasBest, .long m_bestTop, .long m_bestBy, .ref a_weights, .ref a_shared, .int m_random, .int m_truePlace, .int m_trueWay, .int m_seconds, .int m_done, .int m_feelings, .int m_tries, .int m_leftOver, .int m_playDoor, .int m_playRing, .int m_isOpen, .int m_isOver, .int m_wasTried, .int m_hasPlayed, .ref a_feltNow, .ref a_last, .ref a_kept, .int m_hasSeconds, .int m_hasTurned, .int m_hasRound, .ref a_hasFeels, .ref a_isOn, .int m_firstAct, .long m_meanTop, .long m_meanBy, .ref a_order, .int m_rowMany, .int m_newSteps])), (a_c, .inl (cA.1 0, 1825, .inl g_c))]) 0 0 := by
  have hk_4 : (4 : Int32).toInt = 4 := by decide +kernel
  have hk_16 : (16 : Int32).toInt = 16 := by decide +kernel
  have hk_17 : (17 : Int32).toInt = 17 := by decide +kernel
  refine z_start2i (own := RX12) (by decide) (Nat.le_of_ble_eq_true rfl) rfl ?_
  intro p e s m args below meth c A ls Q hx hb hml hts hown hK hE hT hP hD hS hA hl hret
  have hl : lv_has ls 5 [(0, .ref h0), (1, .int k), (2, .int f), (3, .int w), (4, .int v)] := hl
  refine lv_aload_n hx hb dX12_felt_0 rfl (lv_at hl 0 rfl) ?_
  refine va_get (D := G) (ci := 12) (v := .ref a_c) (C := RX12) (T := TX12) (N := 65) hx hb hts inT12 hown hK hP 0 rfl rfl 20 (by decide) (hts _ tw_1905) (fun _ h9 => h9) rfl dX12_felt_1 ?_
  refine lv_bipush (v := 17) hx hb dX12_felt_4 (by decide) ?_
  refine lv_bipush (v := 16) hx hb dX12_felt_6 (by decide) ?_
  refine lv_iload_n hx hb dX12_felt_8 rfl (lv_at hl 2 rfl) ?_
  refine lv_imul hx hb dX12_felt_9 ?_
  refine lv_topi (fun x_1 he_x_1 => ?_)
  have hq_x_1 := z_mulq he_x_1 hk_16 (rfl : f.toInt = _) (by omega) (by omega)
  refine lv_iadd hx hb dX12_felt_10 ?_
  refine lv_topi (fun x_2 he_x_2 => ?_)
  have hq_x_2 := z_addq he_x_2 hk_17 (rfl : x_1.toInt = _) (by omega) (by omega)
  refine lv_iconst (v := 4) hx hb dX12_felt_11 (by decide) ?_
  refine lv_aload_n hx hb dX12_felt_12 rfl (lv_at hl 0 rfl) ?_
  refine lv_iload_n hx hb dX12_felt_13 rfl (lv_at hl 1 rfl) ?_
  refine lv_iload_n hx hb dX12_felt_14 rfl (lv_at hl 2 rfl) ?_
  refine lv_iload_n hx hb dX12_felt_15 rfl (lv_at hl 3 rfl) ?_
  refine z_callVi (As := [.int k, .int f, .int w]) (rest := [.int 4, .int x_2, .ref a_c]) (wr := []) ⟨hx, hb, hml, hown, hts⟩ hK hE hT hP hD hS hA (r_stepAs l G cA h0 m_status m_thrown m_above m_under a_traySort a_trayMany a_numbers a_tape m_taped m_textEnd m_faultKind m_faultAt m_bad m_badAt m_token m_at m_behind m_number m_letters m_word a_c a_words m_markMany a_there a_tried a_best a_found m_thereMany m_foundMany m_orderHow m_orderRing m_orderMany m_hasBest m_bestTop m_bestBy a_weights a_shared m_random m_truePlace m_trueWay m_seconds m_done m_feelings m_tries m_leftOver m_playDoor m_playRing m_isOpen m_isOver m_wasTried m_hasPlayed a_feltNow a_last a_kept m_hasSeconds m_hasTurned m_hasRound a_hasFeels a_isOn m_firstAct m_meanTop m_meanBy a_order m_rowMany m_newSteps g_c k f w hr_k hr_f hr_w hC_g_c) lk_RX12_326 ⟨rfl, rfl⟩ ⟨Nat.le_of_ble_eq_true rfl, Nat.le_of_ble_eq_true rfl⟩ 12 rfl rfl rfl [0, 1] [] rfl rfl (by decide) rfl hl.1 rfl (lv_room (Nat.le_of_ble_eq_true rfl)) dX12_felt_16 ⟨Nat.le_of_ble_eq_true rfl, Nat.le_of_ble_eq_true rfl⟩ (fun r_3 u_4 H locs hw hP hD hS => ?_)
  obtain ⟨he_r_3, hw⟩ := hw
  obtain ⟨hr_r_3, hf_5⟩ := hw
  refine lv_imul hx hb dX12_felt_19 ?_
  refine lv_topi (fun x_6 he_x_6 => ?_)
  have hq_x_6 := z_mulq he_x_6 hk_4 (rfl : r_3.toInt = _) (by omega) (by omega)
  refine lv_iadd hx hb dX12_felt_20 ?_
  refine lv_topi (fun x_7 he_x_7 => ?_)
  have hq_x_7 := z_addq he_x_7 (rfl : x_2.toInt = _) (rfl : x_6.toInt = _) (by omega) (by omega)
  refine lv_iload hx hb dX12_felt_21 (lv_at hl 4 rfl) ?_
  refine lv_iadd hx hb dX12_felt_23 ?_
  refine lv_topi (fun x_8 he_x_8 => ?_)
  have hq_x_8 := z_addq he_x_8 (rfl : x_7.toInt = _) (rfl : v.toInt = _) (by omega) (by omega)
  refine va_iald hx hb hK hP 1 0 rfl rfl (z_inN (by omega) (by omega)) dX12_felt_24 ?_
  refine lv_topi (fun x_9 he_x_9 => ?_)
  have hr_x_9 := z_ct hC_g_c he_x_9 (a := 1) (b := 64) (lo := (-1)) (hi := 99) (by decide +kernel) (by decide) (by omega) (by omega)
  have hpost : ((-1) ≤ x_9.toInt ∧ x_9.toInt ≤ 99) ∧ (0 ≤ zst g_c k.toInt f.toInt w.toInt → x_9.toInt = zft g_c k.toInt f.toInt w.toInt v.toInt) := ⟨hr_x_9, (zft_of hf_5 he_x_9 (by omega) (by omega) (by omega))⟩
  exact hret _ _ _ _ _ _ () [0, 1] hP hD hS rfl (by decide) dX12_felt_25 hpost
set_option maxHeartbeats 4000000 in
set_option maxRecDepth 100000 in
theorem r_feelAs (l : Launch) (G : va_G) (cA : zCA) (h0 : Nat) (m_status : Int32) (m_thrown : Int32) (m_above : Int64) (m_under : Int64) (a_traySort : Nat) (a_trayMany : Nat) (a_numbers : Nat) (a_tape : Nat) (m_taped : Int32) (m_textEnd : Int32) (m_faultKind : Int32) (m_faultAt : Int32) (m_bad : Int32) (m_badAt : Int32) (m_token : Int32) (m_at : Int32) (m_behind : Int32) (m_number : Int32) (m_letters : Int32) (m_word : Int64) (a_c : Nat) (a_words : Nat) (m_markMany : Int32) (a_there : Nat) (a_tried : Nat) (a_best : Nat) (a_found : Nat) (m_thereMany : Int32) (m_foundMany : Int32) (m_orderHow : Int32) (m_orderRing : Int32) (m_orderMany : Int32) (m_hasBest : Int32) (m_bestTop : Int64) (m_bestBy : Int64) (a_weights : Nat) (a_shared : Nat) (m_random : Int32) (m_truePlace : Int32) (m_trueWay : Int32) (m_seconds : Int32) (m_done : Int32) (m_feelings : Int32) (m_tries : Int32) (m_leftOver : Int32) (m_playDoor : Int32) (m_playRing : Int32) (m_isOpen : Int32) (m_isOver : Int32) (m_wasTried : Int32) (m_hasPlayed : Int32) (a_feltNow : Nat) (a_last : Nat) (a_kept : Nat) (m_hasSeconds : Int32) (m_hasTurned : Int32) (m_hasRound : Int32) (a_hasFeels : Nat) (a_isOn : Nat) (m_firstAct : Int32) (m_meanTop : Int64) (m_meanBy : Int64) (a_order : Nat) (m_rowMany : Int32) (m_newSteps : Int32) (g_c : Nat → Int32) (g_there : Nat → Int32) (g_shared : Nat → Int64) (f : Int32) (v : Int32) (hr_f : 0 ≤ f.toInt ∧ f.toInt ≤ 2) (hr_v : 0 ≤ v.toInt ∧ v.toInt ≤ 3) (hr_m_thereMany : 0 ≤ m_thereMany.toInt ∧ m_thereMany.toInt ≤ 10) (hC_g_c : zC g_c) (hC_g_there : zRg 10 0 9 g_there) : zCi l yX12_feelAs cX12_feelAs 4 (some .boolean) ({ frames := 2, cells := 0, slots := 0, locals := 48 }) G cA [.ref h0, .int f, .int v] [(h0, .inr (12, [.int m_status, .int m_thrown, .long m_above, .long m_under, .ref a_traySort, .ref a_trayMany, .ref a_numbers, .ref a_tape, .int m_taped, .int m_textEnd, .int m_faultKind, .int m_faultAt, .int m_bad, .int m_badAt, .int m_token, .int m_at, .int m_behind, .int m_number, .int m_letters, .long m_word, .ref a_c, .ref a_words, .int m_markMany, .ref a_there, .ref a_tried, .ref a_best, .ref a_found, .int m_thereMany, .int m_foundMany, .int m_orderHow, .int m_orderRing, .int m_orderMany, .int m_hasBest, .long m_bestTop, .long m_bestBy, .ref a_weights, .ref a_shared, .int m_random, .int m_truePlace, .int m_trueWay, .int m_seconds, .int m_done, .int m_feelings, .int m_tries, .int m_leftOver, .int m_playDoor, .int m_playRing, .int m_isOpen, .int m_isOver, .int m_wasTried, .int m_hasPlayed, .ref a_feltNow, .ref a_last, .ref a_kept, .int m_hasSeconds, .int m_hasTurned, .int m_hasRound, .ref a_hasFeels, .ref a_isOn, .int m_firstAct, .long m_meanTop, .long m_meanBy, .ref a_order, .int m_rowMany, .int m_newSteps])), (a_c, .inl (cA.1 0, 1825, .inl g_c)), (a_there, .inl (cA.1 0, 10, .inl g_there)), (a_shared, .inl (cA.1 1, 20, .inr (.inl g_shared)))] (S := (Nat → Int32) × (Nat → Int64)) (fun (r : Int32) (u : (Nat → Int32) × (Nat → Int64)) => (r = 0 ∧ (zC u.1) ∧ (zPF g_c u.1)) ∨ (r = 1 ∧ (zC u.1) ∧ (zPF g_c u.1))) (fun (u : (Nat → Int32) × (Nat → Int64)) => [(h0, .inr (12, [.int m_status, .int m_thrown, .long m_above, .long m_under, .ref a_traySort, .ref a_trayMany, .ref a_numbers, .ref a_tape, .int m_taped, .int m_textEnd, .int m_faultKind, .int m_faultAt, .int m_bad, .int m_badAt, .int m_token, .int m_at, .int m_behind, .int m_number, .int m_letters, .long m_word, .ref a_c, .ref a_words, .int m_markMany, .ref a_there, .ref a_tried, .ref a_best, .ref a_found, .int m_thereMany, .int m_foundMany, .int m_orderHow, .int m_orderRing, .int m_orderMany, .int m_hasBest, .long m_bestTop, .long m_bestBy, .ref a_weights, .ref a_shared, .int m_random, .int m_truePlace, .int m_trueWay, .int m_seconds, .int m_done, .int m_feelings, .int m_tries, .int m_leftOver, .int m_playDoor, .int m_playRing, .int m_isOpen, .int m_isOver, .int m_wasTried, .int m_hasPlayed, .ref a_feltNow, .ref a_last, .ref a_kept, .int m_hasSeconds, .int m_hasTurned, .int m_hasRound, .ref a_hasFeels, .ref a_isOn, .int m_firstAct, .long m_meanTop, .long m_meanBy, .ref a_order, .int m_rowMany, .int m_newSteps])), (a_c, .inl (cA.1 0, 1825, .inl u.1)), (a_there, .inl (cA.1 0, 10, .inl g_there)), (a_shared, .inl (cA.1 1, 20, .inr (.inl u.2)))]) 0 0 := by
  have hk_0 : (0 : Int32).toInt = 0 := by decide +kernel
  have hk_1 : (1 : Int32).toInt = 1 := by decide +kernel
  have hk_2 : (2 : Int32).toInt = 2 := by decide +kernel
  have hk_160 : (160 : Int32).toInt = 160 := by decide +kernel
  refine z_start2z (own := RX12) (by decide) (Nat.le_of_ble_eq_true rfl) rfl ?_
  intro p e s m args below meth c A ls Q hx hb hml hts hown hK hE hT hP hD hS hA hl hret
  have hl : lv_has ls 4 [(0, .ref h0), (1, .int f), (2, .int v)] := hl
  refine lv_iconst (v := 0) hx hb dX12_feelAs_0 (by decide) ?_
  refine lv_istore_n (lv' := [(3, .int 0), (0, .ref h0), (1, .int f), (2, .int v)]) hx hb dX12_feelAs_1 rfl hl (by decide) rfl (fun ls hl => ?_)
  have hlp_394 : ∀ (n : Nat) (v_375 : Int32) (g_376 : Nat → Int64) (H : Heap) (locs : List Loc) (ls : Array Slot), (2147483647 - v_375.toInt).toNat < n → (0 ≤ v_375.toInt ∧ v_375.toInt ≤ 20) → va_P G vwCl [(h0, .inr (12, [.int m_status, .int m_thrown, .long m_above, .long m_under, .ref a_traySort, .ref a_trayMany, .ref a_numbers, .ref a_tape, .int m_taped, .int m_textEnd, .int m_faultKind, .int m_faultAt, .int m_bad, .int m_badAt, .int m_token, .int m_at, .int m_behind, .int m_number, .int m_letters, .long m_word, .ref a_c, .ref a_words, .int m_markMany, .ref a_there, .ref a_tried, .ref a_best, .ref a_found, .int m_thereMany, .int m_foundMany, .int m_orderHow, .int m_orderRing, .int m_orderMany, .int m_hasBest, .long m_bestTop, .long m_bestBy, .ref a_weights, .ref a_shared, .int m_random, .int m_truePlace, .int m_trueWay, .int m_seconds, .int m_done, .int m_feelings, .int m_tries, .int m_leftOver, .int m_playDoor, .int m_playRing, .int m_isOpen, .int m_isOver, .int m_wasTried, .int m_hasPlayed, .ref a_feltNow, .ref a_last, .ref a_kept, .int m_hasSeconds, .int m_hasTurned, .int m_hasRound, .ref a_hasFeels, .ref a_isOn, .int m_firstAct, .long m_meanTop, .long m_meanBy, .ref a_order, .int m_rowMany, .int m_newSteps])), (a_c, .inl (cA.1 0, 1825, .inl g_c)), (a_there, .inl (cA.1 0, 10, .inl g_there)), (a_shared, .inl (cA.1 1, 20, .inr (.inl g_376)))] H → va_D A [(h0, .inr (12, [.int m_status, .int m_thrown, .long m_above, .long m_under, .ref a_traySort, .ref a_trayMany, .ref a_numbers, .ref a_tape, .int m_taped, .int m_textEnd, .int m_faultKind, .int m_faultAt, .int m_bad, .int m_badAt, .int m_token, .int m_at, .int m_behind, .int m_number, .int m_letters, .long m_word, .ref a_c, .ref a_words, .int m_markMany, .ref a_there, .ref a_tried, .ref a_best, .ref a_found, .int m_thereMany, .int m_foundMany, .int m_orderHow, .int m_orderRing, .int m_orderMany, .int m_hasBest, .long m_bestTop, .long m_bestBy, .ref a_weights, .ref a_shared, .int m_random, .int m_truePlace, .int m_trueWay, .int m_seconds, .int m_done, .int m_feelings, .int m_tries, .int m_leftOver, .int m_playDoor, .int m_playRing, .int m_isOpen, .int m_isOver, .int m_wasTried, .int m_hasPlayed, .ref a_feltNow, .ref a_last, .ref a_kept, .int m_hasSeconds, .int m_hasTurned, .int m_hasRound, .ref a_hasFeels, .ref a_isOn, .int m_firstAct, .long m_meanTop, .long m_meanBy, .ref a_order, .int m_rowMany, .int m_newSteps])), (a_c, .inl (cA.1 0, 1825, .inl g_c)), (a_there, .inl (cA.1 0, 10, .inl g_there)), (a_shared, .inl (cA.1 1, 20, .inr (.inl g_376)))] → va_S A s.heap H locs → lv_has ls 4 [(0, .ref h0), (1, .int f), (2, .int v), (3, .int v_375)] → W p l e ({ frames := 2, cells := 0, slots := 0, locals := 48 }) s m args below meth c H locs 0 0 Q (F0 m 2 ls []) := by
    intro n
    induction n with
    | zero =>
      intro v_375 g_376 H locs ls hmu_hlp_394 hr_v_375 hP hD hS hl
      exact absurd hmu_hlp_394 (Nat.not_lt_zero _)
    | succ n ih_395 =>
      intro v_375 g_376 H locs ls hmu_hlp_394 hr_v_375 hP hD hS hl
      refine lv_iload_n hx hb dX12_feelAs_2 rfl (lv_at hl 3 rfl) ?_
      refine lv_iconst (v := 2) hx hb dX12_feelAs_3 (by decide) ?_
      refine lv_aload_n hx hb dX12_feelAs_4 rfl (lv_at hl 0 rfl) ?_
      refine va_get (D := G) (ci := 12) (v := .int m_thereMany) (C := RX12) (T := TX12) (N := 65) hx hb hts inT12 hown hK hP 0 rfl rfl 27 (by decide) (hts _ tw_1912) (fun _ h9 => h9) rfl dX12_feelAs_5 ?_
      refine lv_imul hx hb dX12_feelAs_8 ?_
      refine lv_topi (fun x_396 he_x_396 => ?_)
      have hq_x_396 := z_mulq he_x_396 hk_2 (rfl : m_thereMany.toInt = _) (by omega) (by omega)
      refine lv_icmp_ge (tgt := 54) hx hb dX12_feelAs_9 (by decide) (fun c_397 => ?_) (fun c_397 => ?_)
      · have b_398 := z_fgeT c_397
        refine lv_aload_n hx hb dX12_feelAs_54 rfl (lv_at hl 0 rfl) ?_
        refine z_callVi (As := []) (rest := []) (wr := [(a_there, .inl (cA.1 0, 10, .inl g_there))]) ⟨hx, hb, hml, hown, hts⟩ hK hE hT hP hD hS hA (r_shareOut l G cA h0 m_status m_thrown m_above m_under a_traySort a_trayMany a_numbers a_tape m_taped m_textEnd m_faultKind m_faultAt m_bad m_badAt m_token m_at m_behind m_number m_letters m_word a_c a_words m_markMany a_there a_tried a_best a_found m_thereMany m_foundMany m_orderHow m_orderRing m_orderMany m_hasBest m_bestTop m_bestBy a_weights a_shared m_random m_truePlace m_trueWay m_seconds m_done m_feelings m_tries m_leftOver m_playDoor m_playRing m_isOpen m_isOver m_wasTried m_hasPlayed a_feltNow a_last a_kept m_hasSeconds m_hasTurned m_hasRound a_hasFeels a_isOn m_firstAct m_meanTop m_meanBy a_order m_rowMany m_newSteps g_c g_376 hr_m_thereMany hC_g_c) lk_RX12_317 ⟨rfl, rfl⟩ ⟨Nat.le_of_ble_eq_true rfl, Nat.le_of_ble_eq_true rfl⟩ 12 rfl rfl rfl [0, 1, 3] [2] rfl rfl (by decide) rfl hl.1 rfl (lv_room (Nat.le_of_ble_eq_true rfl)) dX12_feelAs_55 ⟨Nat.le_of_ble_eq_true rfl, Nat.le_of_ble_eq_true rfl⟩ (fun r_400 u_401 H locs hw hP hD hS => ?_)
        obtain ⟨n_399, rfl⟩ : ∃ z, z = u_401 := ⟨_, rfl⟩
        rcases hw with ⟨rfl, hC_n_399, hf_402⟩ | ⟨rfl, hC_n_399, hf_403⟩
        · skip
          have hs_404 : zPF g_c n_399 := (zPF_trans (zPF_refl g_c) hf_402)
          have hpost : ((0 : Int32) = 0 ∧ (zC n_399) ∧ (zPF g_c n_399)) ∨ ((0 : Int32) = 1 ∧ (zC n_399) ∧ (zPF g_c n_399)) := (Or.inl ⟨rfl, ⟨hC_n_399, hs_404⟩⟩)
          exact hret _ _ _ _ _ _ (n_399, g_376) [1, 2, 0, 3] hP hD hS rfl (by decide) dX12_feelAs_58 (Or.inl rfl) hpost
        · skip
          have hs_405 : zPF g_c n_399 := (zPF_trans (zPF_refl g_c) hf_403)
          have hpost : ((1 : Int32) = 0 ∧ (zC n_399) ∧ (zPF g_c n_399)) ∨ ((1 : Int32) = 1 ∧ (zC n_399) ∧ (zPF g_c n_399)) := (Or.inr ⟨rfl, ⟨hC_n_399, hs_405⟩⟩)
          exact hret _ _ _ _ _ _ (n_399, g_376) [1, 2, 0, 3] hP hD hS rfl (by decide) dX12_feelAs_58 (Or.inr rfl) hpost
      · have b_406 := z_fltF c_397
        refine lv_aload_n hx hb dX12_feelAs_12 rfl (lv_at hl 0 rfl) ?_
        refine va_get (D := G) (ci := 12) (v := .ref a_shared) (C := RX12) (T := TX12) (N := 65) hx hb hts inT12 hown hK hP 0 rfl rfl 36 (by decide) (hts _ tw_1920) (fun _ h9 => h9) rfl dX12_feelAs_13 ?_
        refine lv_iload_n hx hb dX12_feelAs_16 rfl (lv_at hl 3 rfl) ?_
        refine lv_aload_n hx hb dX12_feelAs_17 rfl (lv_at hl 0 rfl) ?_
        refine va_get (D := G) (ci := 12) (v := .ref a_c) (C := RX12) (T := TX12) (N := 65) hx hb hts inT12 hown hK hP 0 rfl rfl 20 (by decide) (hts _ tw_1905) (fun _ h9 => h9) rfl dX12_feelAs_18 ?_
        refine lv_sipush (v := 160) hx hb dX12_feelAs_21 (by decide) ?_
        refine lv_iload_n hx hb dX12_feelAs_24 rfl (lv_at hl 3 rfl) ?_
        refine lv_iadd hx hb dX12_feelAs_25 ?_
        refine lv_topi (fun x_407 he_x_407 => ?_)
        have hq_x_407 := z_addq he_x_407 hk_160 (rfl : v_375.toInt = _) (by omega) (by omega)
        refine va_iald hx hb hK hP 1 0 rfl rfl (z_inN (by omega) (by omega)) dX12_feelAs_26 ?_
        refine lv_topi (fun x_408 he_x_408 => ?_)
        refine lv_i2l (v := (x_408).toInt64) hx hb dX12_feelAs_27 rfl ?_
        refine lv_topl (fun x_409 he_x_409 => ?_)
        have hq_x_409 := z_i2l he_x_409
        have hL_x_408 := z_full x_408
        refine lv_aload_n hx hb dX12_feelAs_28 rfl (lv_at hl 0 rfl) ?_
        refine lv_aload_n hx hb dX12_feelAs_29 rfl (lv_at hl 0 rfl) ?_
        refine va_get (D := G) (ci := 12) (v := .ref a_there) (C := RX12) (T := TX12) (N := 65) hx hb hts inT12 hown hK hP 0 rfl rfl 23 (by decide) (hts _ tw_1908) (fun _ h9 => h9) rfl dX12_feelAs_30 ?_
        refine lv_iload_n hx hb dX12_feelAs_33 rfl (lv_at hl 3 rfl) ?_
        refine lv_iconst (v := 2) hx hb dX12_feelAs_34 (by decide) ?_
        refine lv_idiv hx hb dX12_feelAs_35 (by decide +kernel) ?_
        refine lv_topi (fun x_410 he_x_410 => ?_)
        have hq_x_410 := z_divq he_x_410 (rfl : v_375.toInt = _) hk_2 (by omega) (by decide)
        refine va_iald hx hb hK hP 2 0 rfl rfl (z_inN (by omega) (by omega)) dX12_feelAs_36 ?_
        refine lv_topi (fun x_411 he_x_411 => ?_)
        have hr_x_411 := z_rg hC_g_there he_x_411 (by omega) (by omega)
        refine lv_iload_n hx hb dX12_feelAs_37 rfl (lv_at hl 1 rfl) ?_
        refine lv_iload_n hx hb dX12_feelAs_38 rfl (lv_at hl 3 rfl) ?_
        refine lv_iconst (v := 2) hx hb dX12_feelAs_39 (by decide) ?_
        refine lv_irem hx hb dX12_feelAs_40 (by decide +kernel) ?_
        refine lv_topi (fun x_412 he_x_412 => ?_)
        have hq_x_412 := z_remq he_x_412 (rfl : v_375.toInt = _) hk_2 (by omega) (by decide)
        refine lv_iload_n hx hb dX12_feelAs_41 rfl (lv_at hl 2 rfl) ?_
        refine z_callVi (As := [.int x_411, .int f, .int x_412, .int v]) (rest := [.long x_409, .int v_375, .ref a_shared]) (wr := [(a_there, .inl (cA.1 0, 10, .inl g_there)), (a_shared, .inl (cA.1 1, 20, .inr (.inl g_376)))]) ⟨hx, hb, hml, hown, hts⟩ hK hE hT hP hD hS hA (r_felt l G cA h0 m_status m_thrown m_above m_under a_traySort a_trayMany a_numbers a_tape m_taped m_textEnd m_faultKind m_faultAt m_bad m_badAt m_token m_at m_behind m_number m_letters m_word a_c a_words m_markMany a_there a_tried a_best a_found m_thereMany m_foundMany m_orderHow m_orderRing m_orderMany m_hasBest m_bestTop m_bestBy a_weights a_shared m_random m_truePlace m_trueWay m_seconds m_done m_feelings m_tries m_leftOver m_playDoor m_playRing m_isOpen m_isOver m_wasTried m_hasPlayed a_feltNow a_last a_kept m_hasSeconds m_hasTurned m_hasRound a_hasFeels a_isOn m_firstAct m_meanTop m_meanBy a_order m_rowMany m_newSteps g_c x_411 f x_412 v hr_x_411 hr_f (by omega) hr_v hC_g_c) lk_RX12_329 ⟨rfl, rfl⟩ ⟨Nat.le_of_ble_eq_true rfl, Nat.le_of_ble_eq_true rfl⟩ 12 rfl rfl rfl [0, 1] [2, 3] rfl rfl (by decide) rfl hl.1 rfl (lv_room (Nat.le_of_ble_eq_true rfl)) dX12_feelAs_42 ⟨Nat.le_of_ble_eq_true rfl, Nat.le_of_ble_eq_true rfl⟩ (fun r_413 u_414 H locs hw hP hD hS => ?_)
        obtain ⟨hr_r_413, hf_415⟩ := hw
        refine lv_i2l (v := (r_413).toInt64) hx hb dX12_feelAs_45 rfl ?_
        refine lv_topl (fun x_416 he_x_416 => ?_)
        have hq_x_416 := z_i2l he_x_416
        refine lv_lmul hx hb dX12_feelAs_46 ?_
        refine lv_topl (fun x_417 he_x_417 => ?_)
        refine z_last hx hb hK hP hD hS 1 1 rfl rfl (z_inN (by omega) (by omega)) dX12_feelAs_47 (fun g_418 hg_g_418 H locs hP hD hS => ?_)
        obtain ⟨x_419, he_x_419⟩ : ∃ z : Int32, z = v_375 + 1 := ⟨_, rfl⟩
        have hq_x_419 := z_addq he_x_419 (rfl : v_375.toInt = _) hk_1 (by omega) (by omega)
        refine lv_iinc (v := x_419) (lv' := [(3, .int x_419), (0, .ref h0), (1, .int f), (2, .int v)]) hx hb dX12_feelAs_48 hl (k := 3) rfl ((z_ofi (by decide +kernel)).trans he_x_419.symm) (by decide) rfl (fun ls hl => ?_)
        refine lv_goto (tgt := 2) hx hb dX12_feelAs_51 (by decide) ?_
        have hP := hP.sub (ws' := [(h0, .inr (12, [.int m_status, .int m_thrown, .long m_above, .long m_under, .ref a_traySort, .ref a_trayMany, .ref a_numbers, .ref a_tape, .int m_taped, .int m_textEnd, .int m_faultKind, .int m_faultAt, .int m_bad, .int m_badAt, .int m_token, .int m_at, .int m_behind, .int m_number, .int m_letters, .long m_word, .ref a_c, .ref a_words, .int m_markMany, .ref a_there, .ref a_tried, .ref a_best, .ref a_found, .int m_thereMany, .int m_foundMany, .int m_orderHow, .int m_orderRing, .int m_orderMany, .int m_hasBest, .long m_bestTop, .long m_bestBy, .ref a_weights, .ref a_shared, .int m_random, .int m_truePlace, .int m_trueWay, .int m_seconds, .int m_done, .int m_feelings, .int m_tries, .int m_leftOver, .int m_playDoor, .int m_playRing, .int m_isOpen, .int m_isOver, .int m_wasTried, .int m_hasPlayed, .ref a_feltNow, .ref a_last, .ref a_kept, .int m_hasSeconds, .int m_hasTurned, .int m_hasRound, .ref a_hasFeels, .ref a_isOn, .int m_firstAct, .long m_meanTop, .long m_meanBy, .ref a_order, .int m_rowMany, .int m_newSteps])), (a_c, .inl (cA.1 0, 1825, .inl g_c)), (a_there, .inl (cA.1 0, 10, .inl g_there)), (a_shared, .inl (cA.1 1, 20, .inr (.inl g_418)))]) [2, 3, 0, 1] rfl
        have hD := hD.sub (ws' := [(h0, .inr (12, [.int m_status, .int m_thrown, .long m_above, .long m_under, .ref a_traySort, .ref a_trayMany, .ref a_numbers, .ref a_tape, .int m_taped, .int m_textEnd, .int m_faultKind, .int m_faultAt, .int m_bad, .int m_badAt, .int m_token, .int m_at, .int m_behind, .int m_number, .int m_letters, .long m_word, .ref a_c, .ref a_words, .int m_markMany, .ref a_there, .ref a_tried, .ref a_best, .ref a_found, .int m_thereMany, .int m_foundMany, .int m_orderHow, .int m_orderRing, .int m_orderMany, .int m_hasBest, .long m_bestTop, .long m_bestBy, .ref a_weights, .ref a_shared, .int m_random, .int m_truePlace, .int m_trueWay, .int m_seconds, .int m_done, .int m_feelings, .int m_tries, .int m_leftOver, .int m_playDoor, .int m_playRing, .int m_isOpen, .int m_isOver, .int m_wasTried, .int m_hasPlayed, .ref a_feltNow, .ref a_last, .ref a_kept, .int m_hasSeconds, .int m_hasTurned, .int m_hasRound, .ref a_hasFeels, .ref a_isOn, .int m_firstAct, .long m_meanTop, .long m_meanBy, .ref a_order, .int m_rowMany, .int m_newSteps])), (a_c, .inl (cA.1 0, 1825, .inl g_c)), (a_there, .inl (cA.1 0, 10, .inl g_there)), (a_shared, .inl (cA.1 1, 20, .inr (.inl g_418)))]) [2, 3, 0, 1] (by decide) rfl
        exact ih_395 x_419 g_418 H locs ls (by omega) (by omega) hP hD hS (lv_sub hl [1, 2, 3, 0] rfl)
  exact hlp_394 _ 0 g_shared _ _ _ (Nat.lt_succ_self _) (by decide +kernel) hP hD hS (lv_sub hl [1, 2, 3, 0] rfl)
set_option maxHeartbeats 4000000 in
set_option maxRecDepth 100000 in
theorem r_feel (l : Launch) (G : va_G) (cA : zCA) (h0 : Nat) (m_status : Int32) (m_thrown : Int32) (m_above : Int64) (m_under : Int64) (a_traySort : Nat) (a_trayMany : Nat) (a_numbers : Nat) (a_tape : Nat) (m_taped : Int32) (m_textEnd : Int32) (m_faultKind : Int32) (m_faultAt : Int32) (m_bad : Int32) (m_badAt : Int32) (m_token : Int32) (m_at : Int32) (m_behind : Int32) (m_number : Int32) (m_letters : Int32) (m_word : Int64) (a_c : Nat) (a_words : Nat) (m_markMany : Int32) (a_there : Nat) (a_tried : Nat) (a_best : Nat) (a_found : Nat) (m_thereMany : Int32) (m_foundMany : Int32) (m_orderHow : Int32) (m_orderRing : Int32) (m_orderMany : Int32) (m_hasBest : Int32) (m_bestTop : Int64) (m_bestBy : Int64) (a_weights : Nat) (a_shared : Nat) (m_random : Int32) (m_truePlace : Int32) (m_trueWay : Int32) (m_seconds : Int32) (m_done : Int32) (m_feelings : Int32) (m_tries : Int32) (m_leftOver : Int32) (m_playDoor : Int32) (m_playRing : Int32) (m_isOpen : Int32) (m_isOver : Int32) (m_wasTried : Int32) (m_hasPlayed : Int32) (a_feltNow : Nat) (a_last : Nat) (a_kept : Nat) (m_hasSeconds : Int32) (m_hasTurned : Int32) (m_hasRound : Int32) (a_hasFeels : Nat) (a_isOn : Nat) (m_firstAct : Int32) (m_meanTop : Int64) (m_meanBy : Int64) (a_order : Nat) (m_rowMany : Int32) (m_newSteps : Int32) (g_c : Nat → Int32) (g_there : Nat → Int32) (g_shared : Nat → Int64) (f : Int32) (v : Int32) (hr_m_thereMany : 0 ≤ m_thereMany.toInt ∧ m_thereMany.toInt ≤ 10) (hC_g_c : zC g_c) (hC_g_there : zRg 10 0 9 g_there) : zCi l yX12_feel cX12_feel 3 (some .boolean) ({ frames := 3, cells := 0, slots := 0, locals := 71 }) G cA [.ref h0, .int f, .int v] [(h0, .inr (12, [.int m_status, .int m_thrown, .long m_above, .long m_under, .ref a_traySort, .ref a_trayMany, .ref a_numbers, .ref a_tape, .int m_taped, .int m_textEnd, .int m_faultKind, .int m_faultAt, .int m_bad, .int m_badAt, .int m_token, .int m_at, .int m_behind, .int m_number, .int m_letters, .long m_word, .ref a_c, .ref a_words, .int m_markMany, .ref a_there, .ref a_tried, .ref a_best, .ref a_found, .int m_thereMany, .int m_foundMany, .int m_orderHow, .int m_orderRing, .int m_orderMany, .int m_hasBest, .long m_bestTop, .long m_bestBy, .ref a_weights, .ref a_shared, .int m_random, .int m_truePlace, .int m_trueWay, .int m_seconds, .int m_done, .int m_feelings, .int m_tries, .int m_leftOver, .int m_playDoor, .int m_playRing, .int m_isOpen, .int m_isOver, .int m_wasTried, .int m_hasPlayed, .ref a_feltNow, .ref a_last, .ref a_kept, .int m_hasSeconds, .int m_hasTurned, .int m_hasRound, .ref a_hasFeels, .ref a_isOn, .int m_firstAct, .long m_meanTop, .long m_meanBy, .ref a_order, .int m_rowMany, .int m_newSteps])), (a_c, .inl (cA.1 0, 1825, .inl g_c)), (a_there, .inl (cA.1 0, 10, .inl g_there)), (a_shared, .inl (cA.1 1, 20, .inr (.inl g_shared)))] (S := Int32 × Int32 × Int32 × (Nat → Int32) × (Nat → Int32) × (Nat → Int64)) (fun (r : Int32) (u : Int32 × Int32 × Int32 × (Nat → Int32) × (Nat → Int32) × (Nat → Int64)) => (r = 0 ∧ (0 ≤ u.2.1.toInt ∧ u.2.1.toInt ≤ 0) ∧ (0 ≤ u.2.2.1.toInt ∧ u.2.2.1.toInt ≤ 10) ∧ (zRg 10 0 9 u.2.2.2.1) ∧ (zC u.2.2.2.2.1) ∧ (zHG g_c u.2.2.2.2.1)) ∨ (r = 1 ∧ (0 ≤ u.1.toInt ∧ u.1.toInt ≤ 0) ∧ (0 ≤ u.2.1.toInt ∧ u.2.1.toInt ≤ 0) ∧ (0 ≤ u.2.2.1.toInt ∧ u.2.2.1.toInt ≤ 10) ∧ (zRg 10 0 9 u.2.2.2.1) ∧ (zC u.2.2.2.2.1) ∧ (zHG g_c u.2.2.2.2.1))) (fun (u : Int32 × Int32 × Int32 × (Nat → Int32) × (Nat → Int32) × (Nat → Int64)) => [(h0, .inr (12, [.int u.1, .int u.2.1, .long m_above, .long m_under, .ref a_traySort, .ref a_trayMany, .ref a_numbers, .ref a_tape, .int m_taped, .int m_textEnd, .int m_faultKind, .int m_faultAt, .int m_bad, .int m_badAt, .int m_token, .int m_at, .int m_behind, .int m_number, .int m_letters, .long m_word, .ref a_c, .ref a_words, .int m_markMany, .ref a_there, .ref a_tried, .ref a_best, .ref a_found, .int u.2.2.1, .int m_foundMany, .int m_orderHow, .int m_orderRing, .int m_orderMany, .int m_hasBest, .long m_bestTop, .long m_bestBy, .ref a_weights, .ref a_shared, .int m_random, .int m_truePlace, .int m_trueWay, .int m_seconds, .int m_done, .int m_feelings, .int m_tries, .int m_leftOver, .int m_playDoor, .int m_playRing, .int m_isOpen, .int m_isOver, .int m_wasTried, .int m_hasPlayed, .ref a_feltNow, .ref a_last, .ref a_kept, .int m_hasSeconds, .int m_hasTurned, .int m_hasRound, .ref a_hasFeels, .ref a_isOn, .int m_firstAct, .long m_meanTop, .long m_meanBy, .ref a_order, .int m_rowMany, .int m_newSteps])), (a_c, .inl (cA.1 0, 1825, .inl u.2.2.2.2.1)), (a_there, .inl (cA.1 0, 10, .inl u.2.2.2.1)), (a_shared, .inl (cA.1 1, 20, .inr (.inl u.2.2.2.2.2)))]) 0 0 := by
  have hk_2 : (2 : Int32).toInt = 2 := by decide +kernel
  have hk_8 : (8 : Int32).toInt = 8 := by decide +kernel
  have hk_9 : (9 : Int32).toInt = 9 := by decide +kernel
  refine z_start2z (own := RX12) (by decide) (Nat.le_of_ble_eq_true rfl) rfl ?_
  intro p e s m args below meth c A ls Q hx hb hml hts hown hK hE hT hP hD hS hA hl hret
  have hl : lv_has ls 3 [(0, .ref h0), (1, .int f), (2, .int v)] := hl
  refine lv_aload_n hx hb dX12_feel_0 rfl (lv_at hl 0 rfl) ?_
  refine lv_iconst (v := 0) hx hb dX12_feel_1 (by decide) ?_
  refine va_put (D := G) (ci := 12) (v := .int 0) (ty := .int) (C := RX12) (T := TX12) (N := 65) hx hb hts inT12 tyX12 tyX12_ok nmX12 hown hK hP hD hS 0 rfl rfl 1 (by decide) (hts _ tw_1886) (fun _ h9 => h9) rfl (tyX12_ok 1 (by decide)) rfl rfl (Nat.le_of_ble_eq_true rfl) dX12_feel_2 (fun H locs hP hD hS => ?_)
  refine lv_aload_n hx hb dX12_feel_5 rfl (lv_at hl 0 rfl) ?_
  refine lv_iconst (v := 0) hx hb dX12_feel_6 (by decide) ?_
  refine va_put (D := G) (ci := 12) (v := .int 0) (ty := .int) (C := RX12) (T := TX12) (N := 65) hx hb hts inT12 tyX12 tyX12_ok nmX12 hown hK hP hD hS 0 rfl rfl 0 (by decide) (hts _ tw_1885) (fun _ h9 => h9) rfl (tyX12_ok 0 (by decide)) rfl rfl (Nat.le_of_ble_eq_true rfl) dX12_feel_7 (fun H locs hP hD hS => ?_)
  refine lv_aload_n hx hb dX12_feel_10 rfl (lv_at hl 0 rfl) ?_
  refine lv_iload_n hx hb dX12_feel_11 rfl (lv_at hl 1 rfl) ?_
  refine lv_iload_n hx hb dX12_feel_12 rfl (lv_at hl 2 rfl) ?_
  refine z_callVi (As := [.int f, .int v]) (rest := []) (wr := [(a_there, .inl (cA.1 0, 10, .inl g_there)), (a_shared, .inl (cA.1 1, 20, .inr (.inl g_shared)))]) ⟨hx, hb, hml, hown, hts⟩ hK hE hT hP hD hS hA (r_isStep l G cA h0 0 0 m_above m_under a_traySort a_trayMany a_numbers a_tape m_taped m_textEnd m_faultKind m_faultAt m_bad m_badAt m_token m_at m_behind m_number m_letters m_word a_c a_words m_markMany a_there a_tried a_best a_found m_thereMany m_foundMany m_orderHow m_orderRing m_orderMany m_hasBest m_bestTop m_bestBy a_weights a_shared m_random m_truePlace m_trueWay m_seconds m_done m_feelings m_tries m_leftOver m_playDoor m_playRing m_isOpen m_isOver m_wasTried m_hasPlayed a_feltNow a_last a_kept m_hasSeconds m_hasTurned m_hasRound a_hasFeels a_isOn m_firstAct m_meanTop m_meanBy a_order m_rowMany m_newSteps g_c f v hC_g_c) lk_RX12_272 ⟨rfl, rfl⟩ ⟨Nat.le_of_ble_eq_true rfl, Nat.le_of_ble_eq_true rfl⟩ 12 rfl rfl rfl [0, 1] [2, 3] rfl rfl (by decide) rfl hl.1 rfl (lv_room (Nat.le_of_ble_eq_true rfl)) dX12_feel_13 ⟨Nat.le_of_ble_eq_true rfl, Nat.le_of_ble_eq_true rfl⟩ (fun r_1 u_2 H locs hw hP hD hS => ?_)
  obtain ⟨he_r_1, hw⟩ := hw
  rcases hw with ⟨rfl, -⟩ | ⟨rfl, hf_3, hf_4⟩
  · skip
    refine lv_if_ne (tgt := 25) hx hb dX12_feel_16 (by decide) (fun h9 => absurd (by decide +kernel) h9) (fun _ => ?_)
    refine lv_aload_n hx hb dX12_feel_19 rfl (lv_at hl 0 rfl) ?_
    refine lv_iconst (v := 2) hx hb dX12_feel_20 (by decide) ?_
    refine z_callVi (As := [.int 2]) (rest := []) (wr := [(a_there, .inl (cA.1 0, 10, .inl g_there)), (a_shared, .inl (cA.1 1, 20, .inr (.inl g_shared))), (a_c, .inl (cA.1 0, 1825, .inl g_c))]) ⟨hx, hb, hml, hown, hts⟩ hK hE hT hP hD hS hA (r_no l G cA h0 0 0 m_above m_under a_traySort a_trayMany a_numbers a_tape m_taped m_textEnd m_faultKind m_faultAt m_bad m_badAt m_token m_at m_behind m_number m_letters m_word a_c a_words m_markMany a_there a_tried a_best a_found m_thereMany m_foundMany m_orderHow m_orderRing m_orderMany m_hasBest m_bestTop m_bestBy a_weights a_shared m_random m_truePlace m_trueWay m_seconds m_done m_feelings m_tries m_leftOver m_playDoor m_playRing m_isOpen m_isOver m_wasTried m_hasPlayed a_feltNow a_last a_kept m_hasSeconds m_hasTurned m_hasRound a_hasFeels a_isOn m_firstAct m_meanTop m_meanBy a_order m_rowMany m_newSteps 2) lk_RX12_97 ⟨rfl, rfl⟩ ⟨Nat.le_of_ble_eq_true rfl, Nat.le_of_ble_eq_true rfl⟩ 12 rfl rfl rfl [2] [0, 1, 3] rfl rfl (by decide) rfl hl.1 rfl (lv_room (Nat.le_of_ble_eq_true rfl)) dX12_feel_21 ⟨Nat.le_of_ble_eq_true rfl, Nat.le_of_ble_eq_true rfl⟩ (fun r_6 u_7 H locs hw hP hD hS => ?_)
    obtain ⟨n_5, rfl⟩ : ∃ z, z = u_7 := ⟨_, rfl⟩
    obtain ⟨he_r_6, he_n_5, hw⟩ := hw
    obtain ⟨rfl, -⟩ := hw
    have hpost : ((0 : Int32) = 0 ∧ (0 ≤ (0 : Int32).toInt ∧ (0 : Int32).toInt ≤ 0) ∧ (0 ≤ m_thereMany.toInt ∧ m_thereMany.toInt ≤ 10) ∧ (zRg 10 0 9 g_there) ∧ (zC g_c) ∧ (zHG g_c g_c)) ∨ ((0 : Int32) = 1 ∧ (0 ≤ n_5.toInt ∧ n_5.toInt ≤ 0) ∧ (0 ≤ (0 : Int32).toInt ∧ (0 : Int32).toInt ≤ 0) ∧ (0 ≤ m_thereMany.toInt ∧ m_thereMany.toInt ≤ 10) ∧ (zRg 10 0 9 g_there) ∧ (zC g_c) ∧ (zHG g_c g_c)) := (Or.inl ⟨rfl, ⟨(by decide +kernel), hr_m_thereMany, hC_g_there, hC_g_c, (zHG_refl g_c)⟩⟩)
    exact hret _ _ _ _ _ _ (n_5, 0, m_thereMany, g_there, g_c, g_shared) [3, 2, 0, 1] hP hD hS rfl (by decide) dX12_feel_24 (Or.inl rfl) hpost
  · skip
    refine lv_if_ne (tgt := 25) hx hb dX12_feel_16 (by decide) (fun _ => ?_) (fun h9 => absurd h9 (by decide +kernel))
    refine lv_aload_n hx hb dX12_feel_25 rfl (lv_at hl 0 rfl) ?_
    refine z_callVi (As := []) (rest := []) (wr := [(a_shared, .inl (cA.1 1, 20, .inr (.inl g_shared)))]) ⟨hx, hb, hml, hown, hts⟩ hK hE hT hP hD hS hA (r_isHeld l G cA h0 0 0 m_above m_under a_traySort a_trayMany a_numbers a_tape m_taped m_textEnd m_faultKind m_faultAt m_bad m_badAt m_token m_at m_behind m_number m_letters m_word a_c a_words m_markMany a_there a_tried a_best a_found m_thereMany m_foundMany m_orderHow m_orderRing m_orderMany m_hasBest m_bestTop m_bestBy a_weights a_shared m_random m_truePlace m_trueWay m_seconds m_done m_feelings m_tries m_leftOver m_playDoor m_playRing m_isOpen m_isOver m_wasTried m_hasPlayed a_feltNow a_last a_kept m_hasSeconds m_hasTurned m_hasRound a_hasFeels a_isOn m_firstAct m_meanTop m_meanBy a_order m_rowMany m_newSteps g_c g_there hr_m_thereMany hC_g_c hC_g_there) lk_RX12_323 ⟨rfl, rfl⟩ ⟨Nat.le_of_ble_eq_true rfl, Nat.le_of_ble_eq_true rfl⟩ 12 rfl rfl rfl [2, 3, 0] [1] rfl rfl (by decide) rfl hl.1 rfl (lv_room (Nat.le_of_ble_eq_true rfl)) dX12_feel_26 ⟨Nat.le_of_ble_eq_true rfl, Nat.le_of_ble_eq_true rfl⟩ (fun r_10 u_11 H locs hw hP hD hS => ?_)
    obtain ⟨n_8, n_9⟩ := u_11
    try dsimp only at hw
    rcases hw with ⟨rfl, hr_n_8, hC_n_9⟩ | ⟨rfl, hr_n_8, hC_n_9⟩
    · skip
      refine lv_if_ne (tgt := 39) hx hb dX12_feel_29 (by decide) (fun h9 => absurd (by decide +kernel) h9) (fun _ => ?_)
      refine lv_aload_n hx hb dX12_feel_32 rfl (lv_at hl 0 rfl) ?_
      refine lv_bipush (v := 8) hx hb dX12_feel_33 (by decide) ?_
      refine z_callVi (As := [.int 8]) (rest := []) (wr := [(a_shared, .inl (cA.1 1, 20, .inr (.inl g_shared))), (a_c, .inl (cA.1 0, 1825, .inl g_c)), (a_there, .inl (cA.1 0, 10, .inl n_9))]) ⟨hx, hb, hml, hown, hts⟩ hK hE hT hP hD hS hA (r_no l G cA h0 0 0 m_above m_under a_traySort a_trayMany a_numbers a_tape m_taped m_textEnd m_faultKind m_faultAt m_bad m_badAt m_token m_at m_behind m_number m_letters m_word a_c a_words m_markMany a_there a_tried a_best a_found n_8 m_foundMany m_orderHow m_orderRing m_orderMany m_hasBest m_bestTop m_bestBy a_weights a_shared m_random m_truePlace m_trueWay m_seconds m_done m_feelings m_tries m_leftOver m_playDoor m_playRing m_isOpen m_isOver m_wasTried m_hasPlayed a_feltNow a_last a_kept m_hasSeconds m_hasTurned m_hasRound a_hasFeels a_isOn m_firstAct m_meanTop m_meanBy a_order m_rowMany m_newSteps 8) lk_RX12_97 ⟨rfl, rfl⟩ ⟨Nat.le_of_ble_eq_true rfl, Nat.le_of_ble_eq_true rfl⟩ 12 rfl rfl rfl [1] [0, 2, 3] rfl rfl (by decide) rfl hl.1 rfl (lv_room (Nat.le_of_ble_eq_true rfl)) dX12_feel_35 ⟨Nat.le_of_ble_eq_true rfl, Nat.le_of_ble_eq_true rfl⟩ (fun r_13 u_14 H locs hw hP hD hS => ?_)
      obtain ⟨n_12, rfl⟩ : ∃ z, z = u_14 := ⟨_, rfl⟩
      obtain ⟨he_r_13, he_n_12, hw⟩ := hw
      obtain ⟨rfl, -⟩ := hw
      have hpost : ((0 : Int32) = 0 ∧ (0 ≤ (0 : Int32).toInt ∧ (0 : Int32).toInt ≤ 0) ∧ (0 ≤ n_8.toInt ∧ n_8.toInt ≤ 10) ∧ (zRg 10 0 9 n_9) ∧ (zC g_c) ∧ (zHG g_c g_c)) ∨ ((0 : Int32) = 1 ∧ (0 ≤ n_12.toInt ∧ n_12.toInt ≤ 0) ∧ (0 ≤ (0 : Int32).toInt ∧ (0 : Int32).toInt ≤ 0) ∧ (0 ≤ n_8.toInt ∧ n_8.toInt ≤ 10) ∧ (zRg 10 0 9 n_9) ∧ (zC g_c) ∧ (zHG g_c g_c)) := (Or.inl ⟨rfl, ⟨(by decide +kernel), hr_n_8, hC_n_9, hC_g_c, (zHG_refl g_c)⟩⟩)
      exact hret _ _ _ _ _ _ (n_12, 0, n_8, n_9, g_c, g_shared) [3, 1, 2, 0] hP hD hS rfl (by decide) dX12_feel_38 (Or.inl rfl) hpost
    · skip
      refine lv_if_ne (tgt := 39) hx hb dX12_feel_29 (by decide) (fun _ => ?_) (fun h9 => absurd h9 (by decide +kernel))
      refine lv_aload_n hx hb dX12_feel_39 rfl (lv_at hl 0 rfl) ?_
      refine lv_iload_n hx hb dX12_feel_40 rfl (lv_at hl 1 rfl) ?_
      refine lv_iload_n hx hb dX12_feel_41 rfl (lv_at hl 2 rfl) ?_
      refine z_callVi (As := [.int f, .int v]) (rest := []) (wr := []) ⟨hx, hb, hml, hown, hts⟩ hK hE hT hP hD hS hA (r_feelAs l G cA h0 0 0 m_above m_under a_traySort a_trayMany a_numbers a_tape m_taped m_textEnd m_faultKind m_faultAt m_bad m_badAt m_token m_at m_behind m_number m_letters m_word a_c a_words m_markMany a_there a_tried a_best a_found n_8 m_foundMany m_orderHow m_orderRing m_orderMany m_hasBest m_bestTop m_bestBy a_weights a_shared m_random m_truePlace m_trueWay m_seconds m_done m_feelings m_tries m_leftOver m_playDoor m_playRing m_isOpen m_isOver m_wasTried m_hasPlayed a_feltNow a_last a_kept m_hasSeconds m_hasTurned m_hasRound a_hasFeels a_isOn m_firstAct m_meanTop m_meanBy a_order m_rowMany m_newSteps g_c n_9 g_shared f v (by omega) (by omega) hr_n_8 hC_g_c hC_n_9) lk_RX12_333 ⟨rfl, rfl⟩ ⟨Nat.le_of_ble_eq_true rfl, Nat.le_of_ble_eq_true rfl⟩ 12 rfl rfl rfl [1, 2, 3, 0] [] rfl rfl (by decide) rfl hl.1 rfl (lv_room (Nat.le_of_ble_eq_true rfl)) dX12_feel_42 ⟨Nat.le_of_ble_eq_true rfl, Nat.le_of_ble_eq_true rfl⟩ (fun r_17 u_18 H locs hw hP hD hS => ?_)
      obtain ⟨n_15, n_16⟩ := u_18
      try dsimp only at hw
      rcases hw with ⟨rfl, hC_n_15, hf_19⟩ | ⟨rfl, hC_n_15, hf_20⟩
      · skip
        have hs_21 : zHG g_c n_15 := (zHG_trans (zHG_refl g_c) (zHG_PF hf_19))
        refine lv_if_ne (tgt := 57) hx hb dX12_feel_45 (by decide) (fun h9 => absurd (by decide +kernel) h9) (fun _ => ?_)
        refine lv_aload_n hx hb dX12_feel_48 rfl (lv_at hl 0 rfl) ?_
        refine lv_bipush (v := 9) hx hb dX12_feel_49 (by decide) ?_
        refine z_callVi (As := [.int 9]) (rest := []) (wr := [(a_c, .inl (cA.1 0, 1825, .inl n_15)), (a_there, .inl (cA.1 0, 10, .inl n_9)), (a_shared, .inl (cA.1 1, 20, .inr (.inl n_16)))]) ⟨hx, hb, hml, hown, hts⟩ hK hE hT hP hD hS hA (r_no l G cA h0 0 0 m_above m_under a_traySort a_trayMany a_numbers a_tape m_taped m_textEnd m_faultKind m_faultAt m_bad m_badAt m_token m_at m_behind m_number m_letters m_word a_c a_words m_markMany a_there a_tried a_best a_found n_8 m_foundMany m_orderHow m_orderRing m_orderMany m_hasBest m_bestTop m_bestBy a_weights a_shared m_random m_truePlace m_trueWay m_seconds m_done m_feelings m_tries m_leftOver m_playDoor m_playRing m_isOpen m_isOver m_wasTried m_hasPlayed a_feltNow a_last a_kept m_hasSeconds m_hasTurned m_hasRound a_hasFeels a_isOn m_firstAct m_meanTop m_meanBy a_order m_rowMany m_newSteps 9) lk_RX12_97 ⟨rfl, rfl⟩ ⟨Nat.le_of_ble_eq_true rfl, Nat.le_of_ble_eq_true rfl⟩ 12 rfl rfl rfl [0] [1, 2, 3] rfl rfl (by decide) rfl hl.1 rfl (lv_room (Nat.le_of_ble_eq_true rfl)) dX12_feel_51 ⟨Nat.le_of_ble_eq_true rfl, Nat.le_of_ble_eq_true rfl⟩ (fun r_23 u_24 H locs hw hP hD hS => ?_)
        obtain ⟨n_22, rfl⟩ : ∃ z, z = u_24 := ⟨_, rfl⟩
        obtain ⟨he_r_23, he_n_22, hw⟩ := hw
        obtain ⟨rfl, -⟩ := hw
        refine lv_if_eq (tgt := 61) hx hb dX12_feel_54 (by decide) (fun _ => ?_) (fun h9 => absurd (by decide +kernel) h9)
        refine lv_iconst (v := 0) hx hb dX12_feel_61 (by decide) ?_
        have hpost : ((0 : Int32) = 0 ∧ (0 ≤ (0 : Int32).toInt ∧ (0 : Int32).toInt ≤ 0) ∧ (0 ≤ n_8.toInt ∧ n_8.toInt ≤ 10) ∧ (zRg 10 0 9 n_9) ∧ (zC n_15) ∧ (zHG g_c n_15)) ∨ ((0 : Int32) = 1 ∧ (0 ≤ n_22.toInt ∧ n_22.toInt ≤ 0) ∧ (0 ≤ (0 : Int32).toInt ∧ (0 : Int32).toInt ≤ 0) ∧ (0 ≤ n_8.toInt ∧ n_8.toInt ≤ 10) ∧ (zRg 10 0 9 n_9) ∧ (zC n_15) ∧ (zHG g_c n_15)) := (Or.inl ⟨rfl, ⟨(by decide +kernel), hr_n_8, hC_n_9, hC_n_15, hs_21⟩⟩)
        exact hret _ _ _ _ _ _ (n_22, 0, n_8, n_9, n_15, n_16) [3, 0, 1, 2] hP hD hS rfl (by decide) dX12_feel_62 (Or.inl rfl) hpost
      · skip
        have hs_25 : zHG g_c n_15 := (zHG_trans (zHG_refl g_c) (zHG_PF hf_20))
        refine lv_if_ne (tgt := 57) hx hb dX12_feel_45 (by decide) (fun _ => ?_) (fun h9 => absurd h9 (by decide +kernel))
        refine lv_iconst (v := 1) hx hb dX12_feel_57 (by decide) ?_
        refine lv_goto (tgt := 62) hx hb dX12_feel_58 (by decide) ?_
        have hpost : ((1 : Int32) = 0 ∧ (0 ≤ (0 : Int32).toInt ∧ (0 : Int32).toInt ≤ 0) ∧ (0 ≤ n_8.toInt ∧ n_8.toInt ≤ 10) ∧ (zRg 10 0 9 n_9) ∧ (zC n_15) ∧ (zHG g_c n_15)) ∨ ((1 : Int32) = 1 ∧ (0 ≤ (0 : Int32).toInt ∧ (0 : Int32).toInt ≤ 0) ∧ (0 ≤ (0 : Int32).toInt ∧ (0 : Int32).toInt ≤ 0) ∧ (0 ≤ n_8.toInt ∧ n_8.toInt ≤ 10) ∧ (zRg 10 0 9 n_9) ∧ (zC n_15) ∧ (zHG g_c n_15)) := (Or.inr ⟨rfl, ⟨(by decide +kernel), (by decide +kernel), hr_n_8, hC_n_9, hC_n_15, hs_25⟩⟩)
        exact hret _ _ _ _ _ _ (0, 0, n_8, n_9, n_15, n_16) [0, 1, 2, 3] hP hD hS rfl (by decide) dX12_feel_62 (Or.inr rfl) hpost
set_option maxHeartbeats 4000000 in
set_option maxRecDepth 100000 in
theorem r_onward (l : Launch) (G : va_G) (cA : zCA) (h0 : Nat) (m_status : Int32) (m_thrown : Int32) (m_above : Int64) (m_under : Int64) (a_traySort : Nat) (a_trayMany : Nat) (a_numbers : Nat) (a_tape : Nat) (m_taped : Int32) (m_textEnd : Int32) (m_faultKind : Int32) (m_faultAt : Int32) (m_bad : Int32) (m_badAt : Int32) (m_token : Int32) (m_at : Int32) (m_behind : Int32) (m_number : Int32) (m_letters : Int32) (m_word : Int64) (a_c : Nat) (a_words : Nat) (m_markMany : Int32) (a_there : Nat) (a_tried : Nat) (a_best : Nat) (a_found : Nat) (m_thereMany : Int32) (m_foundMany : Int32) (m_orderHow : Int32) (m_orderRing : Int32) (m_orderMany : Int32) (m_hasBest : Int32) (m_bestTop : Int64) (m_bestBy : Int64) (a_weights : Nat) (a_shared : Nat) (m_random : Int32) (m_truePlace : Int32) (m_trueWay : Int32) (m_seconds : Int32) (m_done : Int32) (m_feelings : Int32) (m_tries : Int32) (m_leftOver : Int32) (m_playDoor : Int32) (m_playRing : Int32) (m_isOpen : Int32) (m_isOver : Int32) (m_wasTried : Int32) (m_hasPlayed : Int32) (a_feltNow : Nat) (a_last : Nat) (a_kept : Nat) (m_hasSeconds : Int32) (m_hasTurned : Int32) (m_hasRound : Int32) (a_hasFeels : Nat) (a_isOn : Nat) (m_firstAct : Int32) (m_meanTop : Int64) (m_meanBy : Int64) (a_order : Nat) (m_rowMany : Int32) (m_newSteps : Int32) (i : Int32) (hr_i : 0 ≤ i.toInt ∧ i.toInt ≤ 19) (hr_m_thereMany : 1 ≤ m_thereMany.toInt ∧ m_thereMany.toInt ≤ 10) (hp_0 : i.toInt < 2 * m_thereMany.toInt) : zCi l yX12_onward cX12_onward 3 (some .int) ({ frames := 0, cells := 0, slots := 0, locals := 0 }) G cA [.ref h0, .int i] [(h0, .inr (12, [.int m_status, .int m_thrown, .long m_above, .long m_under, .ref a_traySort, .ref a_trayMany, .ref a_numbers, .ref a_tape, .int m_taped, .int m_textEnd, .int m_faultKind, .int m_faultAt, .int m_bad, .int m_badAt, .int m_token, .int m_at, .int m_behind, .int m_number, .int m_letters, .long m_word, .ref a_c, .ref a_words, .int m_markMany, .ref a_there, .ref a_tried, .ref a_best, .ref a_found, .int m_thereMany, .int m_foundMany, .int m_orderHow, .int m_orderRing, .int m_orderMany, .int m_hasBest, .long m_bestTop, .long m_bestBy, .ref a_weights, .ref a_shared, .int m_random, .int m_truePlace, .int m_trueWay, .int m_seconds, .int m_done, .int m_feelings, .int m_tries, .int m_leftOver, .int m_playDoor, .int m_playRing, .int m_isOpen, .int m_isOver, .int m_wasTried, .int m_hasPlayed, .ref a_feltNow, .ref a_last, .ref a_kept, .int m_hasSeconds, .int m_hasTurned, .int m_hasRound, .ref a_hasFeels, .ref a_isOn, .int m_firstAct, .long m_meanTop, .long m_meanBy, .ref a_order, .int m_rowMany, .int m_newSteps]))] (S := Unit) (fun (r : Int32) (u : Unit) => (0 ≤ r.toInt ∧ r.toInt ≤ 19) ∧ (r.toInt < 2 * m_thereMany.toInt)) (fun (u : Unit) => [(h0, .inr (12, [.int m_status, .int m_thrown, .long m_above, .long m_under, .ref a_traySort, .ref a_trayMany, .ref a_numbers, .ref a_tape, .int m_taped, .int m_textEnd, .int m_faultKind, .int m_faultAt, .int m_bad, .int m_badAt, .int m_token, .int m_at, .int m_behind, .int m_number, .int m_letters, .long m_word, .ref a_c, .ref a_words, .int m_markMany, .ref a_there, .ref a_tried, .ref a_best, .ref a_found, .int m_thereMany, .int m_foundMany, .int m_orderHow, .int m_orderRing, .int m_orderMany, .int m_hasBest, .long m_bestTop, .long m_bestBy, .ref a_weights, .ref a_shared, .int m_random, .int m_truePlace, .int m_trueWay, .int m_seconds, .int m_done, .int m_feelings, .int m_tries, .int m_leftOver, .int m_playDoor, .int m_playRing, .int m_isOpen, .int m_isOver, .int m_wasTried, .int m_hasPlayed, .ref a_feltNow, .ref a_last, .ref a_kept, .int m_hasSeconds, .int m_hasTurned, .int m_hasRound, .ref a_hasFeels, .ref a_isOn, .int m_firstAct, .long m_meanTop, .long m_meanBy, .ref a_order, .int m_rowMany, .int m_newSteps]))]) 0 0 := by
  have hk_0 : (0 : Int32).toInt = 0 := by decide +kernel
  have hk_1 : (1 : Int32).toInt = 1 := by decide +kernel
  have hk_2 : (2 : Int32).toInt = 2 := by decide +kernel
  refine z_start2i (own := RX12) (by decide) (Nat.le_of_ble_eq_true rfl) rfl ?_
  intro p e s m args below meth c A ls Q hx hb hml hts hown hK hE hT hP hD hS hA hl hret
  have hl : lv_has ls 3 [(0, .ref h0), (1, .int i)] := hl
  refine lv_iload_n hx hb dX12_onward_0 rfl (lv_at hl 1 rfl) ?_
  refine lv_iconst (v := 2) hx hb dX12_onward_1 (by decide) ?_
  refine lv_irem hx hb dX12_onward_2 (by decide +kernel) ?_
  refine lv_topi (fun x_1 he_x_1 => ?_)
  have hq_x_1 := z_remq he_x_1 (rfl : i.toInt = _) hk_2 (by omega) (by decide)
  refine lv_if_ne (tgt := 19) hx hb dX12_onward_3 (by decide) (fun c_2 => ?_) (fun c_2 => ?_)
  · have b_3 := z_fneT c_2
    refine lv_iload_n hx hb dX12_onward_19 rfl (lv_at hl 1 rfl) ?_
    refine lv_iconst (v := 2) hx hb dX12_onward_20 (by decide) ?_
    refine lv_idiv hx hb dX12_onward_21 (by decide +kernel) ?_
    refine lv_topi (fun x_4 he_x_4 => ?_)
    have hq_x_4 := z_divq he_x_4 (rfl : i.toInt = _) hk_2 (by omega) (by decide)
    refine lv_aload_n hx hb dX12_onward_22 rfl (lv_at hl 0 rfl) ?_
    refine va_get (D := G) (ci := 12) (v := .int m_thereMany) (C := RX12) (T := TX12) (N := 65) hx hb hts inT12 hown hK hP 0 rfl rfl 27 (by decide) (hts _ tw_1912) (fun _ h9 => h9) rfl dX12_onward_23 ?_
    refine lv_iadd hx hb dX12_onward_26 ?_
    refine lv_topi (fun x_5 he_x_5 => ?_)
    have hq_x_5 := z_addq he_x_5 (rfl : x_4.toInt = _) (rfl : m_thereMany.toInt = _) (by omega) (by omega)
    refine lv_iconst (v := 1) hx hb dX12_onward_27 (by decide) ?_
    refine lv_isub hx hb dX12_onward_28 ?_
    refine lv_topi (fun x_6 he_x_6 => ?_)
    have hq_x_6 := z_subq he_x_6 (rfl : x_5.toInt = _) hk_1 (by omega) (by omega)
    refine lv_aload_n hx hb dX12_onward_29 rfl (lv_at hl 0 rfl) ?_
    refine va_get (D := G) (ci := 12) (v := .int m_thereMany) (C := RX12) (T := TX12) (N := 65) hx hb hts inT12 hown hK hP 0 rfl rfl 27 (by decide) (hts _ tw_1912) (fun _ h9 => h9) rfl dX12_onward_30 ?_
    refine lv_irem hx hb dX12_onward_33 (z_nz (by omega)) ?_
    refine lv_topi (fun x_7 he_x_7 => ?_)
    have hr_x_7 := z_remr he_x_7 (by omega) (by omega)
    refine lv_istore_n (lv' := [(2, .int x_7), (0, .ref h0), (1, .int i)]) hx hb dX12_onward_34 rfl hl (by decide) rfl (fun ls hl => ?_)
    refine lv_iconst (v := 2) hx hb dX12_onward_35 (by decide) ?_
    refine lv_iload_n hx hb dX12_onward_36 rfl (lv_at hl 0 rfl) ?_
    refine lv_imul hx hb dX12_onward_37 ?_
    refine lv_topi (fun x_8 he_x_8 => ?_)
    have hq_x_8 := z_mulq he_x_8 hk_2 (rfl : x_7.toInt = _) (by omega) (by omega)
    refine lv_iload_n hx hb dX12_onward_38 rfl (lv_at hl 2 rfl) ?_
    refine lv_iconst (v := 2) hx hb dX12_onward_39 (by decide) ?_
    refine lv_irem hx hb dX12_onward_40 (by decide +kernel) ?_
    refine lv_topi (fun x_9 he_x_9 => ?_)
    have hq_x_9 := z_remq he_x_9 (rfl : i.toInt = _) hk_2 (by omega) (by decide)
    refine lv_iadd hx hb dX12_onward_41 ?_
    refine lv_topi (fun x_10 he_x_10 => ?_)
    have hq_x_10 := z_addq he_x_10 (rfl : x_8.toInt = _) (rfl : x_9.toInt = _) (by omega) (by omega)
    have hpost : (0 ≤ x_10.toInt ∧ x_10.toInt ≤ 19) ∧ (x_10.toInt < 2 * m_thereMany.toInt) := ⟨(by omega), (by omega)⟩
    exact hret _ _ _ _ _ _ () [0] hP hD hS rfl (by decide) dX12_onward_42 hpost
  · have b_11 := z_feqF c_2
    refine lv_iload_n hx hb dX12_onward_6 rfl (lv_at hl 1 rfl) ?_
    refine lv_iconst (v := 2) hx hb dX12_onward_7 (by decide) ?_
    refine lv_idiv hx hb dX12_onward_8 (by decide +kernel) ?_
    refine lv_topi (fun x_12 he_x_12 => ?_)
    have hq_x_12 := z_divq he_x_12 (rfl : i.toInt = _) hk_2 (by omega) (by decide)
    refine lv_iconst (v := 1) hx hb dX12_onward_9 (by decide) ?_
    refine lv_iadd hx hb dX12_onward_10 ?_
    refine lv_topi (fun x_13 he_x_13 => ?_)
    have hq_x_13 := z_addq he_x_13 (rfl : x_12.toInt = _) hk_1 (by omega) (by omega)
    refine lv_aload_n hx hb dX12_onward_11 rfl (lv_at hl 0 rfl) ?_
    refine va_get (D := G) (ci := 12) (v := .int m_thereMany) (C := RX12) (T := TX12) (N := 65) hx hb hts inT12 hown hK hP 0 rfl rfl 27 (by decide) (hts _ tw_1912) (fun _ h9 => h9) rfl dX12_onward_12 ?_
    refine lv_irem hx hb dX12_onward_15 (z_nz (by omega)) ?_
    refine lv_topi (fun x_14 he_x_14 => ?_)
    have hr_x_14 := z_remr he_x_14 (by omega) (by omega)
    refine lv_goto (tgt := 34) hx hb dX12_onward_16 (by decide) ?_
    refine lv_istore_n (lv' := [(2, .int x_14), (0, .ref h0), (1, .int i)]) hx hb dX12_onward_34 rfl hl (by decide) rfl (fun ls hl => ?_)
    refine lv_iconst (v := 2) hx hb dX12_onward_35 (by decide) ?_
    refine lv_iload_n hx hb dX12_onward_36 rfl (lv_at hl 0 rfl) ?_
    refine lv_imul hx hb dX12_onward_37 ?_
    refine lv_topi (fun x_15 he_x_15 => ?_)
    have hq_x_15 := z_mulq he_x_15 hk_2 (rfl : x_14.toInt = _) (by omega) (by omega)
    refine lv_iload_n hx hb dX12_onward_38 rfl (lv_at hl 2 rfl) ?_
    refine lv_iconst (v := 2) hx hb dX12_onward_39 (by decide) ?_
    refine lv_irem hx hb dX12_onward_40 (by decide +kernel) ?_
    refine lv_topi (fun x_16 he_x_16 => ?_)
    have hq_x_16 := z_remq he_x_16 (rfl : i.toInt = _) hk_2 (by omega) (by decide)
    refine lv_iadd hx hb dX12_onward_41 ?_
    refine lv_topi (fun x_17 he_x_17 => ?_)
    have hq_x_17 := z_addq he_x_17 (rfl : x_15.toInt = _) (rfl : x_16.toInt = _) (by omega) (by omega)
    have hpost : (0 ≤ x_17.toInt ∧ x_17.toInt ≤ 19) ∧ (x_17.toInt < 2 * m_thereMany.toInt) := ⟨(by omega), (by omega)⟩
    exact hret _ _ _ _ _ _ () [0] hP hD hS rfl (by decide) dX12_onward_42 hpost
set_option maxHeartbeats 4000000 in
set_option maxRecDepth 100000 in
theorem r_goAs (l : Launch) (G : va_G) (cA : zCA) (h0 : Nat) (m_status : Int32) (m_thrown : Int32) (m_above : Int64) (m_under : Int64) (a_traySort : Nat) (a_trayMany : Nat) (a_numbers : Nat) (a_tape : Nat) (m_taped : Int32) (m_textEnd : Int32) (m_faultKind : Int32) (m_faultAt : Int32) (m_bad : Int32) (m_badAt : Int32) (m_token : Int32) (m_at : Int32) (m_behind : Int32) (m_number : Int32) (m_letters : Int32) (m_word : Int64) (a_c : Nat) (a_words : Nat) (m_markMany : Int32) (a_there : Nat) (a_tried : Nat) (a_best : Nat) (a_found : Nat) (m_thereMany : Int32) (m_foundMany : Int32) (m_orderHow : Int32) (m_orderRing : Int32) (m_orderMany : Int32) (m_hasBest : Int32) (m_bestTop : Int64) (m_bestBy : Int64) (a_weights : Nat) (a_shared : Nat) (m_random : Int32) (m_truePlace : Int32) (m_trueWay : Int32) (m_seconds : Int32) (m_done : Int32) (m_feelings : Int32) (m_tries : Int32) (m_leftOver : Int32) (m_playDoor : Int32) (m_playRing : Int32) (m_isOpen : Int32) (m_isOver : Int32) (m_wasTried : Int32) (m_hasPlayed : Int32) (a_feltNow : Nat) (a_last : Nat) (a_kept : Nat) (m_hasSeconds : Int32) (m_hasTurned : Int32) (m_hasRound : Int32) (a_hasFeels : Nat) (a_isOn : Nat) (m_firstAct : Int32) (m_meanTop : Int64) (m_meanBy : Int64) (a_order : Nat) (m_rowMany : Int32) (m_newSteps : Int32) (g_c : Nat → Int32) (g_shared : Nat → Int64) (hr_m_thereMany : 0 ≤ m_thereMany.toInt ∧ m_thereMany.toInt ≤ 10) (hC_g_c : zC g_c) : zCv l yX12_goAs cX12_goAs 2 none ({ frames := 1, cells := 0, slots := 0, locals := 22 }) G cA [.ref h0] [(h0, .inr (12, [.int m_status, .int m_thrown, .long m_above, .long m_under, .ref a_traySort, .ref a_trayMany, .ref a_numbers, .ref a_tape, .int m_taped, .int m_textEnd, .int m_faultKind, .int m_faultAt, .int m_bad, .int m_badAt, .int m_token, .int m_at, .int m_behind, .int m_number, .int m_letters, .long m_word, .ref a_c, .ref a_words, .int m_markMany, .ref a_there, .ref a_tried, .ref a_best, .ref a_found, .int m_thereMany, .int m_foundMany, .int m_orderHow, .int m_orderRing, .int m_orderMany, .int m_hasBest, .long m_bestTop, .long m_bestBy, .ref a_weights, .ref a_shared, .int m_random, .int m_truePlace, .int m_trueWay, .int m_seconds, .int m_done, .int m_feelings, .int m_tries, .int m_leftOver, .int m_playDoor, .int m_playRing, .int m_isOpen, .int m_isOver, .int m_wasTried, .int m_hasPlayed, .ref a_feltNow, .ref a_last, .ref a_kept, .int m_hasSeconds, .int m_hasTurned, .int m_hasRound, .ref a_hasFeels, .ref a_isOn, .int m_firstAct, .long m_meanTop, .long m_meanBy, .ref a_order, .int m_rowMany, .int m_newSteps])), (a_c, .inl (cA.1 0, 1825, .inl g_c)), (a_shared, .inl (cA.1 1, 20, .inr (.inl g_shared)))] (S := (Nat → Int32) × (Nat → Int64)) (fun (u : (Nat → Int32) × (Nat → Int64)) => (zC u.1) ∧ (zPF g_c u.1)) (fun (u : (Nat → Int32) × (Nat → Int64)) => [(h0, .inr (12, [.int m_status, .int m_thrown, .long m_above, .long m_under, .ref a_traySort, .ref a_trayMany, .ref a_numbers, .ref a_tape, .int m_taped, .int m_textEnd, .int m_faultKind, .int m_faultAt, .int m_bad, .int m_badAt, .int m_token, .int m_at, .int m_behind, .int m_number, .int m_letters, .long m_word, .ref a_c, .ref a_words, .int m_markMany, .ref a_there, .ref a_tried, .ref a_best, .ref a_found, .int m_thereMany, .int m_foundMany, .int m_orderHow, .int m_orderRing, .int m_orderMany, .int m_hasBest, .long m_bestTop, .long m_bestBy, .ref a_weights, .ref a_shared, .int m_random, .int m_truePlace, .int m_trueWay, .int m_seconds, .int m_done, .int m_feelings, .int m_tries, .int m_leftOver, .int m_playDoor, .int m_playRing, .int m_isOpen, .int m_isOver, .int m_wasTried, .int m_hasPlayed, .ref a_feltNow, .ref a_last, .ref a_kept, .int m_hasSeconds, .int m_hasTurned, .int m_hasRound, .ref a_hasFeels, .ref a_isOn, .int m_firstAct, .long m_meanTop, .long m_meanBy, .ref a_order, .int m_rowMany, .int m_newSteps])), (a_c, .inl (cA.1 0, 1825, .inl u.1)), (a_shared, .inl (cA.1 1, 20, .inr (.inl u.2)))]) 0 0 := by
  have hk_0 : (0 : Int32).toInt = 0 := by decide +kernel
  have hk_1 : (1 : Int32).toInt = 1 := by decide +kernel
  have hk_2 : (2 : Int32).toInt = 2 := by decide +kernel
  have hk_160 : (160 : Int32).toInt = 160 := by decide +kernel
  refine z_start2v (own := RX12) (by decide) (Nat.le_of_ble_eq_true rfl) rfl ?_
  intro p e s m args below meth c A ls Q hx hb hml hts hown hK hE hT hP hD hS hA hl hret
  have hl : lv_has ls 2 [(0, .ref h0)] := hl
  refine lv_iconst (v := 0) hx hb dX12_goAs_0 (by decide) ?_
  refine lv_istore_n (lv' := [(1, .int 0), (0, .ref h0)]) hx hb dX12_goAs_1 rfl hl (by decide) rfl (fun ls hl => ?_)
  have hlp_291 : ∀ (n : Nat) (v_277 : Int32) (g_278 : Nat → Int64) (H : Heap) (locs : List Loc) (ls : Array Slot), (2147483647 - v_277.toInt).toNat < n → (0 ≤ v_277.toInt ∧ v_277.toInt ≤ 20) → va_P G vwCl [(h0, .inr (12, [.int m_status, .int m_thrown, .long m_above, .long m_under, .ref a_traySort, .ref a_trayMany, .ref a_numbers, .ref a_tape, .int m_taped, .int m_textEnd, .int m_faultKind, .int m_faultAt, .int m_bad, .int m_badAt, .int m_token, .int m_at, .int m_behind, .int m_number, .int m_letters, .long m_word, .ref a_c, .ref a_words, .int m_markMany, .ref a_there, .ref a_tried, .ref a_best, .ref a_found, .int m_thereMany, .int m_foundMany, .int m_orderHow, .int m_orderRing, .int m_orderMany, .int m_hasBest, .long m_bestTop, .long m_bestBy, .ref a_weights, .ref a_shared, .int m_random, .int m_truePlace, .int m_trueWay, .int m_seconds, .int m_done, .int m_feelings, .int m_tries, .int m_leftOver, .int m_playDoor, .int m_playRing, .int m_isOpen, .int m_isOver, .int m_wasTried, .int m_hasPlayed, .ref a_feltNow, .ref a_last, .ref a_kept, .int m_hasSeconds, .int m_hasTurned, .int m_hasRound, .ref a_hasFeels, .ref a_isOn, .int m_firstAct, .long m_meanTop, .long m_meanBy, .ref a_order, .int m_rowMany, .int m_newSteps])), (a_c, .inl (cA.1 0, 1825, .inl g_c)), (a_shared, .inl (cA.1 1, 20, .inr (.inl g_278)))] H → va_D A [(h0, .inr (12, [.int m_status, .int m_thrown, .long m_above, .long m_under, .ref a_traySort, .ref a_trayMany, .ref a_numbers, .ref a_tape, .int m_taped, .int m_textEnd, .int m_faultKind, .int m_faultAt, .int m_bad, .int m_badAt, .int m_token, .int m_at, .int m_behind, .int m_number, .int m_letters, .long m_word, .ref a_c, .ref a_words, .int m_markMany, .ref a_there, .ref a_tried, .ref a_best, .ref a_found, .int m_thereMany, .int m_foundMany, .int m_orderHow, .int m_orderRing, .int m_orderMany, .int m_hasBest, .long m_bestTop, .long m_bestBy, .ref a_weights, .ref a_shared, .int m_random, .int m_truePlace, .int m_trueWay, .int m_seconds, .int m_done, .int m_feelings, .int m_tries, .int m_leftOver, .int m_playDoor, .int m_playRing, .int m_isOpen, .int m_isOver, .int m_wasTried, .int m_hasPlayed, .ref a_feltNow, .ref a_last, .ref a_kept, .int m_hasSeconds, .int m_hasTurned, .int m_hasRound, .ref a_hasFeels, .ref a_isOn, .int m_firstAct, .long m_meanTop, .long m_meanBy, .ref a_order, .int m_rowMany, .int m_newSteps])), (a_c, .inl (cA.1 0, 1825, .inl g_c)), (a_shared, .inl (cA.1 1, 20, .inr (.inl g_278)))] → va_S A s.heap H locs → lv_has ls 2 [(0, .ref h0), (1, .int v_277)] → W p l e ({ frames := 1, cells := 0, slots := 0, locals := 22 }) s m args below meth c H locs 0 0 Q (F0 m 2 ls []) := by
    intro n
    induction n with
    | zero =>
      intro v_277 g_278 H locs ls hmu_hlp_291 hr_v_277 hP hD hS hl
      exact absurd hmu_hlp_291 (Nat.not_lt_zero _)
    | succ n ih_292 =>
      intro v_277 g_278 H locs ls hmu_hlp_291 hr_v_277 hP hD hS hl
      refine lv_iload_n hx hb dX12_goAs_2 rfl (lv_at hl 1 rfl) ?_
      refine lv_iconst (v := 2) hx hb dX12_goAs_3 (by decide) ?_
      refine lv_aload_n hx hb dX12_goAs_4 rfl (lv_at hl 0 rfl) ?_
      refine va_get (D := G) (ci := 12) (v := .int m_thereMany) (C := RX12) (T := TX12) (N := 65) hx hb hts inT12 hown hK hP 0 rfl rfl 27 (by decide) (hts _ tw_1912) (fun _ h9 => h9) rfl dX12_goAs_5 ?_
      refine lv_imul hx hb dX12_goAs_8 ?_
      refine lv_topi (fun x_293 he_x_293 => ?_)
      have hq_x_293 := z_mulq he_x_293 hk_2 (rfl : m_thereMany.toInt = _) (by omega) (by omega)
      refine lv_icmp_ge (tgt := 39) hx hb dX12_goAs_9 (by decide) (fun c_294 => ?_) (fun c_294 => ?_)
      · have b_295 := z_fgeT c_294
        refine lv_iconst (v := 0) hx hb dX12_goAs_39 (by decide) ?_
        refine lv_istore_n (lv' := [(1, .int 0), (0, .ref h0)]) hx hb dX12_goAs_40 rfl hl (by decide) rfl (fun ls hl => ?_)
        have hlp_545 : ∀ (n : Nat) (v_532 : Int32) (g_533 : Nat → Int32) (H : Heap) (locs : List Loc) (ls : Array Slot), (2147483647 - v_532.toInt).toNat < n → (0 ≤ v_532.toInt ∧ v_532.toInt ≤ 20) → (zC g_533) → (zPF g_c g_533) → va_P G vwCl [(h0, .inr (12, [.int m_status, .int m_thrown, .long m_above, .long m_under, .ref a_traySort, .ref a_trayMany, .ref a_numbers, .ref a_tape, .int m_taped, .int m_textEnd, .int m_faultKind, .int m_faultAt, .int m_bad, .int m_badAt, .int m_token, .int m_at, .int m_behind, .int m_number, .int m_letters, .long m_word, .ref a_c, .ref a_words, .int m_markMany, .ref a_there, .ref a_tried, .ref a_best, .ref a_found, .int m_thereMany, .int m_foundMany, .int m_orderHow, .int m_orderRing, .int m_orderMany, .int m_hasBest, .long m_bestTop, .long m_bestBy, .ref a_weights, .ref a_shared, .int m_random, .int m_truePlace, .int m_trueWay, .int m_seconds, .int m_done, .int m_feelings, .int m_tries, .int m_leftOver, .int m_playDoor, .int m_playRing, .int m_isOpen, .int m_isOver, .int m_wasTried, .int m_hasPlayed, .ref a_feltNow, .ref a_last, .ref a_kept, .int m_hasSeconds, .int m_hasTurned, .int m_hasRound, .ref a_hasFeels, .ref a_isOn, .int m_firstAct, .long m_meanTop, .long m_meanBy, .ref a_order, .int m_rowMany, .int m_newSteps])), (a_c, .inl (cA.1 0, 1825, .inl g_533)), (a_shared, .inl (cA.1 1, 20, .inr (.inl g_278)))] H → va_D A [(h0, .inr (12, [.int m_status, .int m_thrown, .long m_above, .long m_under, .ref a_traySort, .ref a_trayMany, .ref a_numbers, .ref a_tape, .int m_taped, .int m_textEnd, .int m_faultKind, .int m_faultAt, .int m_bad, .int m_badAt, .int m_token, .int m_at, .int m_behind, .int m_number, .int m_letters, .long m_word, .ref a_c, .ref a_words, .int m_markMany, .ref a_there, .ref a_tried, .ref a_best, .ref a_found, .int m_thereMany, .int m_foundMany, .int m_orderHow, .int m_orderRing, .int m_orderMany, .int m_hasBest, .long m_bestTop, .long m_bestBy, .ref a_weights, .ref a_shared, .int m_random, .int m_truePlace, .int m_trueWay, .int m_seconds, .int m_done, .int m_feelings, .int m_tries, .int m_leftOver, .int m_playDoor, .int m_playRing, .int m_isOpen, .int m_isOver, .int m_wasTried, .int m_hasPlayed, .ref a_feltNow, .ref a_last, .ref a_kept, .int m_hasSeconds, .int m_hasTurned, .int m_hasRound, .ref a_hasFeels, .ref a_isOn, .int m_firstAct, .long m_meanTop, .long m_meanBy, .ref a_order, .int m_rowMany, .int m_newSteps])), (a_c, .inl (cA.1 0, 1825, .inl g_533)), (a_shared, .inl (cA.1 1, 20, .inr (.inl g_278)))] → va_S A s.heap H locs → lv_has ls 2 [(0, .ref h0), (1, .int v_532)] → W p l e ({ frames := 1, cells := 0, slots := 0, locals := 22 }) s m args below meth c H locs 0 0 Q (F0 m 41 ls []) := by
          intro n
          induction n with
          | zero =>
            intro v_532 g_533 H locs ls hmu_hlp_545 hr_v_532 hC_g_533 hs_544 hP hD hS hl
            exact absurd hmu_hlp_545 (Nat.not_lt_zero _)
          | succ n ih_546 =>
            intro v_532 g_533 H locs ls hmu_hlp_545 hr_v_532 hC_g_533 hs_544 hP hD hS hl
            refine lv_iload_n hx hb dX12_goAs_41 rfl (lv_at hl 1 rfl) ?_
            refine lv_iconst (v := 2) hx hb dX12_goAs_42 (by decide) ?_
            refine lv_aload_n hx hb dX12_goAs_43 rfl (lv_at hl 0 rfl) ?_
            refine va_get (D := G) (ci := 12) (v := .int m_thereMany) (C := RX12) (T := TX12) (N := 65) hx hb hts inT12 hown hK hP 0 rfl rfl 27 (by decide) (hts _ tw_1912) (fun _ h9 => h9) rfl dX12_goAs_44 ?_
            refine lv_imul hx hb dX12_goAs_47 ?_
            refine lv_topi (fun x_547 he_x_547 => ?_)
            have hq_x_547 := z_mulq he_x_547 hk_2 (rfl : m_thereMany.toInt = _) (by omega) (by omega)
            refine lv_icmp_ge (tgt := 74) hx hb dX12_goAs_48 (by decide) (fun c_548 => ?_) (fun c_548 => ?_)
            · have b_549 := z_fgeT c_548
              have hpost : (zC g_533) ∧ (zPF g_c g_533) := ⟨hC_g_533, hs_544⟩
              exact hret _ _ _ _ _ (g_533, g_278) [0, 1, 2] hP hD hS rfl (by decide) dX12_goAs_74 hpost
            · have b_550 := z_fltF c_548
              refine lv_aload_n hx hb dX12_goAs_51 rfl (lv_at hl 0 rfl) ?_
              refine va_get (D := G) (ci := 12) (v := .ref a_c) (C := RX12) (T := TX12) (N := 65) hx hb hts inT12 hown hK hP 0 rfl rfl 20 (by decide) (hts _ tw_1905) (fun _ h9 => h9) rfl dX12_goAs_52 ?_
              refine lv_sipush (v := 160) hx hb dX12_goAs_55 (by decide) ?_
              refine lv_iload_n hx hb dX12_goAs_58 rfl (lv_at hl 1 rfl) ?_
              refine lv_iadd hx hb dX12_goAs_59 ?_
              refine lv_topi (fun x_551 he_x_551 => ?_)
              have hq_x_551 := z_addq he_x_551 hk_160 (rfl : v_532.toInt = _) (by omega) (by omega)
              refine lv_aload_n hx hb dX12_goAs_60 rfl (lv_at hl 0 rfl) ?_
              refine va_get (D := G) (ci := 12) (v := .ref a_shared) (C := RX12) (T := TX12) (N := 65) hx hb hts inT12 hown hK hP 0 rfl rfl 36 (by decide) (hts _ tw_1920) (fun _ h9 => h9) rfl dX12_goAs_61 ?_
              refine lv_iload_n hx hb dX12_goAs_64 rfl (lv_at hl 1 rfl) ?_
              refine va_lald hx hb hK hP 2 1 rfl rfl (z_inN (by omega) (by omega)) dX12_goAs_65 ?_
              refine lv_topl (fun x_552 he_x_552 => ?_)
              refine lv_l2i (v := (x_552).toInt32) hx hb dX12_goAs_66 rfl ?_
              refine lv_topi (fun x_553 he_x_553 => ?_)
              refine z_iast hx hb hK hP hD hS 1 0 rfl rfl (z_inN (by omega) (by omega)) dX12_goAs_67 (fun g_554 hg_g_554 H locs hP hD hS => ?_)
              have hC_g_554 := z_ctU hC_g_533 hg_g_554 (a := 160) (b := 179) (lo := (-2147483648)) (hi := 2147483647) (by decide +kernel) (by decide +kernel) (by omega) (by omega) (z_full _)
              have hs_555 : zPF g_c g_554 := (zPF_upd hs_544 hg_g_554 (by omega) (by omega))
              obtain ⟨x_556, he_x_556⟩ : ∃ z : Int32, z = v_532 + 1 := ⟨_, rfl⟩
              have hq_x_556 := z_addq he_x_556 (rfl : v_532.toInt = _) hk_1 (by omega) (by omega)
              refine lv_iinc (v := x_556) (lv' := [(1, .int x_556), (0, .ref h0)]) hx hb dX12_goAs_68 hl (k := 1) rfl ((z_ofi (by decide +kernel)).trans he_x_556.symm) (by decide) rfl (fun ls hl => ?_)
              refine lv_goto (tgt := 41) hx hb dX12_goAs_71 (by decide) ?_
              exact ih_546 x_556 g_554 H locs ls (by omega) (by omega) hC_g_554 hs_555 hP hD hS (lv_sub hl [1, 0] rfl)
        exact hlp_545 _ 0 g_c _ _ _ (Nat.lt_succ_self _) (by decide +kernel) hC_g_c (zPF_refl g_c) hP hD hS (lv_sub hl [1, 0] rfl)
      · have b_557 := z_fltF c_294
        refine lv_aload_n hx hb dX12_goAs_12 rfl (lv_at hl 0 rfl) ?_
        refine va_get (D := G) (ci := 12) (v := .ref a_shared) (C := RX12) (T := TX12) (N := 65) hx hb hts inT12 hown hK hP 0 rfl rfl 36 (by decide) (hts _ tw_1920) (fun _ h9 => h9) rfl dX12_goAs_13 ?_
        refine lv_aload_n hx hb dX12_goAs_16 rfl (lv_at hl 0 rfl) ?_
        refine lv_iload_n hx hb dX12_goAs_17 rfl (lv_at hl 1 rfl) ?_
        refine z_callVi (As := [.int v_277]) (rest := [.ref a_shared]) (wr := [(a_c, .inl (cA.1 0, 1825, .inl g_c)), (a_shared, .inl (cA.1 1, 20, .inr (.inl g_278)))]) ⟨hx, hb, hml, hown, hts⟩ hK hE hT hP hD hS hA (r_onward l G cA h0 m_status m_thrown m_above m_under a_traySort a_trayMany a_numbers a_tape m_taped m_textEnd m_faultKind m_faultAt m_bad m_badAt m_token m_at m_behind m_number m_letters m_word a_c a_words m_markMany a_there a_tried a_best a_found m_thereMany m_foundMany m_orderHow m_orderRing m_orderMany m_hasBest m_bestTop m_bestBy a_weights a_shared m_random m_truePlace m_trueWay m_seconds m_done m_feelings m_tries m_leftOver m_playDoor m_playRing m_isOpen m_isOver m_wasTried m_hasPlayed a_feltNow a_last a_kept m_hasSeconds m_hasTurned m_hasRound a_hasFeels a_isOn m_firstAct m_meanTop m_meanBy a_order m_rowMany m_newSteps v_277 (by omega) (by omega) (by omega)) lk_RX12_336 ⟨rfl, rfl⟩ ⟨Nat.le_of_ble_eq_true rfl, Nat.le_of_ble_eq_true rfl⟩ 12 rfl rfl rfl [0] [1, 2] rfl rfl (by decide) rfl hl.1 rfl (lv_room (Nat.le_of_ble_eq_true rfl)) dX12_goAs_18 ⟨Nat.le_of_ble_eq_true rfl, Nat.le_of_ble_eq_true rfl⟩ (fun r_558 u_559 H locs hw hP hD hS => ?_)
        obtain ⟨hr_r_558, hf_560⟩ := hw
        refine lv_aload_n hx hb dX12_goAs_21 rfl (lv_at hl 0 rfl) ?_
        refine va_get (D := G) (ci := 12) (v := .ref a_c) (C := RX12) (T := TX12) (N := 65) hx hb hts inT12 hown hK hP 2 rfl rfl 20 (by decide) (hts _ tw_1905) (fun _ h9 => h9) rfl dX12_goAs_22 ?_
        refine lv_sipush (v := 160) hx hb dX12_goAs_25 (by decide) ?_
        refine lv_iload_n hx hb dX12_goAs_28 rfl (lv_at hl 1 rfl) ?_
        refine lv_iadd hx hb dX12_goAs_29 ?_
        refine lv_topi (fun x_561 he_x_561 => ?_)
        have hq_x_561 := z_addq he_x_561 hk_160 (rfl : v_277.toInt = _) (by omega) (by omega)
        refine va_iald hx hb hK hP 0 0 rfl rfl (z_inN (by omega) (by omega)) dX12_goAs_30 ?_
        refine lv_topi (fun x_562 he_x_562 => ?_)
        refine lv_i2l (v := (x_562).toInt64) hx hb dX12_goAs_31 rfl ?_
        refine lv_topl (fun x_563 he_x_563 => ?_)
        have hq_x_563 := z_i2l he_x_563
        have hL_x_562 := z_full x_562
        refine z_last hx hb hK hP hD hS 1 1 rfl rfl (z_inN (by omega) (by omega)) dX12_goAs_32 (fun g_564 hg_g_564 H locs hP hD hS => ?_)
        obtain ⟨x_565, he_x_565⟩ : ∃ z : Int32, z = v_277 + 1 := ⟨_, rfl⟩
        have hq_x_565 := z_addq he_x_565 (rfl : v_277.toInt = _) hk_1 (by omega) (by omega)
        refine lv_iinc (v := x_565) (lv' := [(1, .int x_565), (0, .ref h0)]) hx hb dX12_goAs_33 hl (k := 1) rfl ((z_ofi (by decide +kernel)).trans he_x_565.symm) (by decide) rfl (fun ls hl => ?_)
        refine lv_goto (tgt := 2) hx hb dX12_goAs_36 (by decide) ?_
        have hP := hP.sub (ws' := [(h0, .inr (12, [.int m_status, .int m_thrown, .long m_above, .long m_under, .ref a_traySort, .ref a_trayMany, .ref a_numbers, .ref a_tape, .int m_taped, .int m_textEnd, .int m_faultKind, .int m_faultAt, .int m_bad, .int m_badAt, .int m_token, .int m_at, .int m_behind, .int m_number, .int m_letters, .long m_word, .ref a_c, .ref a_words, .int m_markMany, .ref a_there, .ref a_tried, .ref a_best, .ref a_found, .int m_thereMany, .int m_foundMany, .int m_orderHow, .int m_orderRing, .int m_orderMany, .int m_hasBest, .long m_bestTop, .long m_bestBy, .ref a_weights, .ref a_shared, .int m_random, .int m_truePlace, .int m_trueWay, .int m_seconds, .int m_done, .int m_feelings, .int m_tries, .int m_leftOver, .int m_playDoor, .int m_playRing, .int m_isOpen, .int m_isOver, .int m_wasTried, .int m_hasPlayed, .ref a_feltNow, .ref a_last, .ref a_kept, .int m_hasSeconds, .int m_hasTurned, .int m_hasRound, .ref a_hasFeels, .ref a_isOn, .int m_firstAct, .long m_meanTop, .long m_meanBy, .ref a_order, .int m_rowMany, .int m_newSteps])), (a_c, .inl (cA.1 0, 1825, .inl g_c)), (a_shared, .inl (cA.1 1, 20, .inr (.inl g_564)))]) [2, 0, 1] rfl
        have hD := hD.sub (ws' := [(h0, .inr (12, [.int m_status, .int m_thrown, .long m_above, .long m_under, .ref a_traySort, .ref a_trayMany, .ref a_numbers, .ref a_tape, .int m_taped, .int m_textEnd, .int m_faultKind, .int m_faultAt, .int m_bad, .int m_badAt, .int m_token, .int m_at, .int m_behind, .int m_number, .int m_letters, .long m_word, .ref a_c, .ref a_words, .int m_markMany, .ref a_there, .ref a_tried, .ref a_best, .ref a_found, .int m_thereMany, .int m_foundMany, .int m_orderHow, .int m_orderRing, .int m_orderMany, .int m_hasBest, .long m_bestTop, .long m_bestBy, .ref a_weights, .ref a_shared, .int m_random, .int m_truePlace, .int m_trueWay, .int m_seconds, .int m_done, .int m_feelings, .int m_tries, .int m_leftOver, .int m_playDoor, .int m_playRing, .int m_isOpen, .int m_isOver, .int m_wasTried, .int m_hasPlayed, .ref a_feltNow, .ref a_last, .ref a_kept, .int m_hasSeconds, .int m_hasTurned, .int m_hasRound, .ref a_hasFeels, .ref a_isOn, .int m_firstAct, .long m_meanTop, .long m_meanBy, .ref a_order, .int m_rowMany, .int m_newSteps])), (a_c, .inl (cA.1 0, 1825, .inl g_c)), (a_shared, .inl (cA.1 1, 20, .inr (.inl g_564)))]) [2, 0, 1] (by decide) rfl
        exact ih_292 x_565 g_564 H locs ls (by omega) (by omega) hP hD hS (lv_sub hl [1, 0] rfl)
  exact hlp_291 _ 0 g_shared _ _ _ (Nat.lt_succ_self _) (by decide +kernel) hP hD hS (lv_sub hl [1, 0] rfl)
set_option maxHeartbeats 4000000 in
set_option maxRecDepth 100000 in
theorem r_goOn (l : Launch) (G : va_G) (cA : zCA) (h0 : Nat) (m_status : Int32) (m_thrown : Int32) (m_above : Int64) (m_under : Int64) (a_traySort : Nat) (a_trayMany : Nat) (a_numbers : Nat) (a_tape : Nat) (m_taped : Int32) (m_textEnd : Int32) (m_faultKind : Int32) (m_faultAt : Int32) (m_bad : Int32) (m_badAt : Int32) (m_token : Int32) (m_at : Int32) (m_behind : Int32) (m_number : Int32) (m_letters : Int32) (m_word : Int64) (a_c : Nat) (a_words : Nat) (m_markMany : Int32) (a_there : Nat) (a_tried : Nat) (a_best : Nat) (a_found : Nat) (m_thereMany : Int32) (m_foundMany : Int32) (m_orderHow : Int32) (m_orderRing : Int32) (m_orderMany : Int32) (m_hasBest : Int32) (m_bestTop : Int64) (m_bestBy : Int64) (a_weights : Nat) (a_shared : Nat) (m_random : Int32) (m_truePlace : Int32) (m_trueWay : Int32) (m_seconds : Int32) (m_done : Int32) (m_feelings : Int32) (m_tries : Int32) (m_leftOver : Int32) (m_playDoor : Int32) (m_playRing : Int32) (m_isOpen : Int32) (m_isOver : Int32) (m_wasTried : Int32) (m_hasPlayed : Int32) (a_feltNow : Nat) (a_last : Nat) (a_kept : Nat) (m_hasSeconds : Int32) (m_hasTurned : Int32) (m_hasRound : Int32) (a_hasFeels : Nat) (a_isOn : Nat) (m_firstAct : Int32) (m_meanTop : Int64) (m_meanBy : Int64) (a_order : Nat) (m_rowMany : Int32) (m_newSteps : Int32) (g_c : Nat → Int32) (g_there : Nat → Int32) (g_shared : Nat → Int64) (hr_m_thereMany : 0 ≤ m_thereMany.toInt ∧ m_thereMany.toInt ≤ 10) (hC_g_c : zC g_c) (hC_g_there : zRg 10 0 9 g_there) : zCi l yX12_goOn cX12_goOn 1 (some .boolean) ({ frames := 2, cells := 0, slots := 0, locals := 43 }) G cA [.ref h0] [(h0, .inr (12, [.int m_status, .int m_thrown, .long m_above, .long m_under, .ref a_traySort, .ref a_trayMany, .ref a_numbers, .ref a_tape, .int m_taped, .int m_textEnd, .int m_faultKind, .int m_faultAt, .int m_bad, .int m_badAt, .int m_token, .int m_at, .int m_behind, .int m_number, .int m_letters, .long m_word, .ref a_c, .ref a_words, .int m_markMany, .ref a_there, .ref a_tried, .ref a_best, .ref a_found, .int m_thereMany, .int m_foundMany, .int m_orderHow, .int m_orderRing, .int m_orderMany, .int m_hasBest, .long m_bestTop, .long m_bestBy, .ref a_weights, .ref a_shared, .int m_random, .int m_truePlace, .int m_trueWay, .int m_seconds, .int m_done, .int m_feelings, .int m_tries, .int m_leftOver, .int m_playDoor, .int m_playRing, .int m_isOpen, .int m_isOver, .int m_wasTried, .int m_hasPlayed, .ref a_feltNow, .ref a_last, .ref a_kept, .int m_hasSeconds, .int m_hasTurned, .int m_hasRound, .ref a_hasFeels, .ref a_isOn, .int m_firstAct, .long m_meanTop, .long m_meanBy, .ref a_order, .int m_rowMany, .int m_newSteps])), (a_c, .inl (cA.1 0, 1825, .inl g_c)), (a_there, .inl (cA.1 0, 10, .inl g_there)), (a_shared, .inl (cA.1 1, 20, .inr (.inl g_shared)))] (S := Int32 × Int32 × Int32 × (Nat → Int32) × (Nat → Int32) × (Nat → Int64)) (fun (r : Int32) (u : Int32 × Int32 × Int32 × (Nat → Int32) × (Nat → Int32) × (Nat → Int64)) => (r = 0 ∧ (0 ≤ u.2.1.toInt ∧ u.2.1.toInt ≤ 0) ∧ (0 ≤ u.2.2.1.toInt ∧ u.2.2.1.toInt ≤ 10) ∧ (zRg 10 0 9 u.2.2.2.1) ∧ (zC u.2.2.2.2.1) ∧ (zHG g_c u.2.2.2.2.1)) ∨ (r = 1 ∧ (0 ≤ u.1.toInt ∧ u.1.toInt ≤ 0) ∧ (0 ≤ u.2.1.toInt ∧ u.2.1.toInt ≤ 0) ∧ (0 ≤ u.2.2.1.toInt ∧ u.2.2.1.toInt ≤ 10) ∧ (zRg 10 0 9 u.2.2.2.1) ∧ (zC u.2.2.2.2.1) ∧ (zHG g_c u.2.2.2.2.1))) (fun (u : Int32 × Int32 × Int32 × (Nat → Int32) × (Nat → Int32) × (Nat → Int64)) => [(h0, .inr (12, [.int u.1, .int u.2.1, .long m_above, .long m_under, .ref a_traySort, .ref a_trayMany, .ref a_numbers, .ref a_tape, .int m_taped, .int m_textEnd, .int m_faultKind, .int m_faultAt, .int m_bad, .int m_badAt, .int m_token, .int m_at, .int m_behind, .int m_number, .int m_letters, .long m_word, .ref a_c, .ref a_words, .int m_markMany, .ref a_there, .ref a_tried, .ref a_best, .ref a_found, .int u.2.2.1, .int m_foundMany, .int m_orderHow, .int m_orderRing, .int m_orderMany, .int m_hasBest, .long m_bestTop, .long m_bestBy, .ref a_weights, .ref a_shared, .int m_random, .int m_truePlace, .int m_trueWay, .int m_seconds, .int m_done, .int m_feelings, .int m_tries, .int m_leftOver, .int m_playDoor, .int m_playRing, .int m_isOpen, .int m_isOver, .int m_wasTried, .int m_hasPlayed, .ref a_feltNow, .ref a_last, .ref a_kept, .int m_hasSeconds, .int m_hasTurned, .int m_hasRound, .ref a_hasFeels, .ref a_isOn, .int m_firstAct, .long m_meanTop, .long m_meanBy, .ref a_order, .int m_rowMany, .int m_newSteps])), (a_c, .inl (cA.1 0, 1825, .inl u.2.2.2.2.1)), (a_there, .inl (cA.1 0, 10, .inl u.2.2.2.1)), (a_shared, .inl (cA.1 1, 20, .inr (.inl u.2.2.2.2.2)))]) 0 0 := by
  have hk_8 : (8 : Int32).toInt = 8 := by decide +kernel
  refine z_start2z (own := RX12) (by decide) (Nat.le_of_ble_eq_true rfl) rfl ?_
  intro p e s m args below meth c A ls Q hx hb hml hts hown hK hE hT hP hD hS hA hl hret
  have hl : lv_has ls 1 [(0, .ref h0)] := hl
  refine lv_aload_n hx hb dX12_goOn_0 rfl (lv_at hl 0 rfl) ?_
  refine lv_iconst (v := 0) hx hb dX12_goOn_1 (by decide) ?_
  refine va_put (D := G) (ci := 12) (v := .int 0) (ty := .int) (C := RX12) (T := TX12) (N := 65) hx hb hts inT12 tyX12 tyX12_ok nmX12 hown hK hP hD hS 0 rfl rfl 1 (by decide) (hts _ tw_1886) (fun _ h9 => h9) rfl (tyX12_ok 1 (by decide)) rfl rfl (Nat.le_of_ble_eq_true rfl) dX12_goOn_2 (fun H locs hP hD hS => ?_)
  refine lv_aload_n hx hb dX12_goOn_5 rfl (lv_at hl 0 rfl) ?_
  refine lv_iconst (v := 0) hx hb dX12_goOn_6 (by decide) ?_
  refine va_put (D := G) (ci := 12) (v := .int 0) (ty := .int) (C := RX12) (T := TX12) (N := 65) hx hb hts inT12 tyX12 tyX12_ok nmX12 hown hK hP hD hS 0 rfl rfl 0 (by decide) (hts _ tw_1885) (fun _ h9 => h9) rfl (tyX12_ok 0 (by decide)) rfl rfl (Nat.le_of_ble_eq_true rfl) dX12_goOn_7 (fun H locs hP hD hS => ?_)
  refine lv_aload_n hx hb dX12_goOn_10 rfl (lv_at hl 0 rfl) ?_
  refine z_callVi (As := []) (rest := []) (wr := [(a_shared, .inl (cA.1 1, 20, .inr (.inl g_shared)))]) ⟨hx, hb, hml, hown, hts⟩ hK hE hT hP hD hS hA (r_isHeld l G cA h0 0 0 m_above m_under a_traySort a_trayMany a_numbers a_tape m_taped m_textEnd m_faultKind m_faultAt m_bad m_badAt m_token m_at m_behind m_number m_letters m_word a_c a_words m_markMany a_there a_tried a_best a_found m_thereMany m_foundMany m_orderHow m_orderRing m_orderMany m_hasBest m_bestTop m_bestBy a_weights a_shared m_random m_truePlace m_trueWay m_seconds m_done m_feelings m_tries m_leftOver m_playDoor m_playRing m_isOpen m_isOver m_wasTried m_hasPlayed a_feltNow a_last a_kept m_hasSeconds m_hasTurned m_hasRound a_hasFeels a_isOn m_firstAct m_meanTop m_meanBy a_order m_rowMany m_newSteps g_c g_there hr_m_thereMany hC_g_c hC_g_there) lk_RX12_323 ⟨rfl, rfl⟩ ⟨Nat.le_of_ble_eq_true rfl, Nat.le_of_ble_eq_true rfl⟩ 12 rfl rfl rfl [0, 1, 2] [3] rfl rfl (by decide) rfl hl.1 rfl (lv_room (Nat.le_of_ble_eq_true rfl)) dX12_goOn_11 ⟨Nat.le_of_ble_eq_true rfl, Nat.le_of_ble_eq_true rfl⟩ (fun r_3 u_4 H locs hw hP hD hS => ?_)
  obtain ⟨n_1, n_2⟩ := u_4
  try dsimp only at hw
  rcases hw with ⟨rfl, hr_n_1, hC_n_2⟩ | ⟨rfl, hr_n_1, hC_n_2⟩
  · skip
    refine lv_if_ne (tgt := 24) hx hb dX12_goOn_14 (by decide) (fun h9 => absurd (by decide +kernel) h9) (fun _ => ?_)
    refine lv_aload_n hx hb dX12_goOn_17 rfl (lv_at hl 0 rfl) ?_
    refine lv_bipush (v := 8) hx hb dX12_goOn_18 (by decide) ?_
    refine z_callVi (As := [.int 8]) (rest := []) (wr := [(a_shared, .inl (cA.1 1, 20, .inr (.inl g_shared))), (a_c, .inl (cA.1 0, 1825, .inl g_c)), (a_there, .inl (cA.1 0, 10, .inl n_2))]) ⟨hx, hb, hml, hown, hts⟩ hK hE hT hP hD hS hA (r_no l G cA h0 0 0 m_above m_under a_traySort a_trayMany a_numbers a_tape m_taped m_textEnd m_faultKind m_faultAt m_bad m_badAt m_token m_at m_behind m_number m_letters m_word a_c a_words m_markMany a_there a_tried a_best a_found n_1 m_foundMany m_orderHow m_orderRing m_orderMany m_hasBest m_bestTop m_bestBy a_weights a_shared m_random m_truePlace m_trueWay m_seconds m_done m_feelings m_tries m_leftOver m_playDoor m_playRing m_isOpen m_isOver m_wasTried m_hasPlayed a_feltNow a_last a_kept m_hasSeconds m_hasTurned m_hasRound a_hasFeels a_isOn m_firstAct m_meanTop m_meanBy a_order m_rowMany m_newSteps 8) lk_RX12_97 ⟨rfl, rfl⟩ ⟨Nat.le_of_ble_eq_true rfl, Nat.le_of_ble_eq_true rfl⟩ 12 rfl rfl rfl [1] [0, 2, 3] rfl rfl (by decide) rfl hl.1 rfl (lv_room (Nat.le_of_ble_eq_true rfl)) dX12_goOn_20 ⟨Nat.le_of_ble_eq_true rfl, Nat.le_of_ble_eq_true rfl⟩ (fun r_6 u_7 H locs hw hP hD hS => ?_)
    obtain ⟨n_5, rfl⟩ : ∃ z, z = u_7 := ⟨_, rfl⟩
    obtain ⟨he_r_6, he_n_5, hw⟩ := hw
    obtain ⟨rfl, -⟩ := hw
    have hpost : ((0 : Int32) = 0 ∧ (0 ≤ (0 : Int32).toInt ∧ (0 : Int32).toInt ≤ 0) ∧ (0 ≤ n_1.toInt ∧ n_1.toInt ≤ 10) ∧ (zRg 10 0 9 n_2) ∧ (zC g_c) ∧ (zHG g_c g_c)) ∨ ((0 : Int32) = 1 ∧ (0 ≤ n_5.toInt ∧ n_5.toInt ≤ 0) ∧ (0 ≤ (0 : Int32).toInt ∧ (0 : Int32).toInt ≤ 0) ∧ (0 ≤ n_1.toInt ∧ n_1.toInt ≤ 10) ∧ (zRg 10 0 9 n_2) ∧ (zC g_c) ∧ (zHG g_c g_c)) := (Or.inl ⟨rfl, ⟨(by decide +kernel), hr_n_1, hC_n_2, hC_g_c, (zHG_refl g_c)⟩⟩)
    exact hret _ _ _ _ _ _ (n_5, 0, n_1, n_2, g_c, g_shared) [3, 1, 2, 0] hP hD hS rfl (by decide) dX12_goOn_23 (Or.inl rfl) hpost
  · skip
    refine lv_if_ne (tgt := 24) hx hb dX12_goOn_14 (by decide) (fun _ => ?_) (fun h9 => absurd h9 (by decide +kernel))
    refine lv_aload_n hx hb dX12_goOn_24 rfl (lv_at hl 0 rfl) ?_
    refine z_callVv (As := []) (rest := []) (wr := [(a_there, .inl (cA.1 0, 10, .inl n_2))]) ⟨hx, hb, hml, hown, hts⟩ hK hE hT hP hD hS hA (r_goAs l G cA h0 0 0 m_above m_under a_traySort a_trayMany a_numbers a_tape m_taped m_textEnd m_faultKind m_faultAt m_bad m_badAt m_token m_at m_behind m_number m_letters m_word a_c a_words m_markMany a_there a_tried a_best a_found n_1 m_foundMany m_orderHow m_orderRing m_orderMany m_hasBest m_bestTop m_bestBy a_weights a_shared m_random m_truePlace m_trueWay m_seconds m_done m_feelings m_tries m_leftOver m_playDoor m_playRing m_isOpen m_isOver m_wasTried m_hasPlayed a_feltNow a_last a_kept m_hasSeconds m_hasTurned m_hasRound a_hasFeels a_isOn m_firstAct m_meanTop m_meanBy a_order m_rowMany m_newSteps g_c g_shared hr_n_1 hC_g_c) lk_RX12_339 ⟨rfl, rfl⟩ ⟨Nat.le_of_ble_eq_true rfl, Nat.le_of_ble_eq_true rfl⟩ 12 rfl rfl rfl [1, 2, 0] [3] rfl rfl (by decide) rfl hl.1 rfl (lv_room (Nat.le_of_ble_eq_true rfl)) dX12_goOn_25 ⟨Nat.le_of_ble_eq_true rfl, Nat.le_of_ble_eq_true rfl⟩ (fun u_11 H locs hw hP hD hS => ?_)
    obtain ⟨n_8, n_9⟩ := u_11
    try dsimp only at hw
    obtain ⟨hC_n_8, hf_12⟩ := hw
    have hs_13 : zHG g_c n_8 := (zHG_trans (zHG_refl g_c) (zHG_PF hf_12))
    refine lv_iconst (v := 1) hx hb dX12_goOn_28 (by decide) ?_
    have hpost : ((1 : Int32) = 0 ∧ (0 ≤ (0 : Int32).toInt ∧ (0 : Int32).toInt ≤ 0) ∧ (0 ≤ n_1.toInt ∧ n_1.toInt ≤ 10) ∧ (zRg 10 0 9 n_2) ∧ (zC n_8) ∧ (zHG g_c n_8)) ∨ ((1 : Int32) = 1 ∧ (0 ≤ (0 : Int32).toInt ∧ (0 : Int32).toInt ≤ 0) ∧ (0 ≤ (0 : Int32).toInt ∧ (0 : Int32).toInt ≤ 0) ∧ (0 ≤ n_1.toInt ∧ n_1.toInt ≤ 10) ∧ (zRg 10 0 9 n_2) ∧ (zC n_8) ∧ (zHG g_c n_8)) := (Or.inr ⟨rfl, ⟨(by decide +kernel), (by decide +kernel), hr_n_1, hC_n_2, hC_n_8, hs_13⟩⟩)
    exact hret _ _ _ _ _ _ (0, 0, n_1, n_2, n_8, n_9) [1, 2, 0, 3] hP hD hS rfl (by decide) dX12_goOn_29 (Or.inr rfl) hpost
set_option maxHeartbeats 4000000 in
set_option maxRecDepth 100000 in
theorem r_turnAs (l : Launch) (G : va_G) (cA : zCA) (h0 : Nat) (m_status : Int32) (m_thrown : Int32) (m_above : Int64) (m_under : Int64) (a_traySort : Nat) (a_trayMany : Nat) (a_numbers : Nat) (a_tape : Nat) (m_taped : Int32) (m_textEnd : Int32) (m_faultKind : Int32) (m_faultAt : Int32) (m_bad : Int32) (m_badAt : Int32) (m_token : Int32) (m_at : Int32) (m_behind : Int32) (m_number : Int32) (m_letters : Int32) (m_word : Int64) (a_c : Nat) (a_words : Nat) (m_markMany : Int32) (a_there : Nat) (a_tried : Nat) (a_best : Nat) (a_found : Nat) (m_thereMany : Int32) (m_foundMany : Int32) (m_orderHow : Int32) (m_orderRing : Int32) (m_orderMany : Int32) (m_hasBest : Int32) (m_bestTop : Int64) (m_bestBy : Int64) (a_weights : Nat) (a_shared : Nat) (m_random : Int32) (m_truePlace : Int32) (m_trueWay : Int32) (m_seconds : Int32) (m_done : Int32) (m_feelings : Int32) (m_tries : Int32) (m_leftOver : Int32) (m_playDoor : Int32) (m_playRing : Int32) (m_isOpen : Int32) (m_isOver : Int32) (m_wasTried : Int32) (m_hasPlayed : Int32) (a_feltNow : Nat) (a_last : Nat) (a_kept : Nat) (m_hasSeconds : Int32) (m_hasTurned : Int32) (m_hasRound : Int32) (a_hasFeels : Nat) (a_isOn : Nat) (m_firstAct : Int32) (m_meanTop : Int64) (m_meanBy : Int64) (a_order : Nat) (m_rowMany : Int32) (m_newSteps : Int32) (g_c : Nat → Int32) (hr_m_thereMany : 0 ≤ m_thereMany.toInt ∧ m_thereMany.toInt ≤ 10) (hC_g_c : zC g_c) : zCv l yX12_turnAs cX12_turnAs 3 none ({ frames := 0, cells := 0, slots := 0, locals := 0 }) G cA [.ref h0] [(h0, .inr (12, [.int m_status, .int m_thrown, .long m_above, .long m_under, .ref a_traySort, .ref a_trayMany, .ref a_numbers, .ref a_tape, .int m_taped, .int m_textEnd, .int m_faultKind, .int m_faultAt, .int m_bad, .int m_badAt, .int m_token, .int m_at, .int m_behind, .int m_number, .int m_letters, .long m_word, .ref a_c, .ref a_words, .int m_markMany, .ref a_there, .ref a_tried, .ref a_best, .ref a_found, .int m_thereMany, .int m_foundMany, .int m_orderHow, .int m_orderRing, .int m_orderMany, .int m_hasBest, .long m_bestTop, .long m_bestBy, .ref a_weights, .ref a_shared, .int m_random, .int m_truePlace, .int m_trueWay, .int m_seconds, .int m_done, .int m_feelings, .int m_tries, .int m_leftOver, .int m_playDoor, .int m_playRing, .int m_isOpen, .int m_isOver, .int m_wasTried, .int m_hasPlayed, .ref a_feltNow, .ref a_last, .ref a_kept, .int m_hasSeconds, .int m_hasTurned, .int m_hasRound, .ref a_hasFeels, .ref a_isOn, .int m_firstAct, .long m_meanTop, .long m_meanBy, .ref a_order, .int m_rowMany, .int m_newSteps])), (a_c, .inl (cA.1 0, 1825, .inl g_c))] (S := (Nat → Int32)) (fun (u : (Nat → Int32)) => (zC u) ∧ (zPF g_c u)) (fun (u : (Nat → Int32)) => [(h0, .inr (12, [.int m_status, .int m_thrown, .long m_above, .long m_under, .ref a_traySort, .ref a_trayMany, .ref a_numbers, .ref a_tape, .int m_taped, .int m_textEnd, .int m_faultKind, .int m_faultAt, .int m_bad, .int m_badAt, .int m_token, .int m_at, .int m_behind, .int m_number, .int m_letters, .long m_word, .ref a_c, .ref a_words, .int m_markMany, .ref a_there, .ref a_tried, .ref a_best, .ref a_found, .int m_thereMany, .int m_foundMany, .int m_orderHow, .int m_orderRing, .int m_orderMany, .int m_hasBest, .long m_bestTop, .long m_bestBy, .ref a_weights, .ref a_shared, .int m_random, .int m_truePlace, .int m_trueWay, .int m_seconds, .int m_done, .int m_feelings, .int m_tries, .int m_leftOver, .int m_playDoor, .int m_playRing, .int m_isOpen, .int m_isOver, .int m_wasTried, .int m_hasPlayed, .ref a_feltNow, .ref a_last, .ref a_kept, .int m_hasSeconds, .int m_hasTurned, .int m_hasRound, .ref a_hasFeels, .ref a_isOn, .int m_firstAct, .long m_meanTop, .long m_meanBy, .ref a_order, .int m_rowMany, .int m_newSteps])), (a_c, .inl (cA.1 0, 1825, .inl u))]) 0 0 := by
  have hk_0 : (0 : Int32).toInt = 0 := by decide +kernel
  have hk_1 : (1 : Int32).toInt = 1 := by decide +kernel
  have hk_2 : (2 : Int32).toInt = 2 := by decide +kernel
  have hk_160 : (160 : Int32).toInt = 160 := by decide +kernel
  refine z_start2v (own := RX12) (by decide) (Nat.le_of_ble_eq_true rfl) rfl ?_
  intro p e s m args below meth c A ls Q hx hb hml hts hown hK hE hT hP hD hS hA hl hret
  have hl : lv_has ls 3 [(0, .ref h0)] := hl
  refine lv_iconst (v := 0) hx hb dX12_turnAs_0 (by decide) ?_
  refine lv_istore_n (lv' := [(1, .int 0), (0, .ref h0)]) hx hb dX12_turnAs_1 rfl hl (by decide) rfl (fun ls hl => ?_)
  have hlp_233 : ∀ (n : Nat) (v_211 : Int32) (g_212 : Nat → Int32) (H : Heap) (locs : List Loc) (ls : Array Slot), (2147483647 - v_211.toInt).toNat < n → (0 ≤ v_211.toInt ∧ v_211.toInt ≤ 20) → (zC g_212) → (zPF g_c g_212) → (v_211.toInt % 2 = 0) → va_P G vwCl [(h0, .inr (12, [.int m_status, .int m_thrown, .long m_above, .long m_under, .ref a_traySort, .ref a_trayMany, .ref a_numbers, .ref a_tape, .int m_taped, .int m_textEnd, .int m_faultKind, .int m_faultAt, .int m_bad, .int m_badAt, .int m_token, .int m_at, .int m_behind, .int m_number, .int m_letters, .long m_word, .ref a_c, .ref a_words, .int m_markMany, .ref a_there, .ref a_tried, .ref a_best, .ref a_found, .int m_thereMany, .int m_foundMany, .int m_orderHow, .int m_orderRing, .int m_orderMany, .int m_hasBest, .long m_bestTop, .long m_bestBy, .ref a_weights, .ref a_shared, .int m_random, .int m_truePlace, .int m_trueWay, .int m_seconds, .int m_done, .int m_feelings, .int m_tries, .int m_leftOver, .int m_playDoor, .int m_playRing, .int m_isOpen, .int m_isOver, .int m_wasTried, .int m_hasPlayed, .ref a_feltNow, .ref a_last, .ref a_kept, .int m_hasSeconds, .int m_hasTurned, .int m_hasRound, .ref a_hasFeels, .ref a_isOn, .int m_firstAct, .long m_meanTop, .long m_meanBy, .ref a_order, .int m_rowMany, .int m_newSteps])), (a_c, .inl (cA.1 0, 1825, .inl g_212))] H → va_D A [(h0, .inr (12, [.int m_status, .int m_thrown, .long m_above, .long m_under, .ref a_traySort, .ref a_trayMany, .ref a_numbers, .ref a_tape, .int m_taped, .int m_textEnd, .int m_faultKind, .int m_faultAt, .int m_bad, .int m_badAt, .int m_token, .int m_at, .int m_behind, .int m_number, .int m_letters, .long m_word, .ref a_c, .ref a_words, .int m_markMany, .ref a_there, .ref a_tried, .ref a_best, .ref a_found, .int m_thereMany, .int m_foundMany, .int m_orderHow, .int m_orderRing, .int m_orderMany, .int m_hasBest, .long m_bestTop, .long m_bestBy, .ref a_weights, .ref a_shared, .int m_random, .int m_truePlace, .int m_trueWay, .int m_seconds, .int m_done, .int m_feelings, .int m_tries, .int m_leftOver, .int m_playDoor, .int m_playRing, .int m_isOpen, .int m_isOver, .int m_wasTried, .int m_hasPlayed, .ref a_feltNow, .ref a_last, .ref a_kept, .int m_hasSeconds, .int m_hasTurned, .int m_hasRound, .ref a_hasFeels, .ref a_isOn, .int m_firstAct, .long m_meanTop, .long m_meanBy, .ref a_order, .int m_rowMany, .int m_newSteps])), (a_c, .inl (cA.1 0, 1825, .inl g_212))] → va_S A s.heap H locs → lv_has ls 3 [(0, .ref h0), (1, .int v_211)] → W p l e ({ frames := 0, cells := 0, slots := 0, locals := 0 }) s m args below meth c H locs 0 0 Q (F0 m 2 ls []) := by
    intro n
    induction n with
    | zero =>
      intro v_211 g_212 H locs ls hmu_hlp_233 hr_v_211 hC_g_212 hs_231 hi_232 hP hD hS hl
      exact absurd hmu_hlp_233 (Nat.not_lt_zero _)
    | succ n ih_234 =>
      intro v_211 g_212 H locs ls hmu_hlp_233 hr_v_211 hC_g_212 hs_231 hi_232 hP hD hS hl
      refine lv_iload_n hx hb dX12_turnAs_2 rfl (lv_at hl 1 rfl) ?_
      refine lv_iconst (v := 2) hx hb dX12_turnAs_3 (by decide) ?_
      refine lv_aload_n hx hb dX12_turnAs_4 rfl (lv_at hl 0 rfl) ?_
      refine va_get (D := G) (ci := 12) (v := .int m_thereMany) (C := RX12) (T := TX12) (N := 65) hx hb hts inT12 hown hK hP 0 rfl rfl 27 (by decide) (hts _ tw_1912) (fun _ h9 => h9) rfl dX12_turnAs_5 ?_
      refine lv_imul hx hb dX12_turnAs_8 ?_
      refine lv_topi (fun x_235 he_x_235 => ?_)
      have hq_x_235 := z_mulq he_x_235 hk_2 (rfl : m_thereMany.toInt = _) (by omega) (by omega)
      refine lv_icmp_ge (tgt := 64) hx hb dX12_turnAs_9 (by decide) (fun c_236 => ?_) (fun c_236 => ?_)
      · have b_237 := z_fgeT c_236
        have hpost : (zC g_212) ∧ (zPF g_c g_212) := ⟨hC_g_212, hs_231⟩
        exact hret _ _ _ _ _ g_212 [0, 1] hP hD hS rfl (by decide) dX12_turnAs_64 hpost
      · have b_238 := z_fltF c_236
        refine lv_aload_n hx hb dX12_turnAs_12 rfl (lv_at hl 0 rfl) ?_
        have hn_k_239 : 0 ≤ v_211.toInt ∧ v_211.toInt ≤ 18 := by omega
        refine va_get (D := G) (ci := 12) (v := .ref a_c) (C := RX12) (T := TX12) (N := 65) hx hb hts inT12 hown hK hP 0 rfl rfl 20 (by decide) (hts _ tw_1905) (fun _ h9 => h9) rfl dX12_turnAs_13 ?_
        refine lv_sipush (v := 160) hx hb dX12_turnAs_16 (by decide) ?_
        refine lv_iload_n hx hb dX12_turnAs_19 rfl (lv_at hl 1 rfl) ?_
        refine lv_iadd hx hb dX12_turnAs_20 ?_
        refine lv_topi (fun x_240 he_x_240 => ?_)
        have hq_x_240 := z_addq he_x_240 hk_160 (rfl : v_211.toInt = _) (by omega) (by omega)
        refine va_iald hx hb hK hP 1 0 rfl rfl (z_inN (by omega) (by omega)) dX12_turnAs_21 ?_
        refine lv_topi (fun x_241 he_x_241 => ?_)
        refine lv_istore_n (lv' := [(2, .int x_241), (0, .ref h0), (1, .int v_211)]) hx hb dX12_turnAs_22 rfl hl (by decide) rfl (fun ls hl => ?_)
        refine lv_aload_n hx hb dX12_turnAs_23 rfl (lv_at hl 1 rfl) ?_
        refine va_get (D := G) (ci := 12) (v := .ref a_c) (C := RX12) (T := TX12) (N := 65) hx hb hts inT12 hown hK hP 0 rfl rfl 20 (by decide) (hts _ tw_1905) (fun _ h9 => h9) rfl dX12_turnAs_24 ?_
        refine lv_sipush (v := 160) hx hb dX12_turnAs_27 (by decide) ?_
        refine lv_iload_n hx hb dX12_turnAs_30 rfl (lv_at hl 2 rfl) ?_
        refine lv_iadd hx hb dX12_turnAs_31 ?_
        refine lv_topi (fun x_242 he_x_242 => ?_)
        have hq_x_242 := z_addq he_x_242 hk_160 (rfl : v_211.toInt = _) (by omega) (by omega)
        refine lv_aload_n hx hb dX12_turnAs_32 rfl (lv_at hl 1 rfl) ?_
        refine va_get (D := G) (ci := 12) (v := .ref a_c) (C := RX12) (T := TX12) (N := 65) hx hb hts inT12 hown hK hP 0 rfl rfl 20 (by decide) (hts _ tw_1905) (fun _ h9 => h9) rfl dX12_turnAs_33 ?_
        refine lv_sipush (v := 160) hx hb dX12_turnAs_36 (by decide) ?_
        refine lv_iload_n hx hb dX12_turnAs_39 rfl (lv_at hl 2 rfl) ?_
        refine lv_iadd hx hb dX12_turnAs_40 ?_
        refine lv_topi (fun x_243 he_x_243 => ?_)
        have hq_x_243 := z_addq he_x_243 hk_160 (rfl : v_211.toInt = _) (by omega) (by omega)
        refine lv_iconst (v := 1) hx hb dX12_turnAs_41 (by decide) ?_
        refine lv_iadd hx hb dX12_turnAs_42 ?_
        refine lv_topi (fun x_244 he_x_244 => ?_)
        have hq_x_244 := z_addq he_x_244 (rfl : x_243.toInt = _) hk_1 (by omega) (by omega)
        refine va_iald hx hb hK hP 1 0 rfl rfl (z_inN (by omega) (by omega)) dX12_turnAs_43 ?_
        refine lv_topi (fun x_245 he_x_245 => ?_)
        refine z_iast hx hb hK hP hD hS 1 0 rfl rfl (z_inN (by omega) (by omega)) dX12_turnAs_44 (fun g_246 hg_g_246 H locs hP hD hS => ?_)
        have hC_g_246 := z_ctU hC_g_212 hg_g_246 (a := 160) (b := 178) (lo := (-2147483648)) (hi := 2147483647) (by decide +kernel) (by decide +kernel) (by omega) (by omega) (z_full _)
        have hs_247 : zPF g_c g_246 := (zPF_upd hs_231 hg_g_246 (by omega) (by omega))
        refine lv_aload_n hx hb dX12_turnAs_45 rfl (lv_at hl 1 rfl) ?_
        refine va_get (D := G) (ci := 12) (v := .ref a_c) (C := RX12) (T := TX12) (N := 65) hx hb hts inT12 hown hK hP 0 rfl rfl 20 (by decide) (hts _ tw_1905) (fun _ h9 => h9) rfl dX12_turnAs_46 ?_
        refine lv_sipush (v := 160) hx hb dX12_turnAs_49 (by decide) ?_
        refine lv_iload_n hx hb dX12_turnAs_52 rfl (lv_at hl 2 rfl) ?_
        refine lv_iadd hx hb dX12_turnAs_53 ?_
        refine lv_topi (fun x_248 he_x_248 => ?_)
        have hq_x_248 := z_addq he_x_248 hk_160 (rfl : v_211.toInt = _) (by omega) (by omega)
        refine lv_iconst (v := 1) hx hb dX12_turnAs_54 (by decide) ?_
        refine lv_iadd hx hb dX12_turnAs_55 ?_
        refine lv_topi (fun x_249 he_x_249 => ?_)
        have hq_x_249 := z_addq he_x_249 (rfl : x_248.toInt = _) hk_1 (by omega) (by omega)
        refine lv_iload_n hx hb dX12_turnAs_56 rfl (lv_at hl 0 rfl) ?_
        refine z_iast hx hb hK hP hD hS 1 0 rfl rfl (z_inN (by omega) (by omega)) dX12_turnAs_57 (fun g_250 hg_g_250 H locs hP hD hS => ?_)
        have hC_g_250 := z_ctU hC_g_246 hg_g_250 (a := 161) (b := 179) (lo := (-2147483648)) (hi := 2147483647) (by decide +kernel) (by decide +kernel) (by omega) (by omega) (z_full _)
        have hs_251 : zPF g_c g_250 := (zPF_upd hs_247 hg_g_250 (by omega) (by omega))
        obtain ⟨x_252, he_x_252⟩ : ∃ z : Int32, z = v_211 + 2 := ⟨_, rfl⟩
        have hq_x_252 := z_addq he_x_252 (rfl : v_211.toInt = _) hk_2 (by omega) (by omega)
        refine lv_iinc (v := x_252) (lv' := [(1, .int x_252), (2, .int x_241), (0, .ref h0)]) hx hb dX12_turnAs_58 hl (k := 2) rfl ((z_ofi (by decide +kernel)).trans he_x_252.symm) (by decide) rfl (fun ls hl => ?_)
        refine lv_goto (tgt := 2) hx hb dX12_turnAs_61 (by decide) ?_
        exact ih_234 x_252 g_250 H locs ls (by omega) (by omega) hC_g_250 hs_251 (by omega) hP hD hS (lv_sub hl [2, 0] rfl)
  exact hlp_233 _ 0 g_c _ _ _ (Nat.lt_succ_self _) (by decide +kernel) hC_g_c (zPF_refl g_c) (by omega) hP hD hS (lv_sub hl [1, 0] rfl)
set_option maxHeartbeats 4000000 in
set_option maxRecDepth 100000 in
theorem r_turn (l : Launch) (G : va_G) (cA : zCA) (h0 : Nat) (m_status : Int32) (m_thrown : Int32) (m_above : Int64) (m_under : Int64) (a_traySort : Nat) (a_trayMany : Nat) (a_numbers : Nat) (a_tape : Nat) (m_taped : Int32) (m_textEnd : Int32) (m_faultKind : Int32) (m_faultAt : Int32) (m_bad : Int32) (m_badAt : Int32) (m_token : Int32) (m_at : Int32) (m_behind : Int32) (m_number : Int32) (m_letters : Int32) (m_word : Int64) (a_c : Nat) (a_words : Nat) (m_markMany : Int32) (a_there : Nat) (a_tried : Nat) (a_best : Nat) (a_found : Nat) (m_thereMany : Int32) (m_foundMany : Int32) (m_orderHow : Int32) (m_orderRing : Int32) (m_orderMany : Int32) (m_hasBest : Int32) (m_bestTop : Int64) (m_bestBy : Int64) (a_weights : Nat) (a_shared : Nat) (m_random : Int32) (m_truePlace : Int32) (m_trueWay : Int32) (m_seconds : Int32) (m_done : Int32) (m_feelings : Int32) (m_tries : Int32) (m_leftOver : Int32) (m_playDoor : Int32) (m_playRing : Int32) (m_isOpen : Int32) (m_isOver : Int32) (m_wasTried : Int32) (m_hasPlayed : Int32) (a_feltNow : Nat) (a_last : Nat) (a_kept : Nat) (m_hasSeconds : Int32) (m_hasTurned : Int32) (m_hasRound : Int32) (a_hasFeels : Nat) (a_isOn : Nat) (m_firstAct : Int32) (m_meanTop : Int64) (m_meanBy : Int64) (a_order : Nat) (m_rowMany : Int32) (m_newSteps : Int32) (g_c : Nat → Int32) (g_there : Nat → Int32) (hr_m_thereMany : 0 ≤ m_thereMany.toInt ∧ m_thereMany.toInt ≤ 10) (hC_g_c : zC g_c) (hC_g_there : zRg 10 0 9 g_there) : zCi l yX12_turn cX12_turn 1 (some .boolean) ({ frames := 2, cells := 0, slots := 0, locals := 43 }) G cA [.ref h0] [(h0, .inr (12, [.int m_status, .int m_thrown, .long m_above, .long m_under, .ref a_traySort, .ref a_trayMany, .ref a_numbers, .ref a_tape, .int m_taped, .int m_textEnd, .int m_faultKind, .int m_faultAt, .int m_bad, .int m_badAt, .int m_token, .int m_at, .int m_behind, .int m_number, .int m_letters, .long m_word, .ref a_c, .ref a_words, .int m_markMany, .ref a_there, .ref a_tried, .ref a_best, .ref a_found, .int m_thereMany, .int m_foundMany, .int m_orderHow, .int m_orderRing, .int m_orderMany, .int m_hasBest, .long m_bestTop, .long m_bestBy, .ref a_weights, .ref a_shared, .int m_random, .int m_truePlace, .int m_trueWay, .int m_seconds, .int m_done, .int m_feelings, .int m_tries, .int m_leftOver, .int m_playDoor, .int m_playRing, .int m_isOpen, .int m_isOver, .int m_wasTried, .int m_hasPlayed, .ref a_feltNow, .ref a_last, .ref a_kept, .int m_hasSeconds, .int m_hasTurned, .int m_hasRound, .ref a_hasFeels, .ref a_isOn, .int m_firstAct, .long m_meanTop, .long m_meanBy, .ref a_order, .int m_rowMany, .int m_newSteps])), (a_c, .inl (cA.1 0, 1825, .inl g_c)), (a_there, .inl (cA.1 0, 10, .inl g_there))] (S := Int32 × Int32 × Int32 × (Nat → Int32) × (Nat → Int32)) (fun (r : Int32) (u : Int32 × Int32 × Int32 × (Nat → Int32) × (Nat → Int32)) => (r = 0 ∧ (0 ≤ u.2.1.toInt ∧ u.2.1.toInt ≤ 0) ∧ (0 ≤ u.2.2.1.toInt ∧ u.2.2.1.toInt ≤ 10) ∧ (zRg 10 0 9 u.2.2.2.1) ∧ (zC u.2.2.2.2) ∧ (zHG g_c u.2.2.2.2)) ∨ (r = 1 ∧ (0 ≤ u.1.toInt ∧ u.1.toInt ≤ 0) ∧ (0 ≤ u.2.1.toInt ∧ u.2.1.toInt ≤ 0) ∧ (0 ≤ u.2.2.1.toInt ∧ u.2.2.1.toInt ≤ 10) ∧ (zRg 10 0 9 u.2.2.2.1) ∧ (zC u.2.2.2.2) ∧ (zHG g_c u.2.2.2.2))) (fun (u : Int32 × Int32 × Int32 × (Nat → Int32) × (Nat → Int32)) => [(h0, .inr (12, [.int u.1, .int u.2.1, .long m_above, .long m_under, .ref a_traySort, .ref a_trayMany, .ref a_numbers, .ref a_tape, .int m_taped, .int m_textEnd, .int m_faultKind, .int m_faultAt, .int m_bad, .int m_badAt, .int m_token, .int m_at, .int m_behind, .int m_number, .int m_letters, .long m_word, .ref a_c, .ref a_words, .int m_markMany, .ref a_there, .ref a_tried, .ref a_best, .ref a_found, .int u.2.2.1, .int m_foundMany, .int m_orderHow, .int m_orderRing, .int m_orderMany, .int m_hasBest, .long m_bestTop, .long m_bestBy, .ref a_weights, .ref a_shared, .int m_random, .int m_truePlace, .int m_trueWay, .int m_seconds, .int m_done, .int m_feelings, .int m_tries, .int m_leftOver, .int m_playDoor, .int m_playRing, .int m_isOpen, .int m_isOver, .int m_wasTried, .int m_hasPlayed, .ref a_feltNow, .ref a_last, .ref a_kept, .int m_hasSeconds, .int m_hasTurned, .int m_hasRound, .ref a_hasFeels, .ref a_isOn, .int m_firstAct, .long m_meanTop, .long m_meanBy, .ref a_order, .int m_rowMany, .int m_newSteps])), (a_c, .inl (cA.1 0, 1825, .inl u.2.2.2.2)), (a_there, .inl (cA.1 0, 10, .inl u.2.2.2.1))]) 0 0 := by
  have hk_8 : (8 : Int32).toInt = 8 := by decide +kernel
  refine z_start2z (own := RX12) (by decide) (Nat.le_of_ble_eq_true rfl) rfl ?_
  intro p e s m args below meth c A ls Q hx hb hml hts hown hK hE hT hP hD hS hA hl hret
  have hl : lv_has ls 1 [(0, .ref h0)] := hl
  refine lv_aload_n hx hb dX12_turn_0 rfl (lv_at hl 0 rfl) ?_
  refine lv_iconst (v := 0) hx hb dX12_turn_1 (by decide) ?_
  refine va_put (D := G) (ci := 12) (v := .int 0) (ty := .int) (C := RX12) (T := TX12) (N := 65) hx hb hts inT12 tyX12 tyX12_ok nmX12 hown hK hP hD hS 0 rfl rfl 1 (by decide) (hts _ tw_1886) (fun _ h9 => h9) rfl (tyX12_ok 1 (by decide)) rfl rfl (Nat.le_of_ble_eq_true rfl) dX12_turn_2 (fun H locs hP hD hS => ?_)
  refine lv_aload_n hx hb dX12_turn_5 rfl (lv_at hl 0 rfl) ?_
  refine lv_iconst (v := 0) hx hb dX12_turn_6 (by decide) ?_
  refine va_put (D := G) (ci := 12) (v := .int 0) (ty := .int) (C := RX12) (T := TX12) (N := 65) hx hb hts inT12 tyX12 tyX12_ok nmX12 hown hK hP hD hS 0 rfl rfl 0 (by decide) (hts _ tw_1885) (fun _ h9 => h9) rfl (tyX12_ok 0 (by decide)) rfl rfl (Nat.le_of_ble_eq_true rfl) dX12_turn_7 (fun H locs hP hD hS => ?_)
  refine lv_aload_n hx hb dX12_turn_10 rfl (lv_at hl 0 rfl) ?_
  refine z_callVi (As := []) (rest := []) (wr := []) ⟨hx, hb, hml, hown, hts⟩ hK hE hT hP hD hS hA (r_isHeld l G cA h0 0 0 m_above m_under a_traySort a_trayMany a_numbers a_tape m_taped m_textEnd m_faultKind m_faultAt m_bad m_badAt m_token m_at m_behind m_number m_letters m_word a_c a_words m_markMany a_there a_tried a_best a_found m_thereMany m_foundMany m_orderHow m_orderRing m_orderMany m_hasBest m_bestTop m_bestBy a_weights a_shared m_random m_truePlace m_trueWay m_seconds m_done m_feelings m_tries m_leftOver m_playDoor m_playRing m_isOpen m_isOver m_wasTried m_hasPlayed a_feltNow a_last a_kept m_hasSeconds m_hasTurned m_hasRound a_hasFeels a_isOn m_firstAct m_meanTop m_meanBy a_order m_rowMany m_newSteps g_c g_there hr_m_thereMany hC_g_c hC_g_there) lk_RX12_323 ⟨rfl, rfl⟩ ⟨Nat.le_of_ble_eq_true rfl, Nat.le_of_ble_eq_true rfl⟩ 12 rfl rfl rfl [0, 1, 2] [] rfl rfl (by decide) rfl hl.1 rfl (lv_room (Nat.le_of_ble_eq_true rfl)) dX12_turn_11 ⟨Nat.le_of_ble_eq_true rfl, Nat.le_of_ble_eq_true rfl⟩ (fun r_3 u_4 H locs hw hP hD hS => ?_)
  obtain ⟨n_1, n_2⟩ := u_4
  try dsimp only at hw
  rcases hw with ⟨rfl, hr_n_1, hC_n_2⟩ | ⟨rfl, hr_n_1, hC_n_2⟩
  · skip
    refine lv_if_ne (tgt := 24) hx hb dX12_turn_14 (by decide) (fun h9 => absurd (by decide +kernel) h9) (fun _ => ?_)
    refine lv_aload_n hx hb dX12_turn_17 rfl (lv_at hl 0 rfl) ?_
    refine lv_bipush (v := 8) hx hb dX12_turn_18 (by decide) ?_
    refine z_callVi (As := [.int 8]) (rest := []) (wr := [(a_c, .inl (cA.1 0, 1825, .inl g_c)), (a_there, .inl (cA.1 0, 10, .inl n_2))]) ⟨hx, hb, hml, hown, hts⟩ hK hE hT hP hD hS hA (r_no l G cA h0 0 0 m_above m_under a_traySort a_trayMany a_numbers a_tape m_taped m_textEnd m_faultKind m_faultAt m_bad m_badAt m_token m_at m_behind m_number m_letters m_word a_c a_words m_markMany a_there a_tried a_best a_found n_1 m_foundMany m_orderHow m_orderRing m_orderMany m_hasBest m_bestTop m_bestBy a_weights a_shared m_random m_truePlace m_trueWay m_seconds m_done m_feelings m_tries m_leftOver m_playDoor m_playRing m_isOpen m_isOver m_wasTried m_hasPlayed a_feltNow a_last a_kept m_hasSeconds m_hasTurned m_hasRound a_hasFeels a_isOn m_firstAct m_meanTop m_meanBy a_order m_rowMany m_newSteps 8) lk_RX12_97 ⟨rfl, rfl⟩ ⟨Nat.le_of_ble_eq_true rfl, Nat.le_of_ble_eq_true rfl⟩ 12 rfl rfl rfl [0] [1, 2] rfl rfl (by decide) rfl hl.1 rfl (lv_room (Nat.le_of_ble_eq_true rfl)) dX12_turn_20 ⟨Nat.le_of_ble_eq_true rfl, Nat.le_of_ble_eq_true rfl⟩ (fun r_6 u_7 H locs hw hP hD hS => ?_)
    obtain ⟨n_5, rfl⟩ : ∃ z, z = u_7 := ⟨_, rfl⟩
    obtain ⟨he_r_6, he_n_5, hw⟩ := hw
    obtain ⟨rfl, -⟩ := hw
    have hpost : ((0 : Int32) = 0 ∧ (0 ≤ (0 : Int32).toInt ∧ (0 : Int32).toInt ≤ 0) ∧ (0 ≤ n_1.toInt ∧ n_1.toInt ≤ 10) ∧ (zRg 10 0 9 n_2) ∧ (zC g_c) ∧ (zHG g_c g_c)) ∨ ((0 : Int32) = 1 ∧ (0 ≤ n_5.toInt ∧ n_5.toInt ≤ 0) ∧ (0 ≤ (0 : Int32).toInt ∧ (0 : Int32).toInt ≤ 0) ∧ (0 ≤ n_1.toInt ∧ n_1.toInt ≤ 10) ∧ (zRg 10 0 9 n_2) ∧ (zC g_c) ∧ (zHG g_c g_c)) := (Or.inl ⟨rfl, ⟨(by decide +kernel), hr_n_1, hC_n_2, hC_g_c, (zHG_refl g_c)⟩⟩)
    exact hret _ _ _ _ _ _ (n_5, 0, n_1, n_2, g_c) [2, 0, 1] hP hD hS rfl (by decide) dX12_turn_23 (Or.inl rfl) hpost
  · skip
    refine lv_if_ne (tgt := 24) hx hb dX12_turn_14 (by decide) (fun _ => ?_) (fun h9 => absurd h9 (by decide +kernel))
    refine lv_aload_n hx hb dX12_turn_24 rfl (lv_at hl 0 rfl) ?_
    refine z_callVv (As := []) (rest := []) (wr := [(a_there, .inl (cA.1 0, 10, .inl n_2))]) ⟨hx, hb, hml, hown, hts⟩ hK hE hT hP hD hS hA (r_turnAs l G cA h0 0 0 m_above m_under a_traySort a_trayMany a_numbers a_tape m_taped m_textEnd m_faultKind m_faultAt m_bad m_badAt m_token m_at m_behind m_number m_letters m_word a_c a_words m_markMany a_there a_tried a_best a_found n_1 m_foundMany m_orderHow m_orderRing m_orderMany m_hasBest m_bestTop m_bestBy a_weights a_shared m_random m_truePlace m_trueWay m_seconds m_done m_feelings m_tries m_leftOver m_playDoor m_playRing m_isOpen m_isOver m_wasTried m_hasPlayed a_feltNow a_last a_kept m_hasSeconds m_hasTurned m_hasRound a_hasFeels a_isOn m_firstAct m_meanTop m_meanBy a_order m_rowMany m_newSteps g_c hr_n_1 hC_g_c) lk_RX12_342 ⟨rfl, rfl⟩ ⟨Nat.le_of_ble_eq_true rfl, Nat.le_of_ble_eq_true rfl⟩ 12 rfl rfl rfl [0, 1] [2] rfl rfl (by decide) rfl hl.1 rfl (lv_room (Nat.le_of_ble_eq_true rfl)) dX12_turn_25 ⟨Nat.le_of_ble_eq_true rfl, Nat.le_of_ble_eq_true rfl⟩ (fun u_10 H locs hw hP hD hS => ?_)
    obtain ⟨n_8, rfl⟩ : ∃ z, z = u_10 := ⟨_, rfl⟩
    obtain ⟨hC_n_8, hf_11⟩ := hw
    have hs_12 : zHG g_c n_8 := (zHG_trans (zHG_refl g_c) (zHG_PF hf_11))
    refine lv_iconst (v := 1) hx hb dX12_turn_28 (by decide) ?_
    have hpost : ((1 : Int32) = 0 ∧ (0 ≤ (0 : Int32).toInt ∧ (0 : Int32).toInt ≤ 0) ∧ (0 ≤ n_1.toInt ∧ n_1.toInt ≤ 10) ∧ (zRg 10 0 9 n_2) ∧ (zC n_8) ∧ (zHG g_c n_8)) ∨ ((1 : Int32) = 1 ∧ (0 ≤ (0 : Int32).toInt ∧ (0 : Int32).toInt ≤ 0) ∧ (0 ≤ (0 : Int32).toInt ∧ (0 : Int32).toInt ≤ 0) ∧ (0 ≤ n_1.toInt ∧ n_1.toInt ≤ 10) ∧ (zRg 10 0 9 n_2) ∧ (zC n_8) ∧ (zHG g_c n_8)) := (Or.inr ⟨rfl, ⟨(by decide +kernel), (by decide +kernel), hr_n_1, hC_n_2, hC_n_8, hs_12⟩⟩)
    exact hret _ _ _ _ _ _ (0, 0, n_1, n_2, n_8) [1, 2, 0] hP hD hS rfl (by decide) dX12_turn_29 (Or.inr rfl) hpost
set_option maxHeartbeats 4000000 in
set_option maxRecDepth 100000 in
theorem r_tryAs (l : Launch) (G : va_G) (cA : zCA) (h0 : Nat) (m_status : Int32) (m_thrown : Int32) (m_above : Int64) (m_under : Int64) (a_traySort : Nat) (a_trayMany : Nat) (a_numbers : Nat) (a_tape : Nat) (m_taped : Int32) (m_textEnd : Int32) (m_faultKind : Int32) (m_faultAt : Int32) (m_bad : Int32) (m_badAt : Int32) (m_token : Int32) (m_at : Int32) (m_behind : Int32) (m_number : Int32) (m_letters : Int32) (m_word : Int64) (a_c : Nat) (a_words : Nat) (m_markMany : Int32) (a_there : Nat) (a_tried : Nat) (a_best : Nat) (a_found : Nat) (m_thereMany : Int32) (m_foundMany : Int32) (m_orderHow : Int32) (m_orderRing : Int32) (m_orderMany : Int32) (m_hasBest : Int32) (m_bestTop : Int64) (m_bestBy : Int64) (a_weights : Nat) (a_shared : Nat) (m_random : Int32) (m_truePlace : Int32) (m_trueWay : Int32) (m_seconds : Int32) (m_done : Int32) (m_feelings : Int32) (m_tries : Int32) (m_leftOver : Int32) (m_playDoor : Int32) (m_playRing : Int32) (m_isOpen : Int32) (m_isOver : Int32) (m_wasTried : Int32) (m_hasPlayed : Int32) (a_feltNow : Nat) (a_last : Nat) (a_kept : Nat) (m_hasSeconds : Int32) (m_hasTurned : Int32) (m_hasRound : Int32) (a_hasFeels : Nat) (a_isOn : Nat) (m_firstAct : Int32) (m_meanTop : Int64) (m_meanBy : Int64) (a_order : Nat) (m_rowMany : Int32) (m_newSteps : Int32) (g_c : Nat → Int32) (g_there : Nat → Int32) (g_shared : Nat → Int64) (d : Int32) (o : Int32) (hr_d : 0 ≤ d.toInt ∧ d.toInt ≤ 4) (hr_o : 0 ≤ o.toInt ∧ o.toInt ≤ 1) (hz_o : o = 0 ∨ o = 1) (hr_m_thereMany : 0 ≤ m_thereMany.toInt ∧ m_thereMany.toInt ≤ 10) (hC_g_c : zC g_c) (hC_g_there : zRg 10 0 9 g_there) : zCi l yX12_tryAs cX12_tryAs 4 (some .boolean) ({ frames := 1, cells := 0, slots := 0, locals := 26 }) G cA [.ref h0, .int d, .int o] [(h0, .inr (12, [.int m_status, .int m_thrown, .long m_above, .long m_under, .ref a_traySort, .ref a_trayMany, .ref a_numbers, .ref a_tape, .int m_taped, .int m_textEnd, .int m_faultKind, .int m_faultAt, .int m_bad, .int m_badAt, .int m_token, .int m_at, .int m_behind, .int m_number, .int m_letters, .long m_word, .ref a_c, .ref a_words, .int m_markMany, .ref a_there, .ref a_tried, .ref a_best, .ref a_found, .int m_thereMany, .int m_foundMany, .int m_orderHow, .int m_orderRing, .int m_orderMany, .int m_hasBest, .long m_bestTop, .long m_bestBy, .ref a_weights, .ref a_shared, .int m_random, .int m_truePlace, .int m_trueWay, .int m_seconds, .int m_done, .int m_feelings, .int m_tries, .int m_leftOver, .int m_playDoor, .int m_playRing, .int m_isOpen, .int m_isOver, .int m_wasTried, .int m_hasPlayed, .ref a_feltNow, .ref a_last, .ref a_kept, .int m_hasSeconds, .int m_hasTurned, .int m_hasRound, .ref a_hasFeels, .ref a_isOn, .int m_firstAct, .long m_meanTop, .long m_meanBy, .ref a_order, .int m_rowMany, .int m_newSteps])), (a_c, .inl (cA.1 0, 1825, .inl g_c)), (a_there, .inl (cA.1 0, 10, .inl g_there)), (a_shared, .inl (cA.1 1, 20, .inr (.inl g_shared)))] (S := (Nat → Int32) × (Nat → Int64)) (fun (r : Int32) (u : (Nat → Int32) × (Nat → Int64)) => (r = 0 ∧ (zC u.1) ∧ (zPF g_c u.1)) ∨ (r = 1 ∧ (zC u.1) ∧ (zPF g_c u.1))) (fun (u : (Nat → Int32) × (Nat → Int64)) => [(h0, .inr (12, [.int m_status, .int m_thrown, .long m_above, .long m_under, .ref a_traySort, .ref a_trayMany, .ref a_numbers, .ref a_tape, .int m_taped, .int m_textEnd, .int m_faultKind, .int m_faultAt, .int m_bad, .int m_badAt, .int m_token, .int m_at, .int m_behind, .int m_number, .int m_letters, .long m_word, .ref a_c, .ref a_words, .int m_markMany, .ref a_there, .ref a_tried, .ref a_best, .ref a_found, .int m_thereMany, .int m_foundMany, .int m_orderHow, .int m_orderRing, .int m_orderMany, .int m_hasBest, .long m_bestTop, .long m_bestBy, .ref a_weights, .ref a_shared, .int m_random, .int m_truePlace, .int m_trueWay, .int m_seconds, .int m_done, .int m_feelings, .int m_tries, .int m_leftOver, .int m_playDoor, .int m_playRing, .int m_isOpen, .int m_isOver, .int m_wasTried, .int m_hasPlayed, .ref a_feltNow, .ref a_last, .ref a_kept, .int m_hasSeconds, .int m_hasTurned, .int m_hasRound, .ref a_hasFeels, .ref a_isOn, .int m_firstAct, .long m_meanTop, .long m_meanBy, .ref a_order, .int m_rowMany, .int m_newSteps])), (a_c, .inl (cA.1 0, 1825, .inl u.1)), (a_there, .inl (cA.1 0, 10, .inl g_there)), (a_shared, .inl (cA.1 1, 20, .inr (.inl u.2)))]) 0 0 := by
  have hk_0 : (0 : Int32).toInt = 0 := by decide +kernel
  have hk_1 : (1 : Int32).toInt = 1 := by decide +kernel
  have hk_2 : (2 : Int32).toInt = 2 := by decide +kernel
  have hk_160 : (160 : Int32).toInt = 160 := by decide +kernel
  refine z_start2z (own := RX12) (by decide) (Nat.le_of_ble_eq_true rfl) rfl ?_
  intro p e s m args below meth c A ls Q hx hb hml hts hown hK hE hT hP hD hS hA hl hret
  have hl : lv_has ls 4 [(0, .ref h0), (1, .int d), (2, .int o)] := hl
  refine lv_iconst (v := 0) hx hb dX12_tryAs_0 (by decide) ?_
  refine lv_istore_n (lv' := [(3, .int 0), (0, .ref h0), (1, .int d), (2, .int o)]) hx hb dX12_tryAs_1 rfl hl (by decide) rfl (fun ls hl => ?_)
  have hlp_664 : ∀ (n : Nat) (v_632 : Int32) (g_633 : Nat → Int64) (H : Heap) (locs : List Loc) (ls : Array Slot), (2147483647 - v_632.toInt).toNat < n → (0 ≤ v_632.toInt ∧ v_632.toInt ≤ 20) → va_P G vwCl [(h0, .inr (12, [.int m_status, .int m_thrown, .long m_above, .long m_under, .ref a_traySort, .ref a_trayMany, .ref a_numbers, .ref a_tape, .int m_taped, .int m_textEnd, .int m_faultKind, .int m_faultAt, .int m_bad, .int m_badAt, .int m_token, .int m_at, .int m_behind, .int m_number, .int m_letters, .long m_word, .ref a_c, .ref a_words, .int m_markMany, .ref a_there, .ref a_tried, .ref a_best, .ref a_found, .int m_thereMany, .int m_foundMany, .int m_orderHow, .int m_orderRing, .int m_orderMany, .int m_hasBest, .long m_bestTop, .long m_bestBy, .ref a_weights, .ref a_shared, .int m_random, .int m_truePlace, .int m_trueWay, .int m_seconds, .int m_done, .int m_feelings, .int m_tries, .int m_leftOver, .int m_playDoor, .int m_playRing, .int m_isOpen, .int m_isOver, .int m_wasTried, .int m_hasPlayed, .ref a_feltNow, .ref a_last, .ref a_kept, .int m_hasSeconds, .int m_hasTurned, .int m_hasRound, .ref a_hasFeels, .ref a_isOn, .int m_firstAct, .long m_meanTop, .long m_meanBy, .ref a_order, .int m_rowMany, .int m_newSteps])), (a_c, .inl (cA.1 0, 1825, .inl g_c)), (a_there, .inl (cA.1 0, 10, .inl g_there)), (a_shared, .inl (cA.1 1, 20, .inr (.inl g_633)))] H → va_D A [(h0, .inr (12, [.int m_status, .int m_thrown, .long m_above, .long m_under, .ref a_traySort, .ref a_trayMany, .ref a_numbers, .ref a_tape, .int m_taped, .int m_textEnd, .int m_faultKind, .int m_faultAt, .int m_bad, .int m_badAt, .int m_token, .int m_at, .int m_behind, .int m_number, .int m_letters, .long m_word, .ref a_c, .ref a_words, .int m_markMany, .ref a_there, .ref a_tried, .ref a_best, .ref a_found, .int m_thereMany, .int m_foundMany, .int m_orderHow, .int m_orderRing, .int m_orderMany, .int m_hasBest, .long m_bestTop, .long m_bestBy, .ref a_weights, .ref a_shared, .int m_random, .int m_truePlace, .int m_trueWay, .int m_seconds, .int m_done, .int m_feelings, .int m_tries, .int m_leftOver, .int m_playDoor, .int m_playRing, .int m_isOpen, .int m_isOver, .int m_wasTried, .int m_hasPlayed, .ref a_feltNow, .ref a_last, .ref a_kept, .int m_hasSeconds, .int m_hasTurned, .int m_hasRound, .ref a_hasFeels, .ref a_isOn, .int m_firstAct, .long m_meanTop, .long m_meanBy, .ref a_order, .int m_rowMany, .int m_newSteps])), (a_c, .inl (cA.1 0, 1825, .inl g_c)), (a_there, .inl (cA.1 0, 10, .inl g_there)), (a_shared, .inl (cA.1 1, 20, .inr (.inl g_633)))] → va_S A s.heap H locs → lv_has ls 4 [(0, .ref h0), (1, .int d), (2, .int o), (3, .int v_632)] → W p l e ({ frames := 1, cells := 0, slots := 0, locals := 26 }) s m args below meth c H locs 0 0 Q (F0 m 2 ls []) := by
    intro n
    induction n with
    | zero =>
      intro v_632 g_633 H locs ls hmu_hlp_664 hr_v_632 hP hD hS hl
      exact absurd hmu_hlp_664 (Nat.not_lt_zero _)
    | succ n ih_665 =>
      intro v_632 g_633 H locs ls hmu_hlp_664 hr_v_632 hP hD hS hl
      refine lv_iload_n hx hb dX12_tryAs_2 rfl (lv_at hl 3 rfl) ?_
      refine lv_iconst (v := 2) hx hb dX12_tryAs_3 (by decide) ?_
      refine lv_aload_n hx hb dX12_tryAs_4 rfl (lv_at hl 0 rfl) ?_
      refine va_get (D := G) (ci := 12) (v := .int m_thereMany) (C := RX12) (T := TX12) (N := 65) hx hb hts inT12 hown hK hP 0 rfl rfl 27 (by decide) (hts _ tw_1912) (fun _ h9 => h9) rfl dX12_tryAs_5 ?_
      refine lv_imul hx hb dX12_tryAs_8 ?_
      refine lv_topi (fun x_666 he_x_666 => ?_)
      have hq_x_666 := z_mulq he_x_666 hk_2 (rfl : m_thereMany.toInt = _) (by omega) (by omega)
      refine lv_icmp_ge (tgt := 56) hx hb dX12_tryAs_9 (by decide) (fun c_667 => ?_) (fun c_667 => ?_)
      · have b_668 := z_fgeT c_667
        refine lv_aload_n hx hb dX12_tryAs_56 rfl (lv_at hl 0 rfl) ?_
        refine z_callVi (As := []) (rest := []) (wr := [(a_there, .inl (cA.1 0, 10, .inl g_there))]) ⟨hx, hb, hml, hown, hts⟩ hK hE hT hP hD hS hA (r_shareOut l G cA h0 m_status m_thrown m_above m_under a_traySort a_trayMany a_numbers a_tape m_taped m_textEnd m_faultKind m_faultAt m_bad m_badAt m_token m_at m_behind m_number m_letters m_word a_c a_words m_markMany a_there a_tried a_best a_found m_thereMany m_foundMany m_orderHow m_orderRing m_orderMany m_hasBest m_bestTop m_bestBy a_weights a_shared m_random m_truePlace m_trueWay m_seconds m_done m_feelings m_tries m_leftOver m_playDoor m_playRing m_isOpen m_isOver m_wasTried m_hasPlayed a_feltNow a_last a_kept m_hasSeconds m_hasTurned m_hasRound a_hasFeels a_isOn m_firstAct m_meanTop m_meanBy a_order m_rowMany m_newSteps g_c g_633 hr_m_thereMany hC_g_c) lk_RX12_317 ⟨rfl, rfl⟩ ⟨Nat.le_of_ble_eq_true rfl, Nat.le_of_ble_eq_true rfl⟩ 12 rfl rfl rfl [0, 1, 3] [2] rfl rfl (by decide) rfl hl.1 rfl (lv_room (Nat.le_of_ble_eq_true rfl)) dX12_tryAs_57 ⟨Nat.le_of_ble_eq_true rfl, Nat.le_of_ble_eq_true rfl⟩ (fun r_670 u_671 H locs hw hP hD hS => ?_)
        obtain ⟨n_669, rfl⟩ : ∃ z, z = u_671 := ⟨_, rfl⟩
        rcases hw with ⟨rfl, hC_n_669, hf_672⟩ | ⟨rfl, hC_n_669, hf_673⟩
        · skip
          have hs_674 : zPF g_c n_669 := (zPF_trans (zPF_refl g_c) hf_672)
          have hpost : ((0 : Int32) = 0 ∧ (zC n_669) ∧ (zPF g_c n_669)) ∨ ((0 : Int32) = 1 ∧ (zC n_669) ∧ (zPF g_c n_669)) := (Or.inl ⟨rfl, ⟨hC_n_669, hs_674⟩⟩)
          exact hret _ _ _ _ _ _ (n_669, g_633) [1, 2, 0, 3] hP hD hS rfl (by decide) dX12_tryAs_60 (Or.inl rfl) hpost
        · skip
          have hs_675 : zPF g_c n_669 := (zPF_trans (zPF_refl g_c) hf_673)
          have hpost : ((1 : Int32) = 0 ∧ (zC n_669) ∧ (zPF g_c n_669)) ∨ ((1 : Int32) = 1 ∧ (zC n_669) ∧ (zPF g_c n_669)) := (Or.inr ⟨rfl, ⟨hC_n_669, hs_675⟩⟩)
          exact hret _ _ _ _ _ _ (n_669, g_633) [1, 2, 0, 3] hP hD hS rfl (by decide) dX12_tryAs_60 (Or.inr rfl) hpost
      · have b_676 := z_fltF c_667
        refine lv_aload_n hx hb dX12_tryAs_12 rfl (lv_at hl 0 rfl) ?_
        refine va_get (D := G) (ci := 12) (v := .ref a_shared) (C := RX12) (T := TX12) (N := 65) hx hb hts inT12 hown hK hP 0 rfl rfl 36 (by decide) (hts _ tw_1920) (fun _ h9 => h9) rfl dX12_tryAs_13 ?_
        refine lv_iload_n hx hb dX12_tryAs_16 rfl (lv_at hl 3 rfl) ?_
        refine lv_aload_n hx hb dX12_tryAs_17 rfl (lv_at hl 0 rfl) ?_
        refine lv_aload_n hx hb dX12_tryAs_18 rfl (lv_at hl 0 rfl) ?_
        refine va_get (D := G) (ci := 12) (v := .ref a_there) (C := RX12) (T := TX12) (N := 65) hx hb hts inT12 hown hK hP 0 rfl rfl 23 (by decide) (hts _ tw_1908) (fun _ h9 => h9) rfl dX12_tryAs_19 ?_
        refine lv_iload_n hx hb dX12_tryAs_22 rfl (lv_at hl 3 rfl) ?_
        refine lv_iconst (v := 2) hx hb dX12_tryAs_23 (by decide) ?_
        refine lv_idiv hx hb dX12_tryAs_24 (by decide +kernel) ?_
        refine lv_topi (fun x_677 he_x_677 => ?_)
        have hq_x_677 := z_divq he_x_677 (rfl : v_632.toInt = _) hk_2 (by omega) (by decide)
        refine va_iald hx hb hK hP 2 0 rfl rfl (z_inN (by omega) (by omega)) dX12_tryAs_25 ?_
        refine lv_topi (fun x_678 he_x_678 => ?_)
        have hr_x_678 := z_rg hC_g_there he_x_678 (by omega) (by omega)
        refine lv_iload_n hx hb dX12_tryAs_26 rfl (lv_at hl 1 rfl) ?_
        refine z_callVi (As := [.int x_678, .int d]) (rest := [.int v_632, .ref a_shared]) (wr := [(a_there, .inl (cA.1 0, 10, .inl g_there)), (a_shared, .inl (cA.1 1, 20, .inr (.inl g_633)))]) ⟨hx, hb, hml, hown, hts⟩ hK hE hT hP hD hS hA (r_canOpen l G cA h0 m_status m_thrown m_above m_under a_traySort a_trayMany a_numbers a_tape m_taped m_textEnd m_faultKind m_faultAt m_bad m_badAt m_token m_at m_behind m_number m_letters m_word a_c a_words m_markMany a_there a_tried a_best a_found m_thereMany m_foundMany m_orderHow m_orderRing m_orderMany m_hasBest m_bestTop m_bestBy a_weights a_shared m_random m_truePlace m_trueWay m_seconds m_done m_feelings m_tries m_leftOver m_playDoor m_playRing m_isOpen m_isOver m_wasTried m_hasPlayed a_feltNow a_last a_kept m_hasSeconds m_hasTurned m_hasRound a_hasFeels a_isOn m_firstAct m_meanTop m_meanBy a_order m_rowMany m_newSteps g_c x_678 d hr_x_678 hr_d hC_g_c) lk_RX12_345 ⟨rfl, rfl⟩ ⟨Nat.le_of_ble_eq_true rfl, Nat.le_of_ble_eq_true rfl⟩ 12 rfl rfl rfl [0, 1] [2, 3] rfl rfl (by decide) rfl hl.1 rfl (lv_room (Nat.le_of_ble_eq_true rfl)) dX12_tryAs_27 ⟨Nat.le_of_ble_eq_true rfl, Nat.le_of_ble_eq_true rfl⟩ (fun r_679 u_680 H locs hw hP hD hS => ?_)
        obtain ⟨he_r_679, hw⟩ := hw
        rcases hw with ⟨rfl, hf_681⟩ | ⟨rfl, hf_682⟩
        · skip
          refine lv_iload_n hx hb dX12_tryAs_30 rfl (lv_at hl 2 rfl) ?_
          refine lv_icmp_ne (tgt := 48) hx hb dX12_tryAs_31 (by decide) (fun c_683 => ?_) (fun c_683 => ?_)
          · have b_684 := z_fneT c_683
            refine lv_lconst (v := 0) hx hb dX12_tryAs_48 (by decide) ?_
            refine z_last hx hb hK hP hD hS 1 1 rfl rfl (z_inN (by omega) (by omega)) dX12_tryAs_49 (fun g_685 hg_g_685 H locs hP hD hS => ?_)
            obtain ⟨x_686, he_x_686⟩ : ∃ z : Int32, z = v_632 + 1 := ⟨_, rfl⟩
            have hq_x_686 := z_addq he_x_686 (rfl : v_632.toInt = _) hk_1 (by omega) (by omega)
            refine lv_iinc (v := x_686) (lv' := [(3, .int x_686), (0, .ref h0), (1, .int d), (2, .int o)]) hx hb dX12_tryAs_50 hl (k := 3) rfl ((z_ofi (by decide +kernel)).trans he_x_686.symm) (by decide) rfl (fun ls hl => ?_)
            refine lv_goto (tgt := 2) hx hb dX12_tryAs_53 (by decide) ?_
            have hP := hP.sub (ws' := [(h0, .inr (12, [.int m_status, .int m_thrown, .long m_above, .long m_under, .ref a_traySort, .ref a_trayMany, .ref a_numbers, .ref a_tape, .int m_taped, .int m_textEnd, .int m_faultKind, .int m_faultAt, .int m_bad, .int m_badAt, .int m_token, .int m_at, .int m_behind, .int m_number, .int m_letters, .long m_word, .ref a_c, .ref a_words, .int m_markMany, .ref a_there, .ref a_tried, .ref a_best, .ref a_found, .int m_thereMany, .int m_foundMany, .int m_orderHow, .int m_orderRing, .int m_orderMany, .int m_hasBest, .long m_bestTop, .long m_bestBy, .ref a_weights, .ref a_shared, .int m_random, .int m_truePlace, .int m_trueWay, .int m_seconds, .int m_done, .int m_feelings, .int m_tries, .int m_leftOver, .int m_playDoor, .int m_playRing, .int m_isOpen, .int m_isOver, .int m_wasTried, .int m_hasPlayed, .ref a_feltNow, .ref a_last, .ref a_kept, .int m_hasSeconds, .int m_hasTurned, .int m_hasRound, .ref a_hasFeels, .ref a_isOn, .int m_firstAct, .long m_meanTop, .long m_meanBy, .ref a_order, .int m_rowMany, .int m_newSteps])), (a_c, .inl (cA.1 0, 1825, .inl g_c)), (a_there, .inl (cA.1 0, 10, .inl g_there)), (a_shared, .inl (cA.1 1, 20, .inr (.inl g_685)))]) [2, 3, 0, 1] rfl
            have hD := hD.sub (ws' := [(h0, .inr (12, [.int m_status, .int m_thrown, .long m_above, .long m_under, .ref a_traySort, .ref a_trayMany, .ref a_numbers, .ref a_tape, .int m_taped, .int m_textEnd, .int m_faultKind, .int m_faultAt, .int m_bad, .int m_badAt, .int m_token, .int m_at, .int m_behind, .int m_number, .int m_letters, .long m_word, .ref a_c, .ref a_words, .int m_markMany, .ref a_there, .ref a_tried, .ref a_best, .ref a_found, .int m_thereMany, .int m_foundMany, .int m_orderHow, .int m_orderRing, .int m_orderMany, .int m_hasBest, .long m_bestTop, .long m_bestBy, .ref a_weights, .ref a_shared, .int m_random, .int m_truePlace, .int m_trueWay, .int m_seconds, .int m_done, .int m_feelings, .int m_tries, .int m_leftOver, .int m_playDoor, .int m_playRing, .int m_isOpen, .int m_isOver, .int m_wasTried, .int m_hasPlayed, .ref a_feltNow, .ref a_last, .ref a_kept, .int m_hasSeconds, .int m_hasTurned, .int m_hasRound, .ref a_hasFeels, .ref a_isOn, .int m_firstAct, .long m_meanTop, .long m_meanBy, .ref a_order, .int m_rowMany, .int m_newSteps])), (a_c, .inl (cA.1 0, 1825, .inl g_c)), (a_there, .inl (cA.1 0, 10, .inl g_there)), (a_shared, .inl (cA.1 1, 20, .inr (.inl g_685)))]) [2, 3, 0, 1] (by decide) rfl
            exact ih_665 x_686 g_685 H locs ls (by omega) (by omega) hP hD hS (lv_sub hl [1, 2, 3, 0] rfl)
          · have b_687 := z_feqF c_683
            refine lv_aload_n hx hb dX12_tryAs_34 rfl (lv_at hl 0 rfl) ?_
            refine va_get (D := G) (ci := 12) (v := .ref a_c) (C := RX12) (T := TX12) (N := 65) hx hb hts inT12 hown hK hP 2 rfl rfl 20 (by decide) (hts _ tw_1905) (fun _ h9 => h9) rfl dX12_tryAs_35 ?_
            refine lv_sipush (v := 160) hx hb dX12_tryAs_38 (by decide) ?_
            refine lv_iload_n hx hb dX12_tryAs_41 rfl (lv_at hl 3 rfl) ?_
            refine lv_iadd hx hb dX12_tryAs_42 ?_
            refine lv_topi (fun x_688 he_x_688 => ?_)
            have hq_x_688 := z_addq he_x_688 hk_160 (rfl : v_632.toInt = _) (by omega) (by omega)
            refine va_iald hx hb hK hP 3 0 rfl rfl (z_inN (by omega) (by omega)) dX12_tryAs_43 ?_
            refine lv_topi (fun x_689 he_x_689 => ?_)
            refine lv_i2l (v := (x_689).toInt64) hx hb dX12_tryAs_44 rfl ?_
            refine lv_topl (fun x_690 he_x_690 => ?_)
            have hq_x_690 := z_i2l he_x_690
            have hL_x_689 := z_full x_689
            refine lv_goto (tgt := 49) hx hb dX12_tryAs_45 (by decide) ?_
            refine z_last hx hb hK hP hD hS 1 1 rfl rfl (z_inN (by omega) (by omega)) dX12_tryAs_49 (fun g_691 hg_g_691 H locs hP hD hS => ?_)
            obtain ⟨x_692, he_x_692⟩ : ∃ z : Int32, z = v_632 + 1 := ⟨_, rfl⟩
            have hq_x_692 := z_addq he_x_692 (rfl : v_632.toInt = _) hk_1 (by omega) (by omega)
            refine lv_iinc (v := x_692) (lv' := [(3, .int x_692), (0, .ref h0), (1, .int d), (2, .int o)]) hx hb dX12_tryAs_50 hl (k := 3) rfl ((z_ofi (by decide +kernel)).trans he_x_692.symm) (by decide) rfl (fun ls hl => ?_)
            refine lv_goto (tgt := 2) hx hb dX12_tryAs_53 (by decide) ?_
            have hP := hP.sub (ws' := [(h0, .inr (12, [.int m_status, .int m_thrown, .long m_above, .long m_under, .ref a_traySort, .ref a_trayMany, .ref a_numbers, .ref a_tape, .int m_taped, .int m_textEnd, .int m_faultKind, .int m_faultAt, .int m_bad, .int m_badAt, .int m_token, .int m_at, .int m_behind, .int m_number, .int m_letters, .long m_word, .ref a_c, .ref a_words, .int m_markMany, .ref a_there, .ref a_tried, .ref a_best, .ref a_found, .int m_thereMany, .int m_foundMany, .int m_orderHow, .int m_orderRing, .int m_orderMany, .int m_hasBest, .long m_bestTop, .long m_bestBy, .ref a_weights, .ref a_shared, .int m_random, .int m_truePlace, .int m_trueWay, .int m_seconds, .int m_done, .int m_feelings, .int m_tries, .int m_leftOver, .int m_playDoor, .int m_playRing, .int m_isOpen, .int m_isOver, .int m_wasTried, .int m_hasPlayed, .ref a_feltNow, .ref a_last, .ref a_kept, .int m_hasSeconds, .int m_hasTurned, .int m_hasRound, .ref a_hasFeels, .ref a_isOn, .int m_firstAct, .long m_meanTop, .long m_meanBy, .ref a_order, .int m_rowMany, .int m_newSteps])), (a_c, .inl (cA.1 0, 1825, .inl g_c)), (a_there, .inl (cA.1 0, 10, .inl g_there)), (a_shared, .inl (cA.1 1, 20, .inr (.inl g_691)))]) [2, 3, 0, 1] rfl
            have hD := hD.sub (ws' := [(h0, .inr (12, [.int m_status, .int m_thrown, .long m_above, .long m_under, .ref a_traySort, .ref a_trayMany, .ref a_numbers, .ref a_tape, .int m_taped, .int m_textEnd, .int m_faultKind, .int m_faultAt, .int m_bad, .int m_badAt, .int m_token, .int m_at, .int m_behind, .int m_number, .int m_letters, .long m_word, .ref a_c, .ref a_words, .int m_markMany, .ref a_there, .ref a_tried, .ref a_best, .ref a_found, .int m_thereMany, .int m_foundMany, .int m_orderHow, .int m_orderRing, .int m_orderMany, .int m_hasBest, .long m_bestTop, .long m_bestBy, .ref a_weights, .ref a_shared, .int m_random, .int m_truePlace, .int m_trueWay, .int m_seconds, .int m_done, .int m_feelings, .int m_tries, .int m_leftOver, .int m_playDoor, .int m_playRing, .int m_isOpen, .int m_isOver, .int m_wasTried, .int m_hasPlayed, .ref a_feltNow, .ref a_last, .ref a_kept, .int m_hasSeconds, .int m_hasTurned, .int m_hasRound, .ref a_hasFeels, .ref a_isOn, .int m_firstAct, .long m_meanTop, .long m_meanBy, .ref a_order, .int m_rowMany, .int m_newSteps])), (a_c, .inl (cA.1 0, 1825, .inl g_c)), (a_there, .inl (cA.1 0, 10, .inl g_there)), (a_shared, .inl (cA.1 1, 20, .inr (.inl g_691)))]) [2, 3, 0, 1] (by decide) rfl
            exact ih_665 x_692 g_691 H locs ls (by omega) (by omega) hP hD hS (lv_sub hl [1, 2, 3, 0] rfl)
        · skip
          refine lv_iload_n hx hb dX12_tryAs_30 rfl (lv_at hl 2 rfl) ?_
          refine lv_icmp_ne (tgt := 48) hx hb dX12_tryAs_31 (by decide) (fun c_693 => ?_) (fun c_693 => ?_)
          · have b_694 := z_fneT c_693
            refine lv_lconst (v := 0) hx hb dX12_tryAs_48 (by decide) ?_
            refine z_last hx hb hK hP hD hS 1 1 rfl rfl (z_inN (by omega) (by omega)) dX12_tryAs_49 (fun g_695 hg_g_695 H locs hP hD hS => ?_)
            obtain ⟨x_696, he_x_696⟩ : ∃ z : Int32, z = v_632 + 1 := ⟨_, rfl⟩
            have hq_x_696 := z_addq he_x_696 (rfl : v_632.toInt = _) hk_1 (by omega) (by omega)
            refine lv_iinc (v := x_696) (lv' := [(3, .int x_696), (0, .ref h0), (1, .int d), (2, .int o)]) hx hb dX12_tryAs_50 hl (k := 3) rfl ((z_ofi (by decide +kernel)).trans he_x_696.symm) (by decide) rfl (fun ls hl => ?_)
            refine lv_goto (tgt := 2) hx hb dX12_tryAs_53 (by decide) ?_
            have hP := hP.sub (ws' := [(h0, .inr (12, [.int m_status, .int m_thrown, .long m_above, .long m_under, .ref a_traySort, .ref a_trayMany, .ref a_numbers, .ref a_tape, .int m_taped, .int m_textEnd, .int m_faultKind, .int m_faultAt, .int m_bad, .int m_badAt, .int m_token, .int m_at, .int m_behind, .int m_number, .int m_letters, .long m_word, .ref a_c, .ref a_words, .int m_markMany, .ref a_there, .ref a_tried, .ref a_best, .ref a_found, .int m_thereMany, .int m_foundMany, .int m_orderHow, .int m_orderRing, .int m_orderMany, .int m_hasBest, .long m_bestTop, .long m_bestBy, .ref a_weights, .ref a_shared, .int m_random, .int m_truePlace, .int m_trueWay, .int m_seconds, .int m_done, .int m_feelings, .int m_tries, .int m_leftOver, .int m_playDoor, .int m_playRing, .int m_isOpen, .int m_isOver, .int m_wasTried, .int m_hasPlayed, .ref a_feltNow, .ref a_last, .ref a_kept, .int m_hasSeconds, .int m_hasTurned, .int m_hasRound, .ref a_hasFeels, .ref a_isOn, .int m_firstAct, .long m_meanTop, .long m_meanBy, .ref a_order, .int m_rowMany, .int m_newSteps])), (a_c, .inl (cA.1 0, 1825, .inl g_c)), (a_there, .inl (cA.1 0, 10, .inl g_there)), (a_shared, .inl (cA.1 1, 20, .inr (.inl g_695)))]) [2, 3, 0, 1] rfl
            have hD := hD.sub (ws' := [(h0, .inr (12, [.int m_status, .int m_thrown, .long m_above, .long m_under, .ref a_traySort, .ref a_trayMany, .ref a_numbers, .ref a_tape, .int m_taped, .int m_textEnd, .int m_faultKind, .int m_faultAt, .int m_bad, .int m_badAt, .int m_token, .int m_at, .int m_behind, .int m_number, .int m_letters, .long m_word, .ref a_c, .ref a_words, .int m_markMany, .ref a_there, .ref a_tried, .ref a_best, .ref a_found, .int m_thereMany, .int m_foundMany, .int m_orderHow, .int m_orderRing, .int m_orderMany, .int m_hasBest, .long m_bestTop, .long m_bestBy, .ref a_weights, .ref a_shared, .int m_random, .int m_truePlace, .int m_trueWay, .int m_seconds, .int m_done, .int m_feelings, .int m_tries, .int m_leftOver, .int m_playDoor, .int m_playRing, .int m_isOpen, .int m_isOver, .int m_wasTried, .int m_hasPlayed, .ref a_feltNow, .ref a_last, .ref a_kept, .int m_hasSeconds, .int m_hasTurned, .int m_hasRound, .ref a_hasFeels, .ref a_isOn, .int m_firstAct, .long m_meanTop, .long m_meanBy, .ref a_order, .int m_rowMany, .int m_newSteps])), (a_c, .inl (cA.1 0, 1825, .inl g_c)), (a_there, .inl (cA.1 0, 10, .inl g_there)), (a_shared, .inl (cA.1 1, 20, .inr (.inl g_695)))]) [2, 3, 0, 1] (by decide) rfl
            exact ih_665 x_696 g_695 H locs ls (by omega) (by omega) hP hD hS (lv_sub hl [1, 2, 3, 0] rfl)
          · have b_697 := z_feqF c_693
            refine lv_aload_n hx hb dX12_tryAs_34 rfl (lv_at hl 0 rfl) ?_
            refine va_get (D := G) (ci := 12) (v := .ref a_c) (C := RX12) (T := TX12) (N := 65) hx hb hts inT12 hown hK hP 2 rfl rfl 20 (by decide) (hts _ tw_1905) (fun _ h9 => h9) rfl dX12_tryAs_35 ?_
            refine lv_sipush (v := 160) hx hb dX12_tryAs_38 (by decide) ?_
            refine lv_iload_n hx hb dX12_tryAs_41 rfl (lv_at hl 3 rfl) ?_
            refine lv_iadd hx hb dX12_tryAs_42 ?_
            refine lv_topi (fun x_698 he_x_698 => ?_)
            have hq_x_698 := z_addq he_x_698 hk_160 (rfl : v_632.toInt = _) (by omega) (by omega)
            refine va_iald hx hb hK hP 3 0 rfl rfl (z_inN (by omega) (by omega)) dX12_tryAs_43 ?_
            refine lv_topi (fun x_699 he_x_699 => ?_)
            refine lv_i2l (v := (x_699).toInt64) hx hb dX12_tryAs_44 rfl ?_
            refine lv_topl (fun x_700 he_x_700 => ?_)
            have hq_x_700 := z_i2l he_x_700
            have hL_x_699 := z_full x_699
            refine lv_goto (tgt := 49) hx hb dX12_tryAs_45 (by decide) ?_
            refine z_last hx hb hK hP hD hS 1 1 rfl rfl (z_inN (by omega) (by omega)) dX12_tryAs_49 (fun g_701 hg_g_701 H locs hP hD hS => ?_)
            obtain ⟨x_702, he_x_702⟩ : ∃ z : Int32, z = v_632 + 1 := ⟨_, rfl⟩
            have hq_x_702 := z_addq he_x_702 (rfl : v_632.toInt = _) hk_1 (by omega) (by omega)
            refine lv_iinc (v := x_702) (lv' := [(3, .int x_702), (0, .ref h0), (1, .int d), (2, .int o)]) hx hb dX12_tryAs_50 hl (k := 3) rfl ((z_ofi (by decide +kernel)).trans he_x_702.symm) (by decide) rfl (fun ls hl => ?_)
            refine lv_goto (tgt := 2) hx hb dX12_tryAs_53 (by decide) ?_
            have hP := hP.sub (ws' := [(h0, .inr (12, [.int m_status, .int m_thrown, .long m_above, .long m_under, .ref a_traySort, .ref a_trayMany, .ref a_numbers, .ref a_tape, .int m_taped, .int m_textEnd, .int m_faultKind, .int m_faultAt, .int m_bad, .int m_badAt, .int m_token, .int m_at, .int m_behind, .int m_number, .int m_letters, .long m_word, .ref a_c, .ref a_words, .int m_markMany, .ref a_there, .ref a_tried, .ref a_best, .ref a_found, .int m_thereMany, .int m_foundMany, .int m_orderHow, .int m_orderRing, .int m_orderMany, .int m_hasBest, .long m_bestTop, .long m_bestBy, .ref a_weights, .ref a_shared, .int m_random, .int m_truePlace, .int m_trueWay, .int m_seconds, .int m_done, .int m_feelings, .int m_tries, .int m_leftOver, .int m_playDoor, .int m_playRing, .int m_isOpen, .int m_isOver, .int m_wasTried, .int m_hasPlayed, .ref a_feltNow, .ref a_last, .ref a_kept, .int m_hasSeconds, .int m_hasTurned, .int m_hasRound, .ref a_hasFeels, .ref a_isOn, .int m_firstAct, .long m_meanTop, .long m_meanBy, .ref a_order, .int m_rowMany, .int m_newSteps])), (a_c, .inl (cA.1 0, 1825, .inl g_c)), (a_there, .inl (cA.1 0, 10, .inl g_there)), (a_shared, .inl (cA.1 1, 20, .inr (.inl g_701)))]) [2, 3, 0, 1] rfl
            have hD := hD.sub (ws' := [(h0, .inr (12, [.int m_status, .int m_thrown, .long m_above, .long m_under, .ref a_traySort, .ref a_trayMany, .ref a_numbers, .ref a_tape, .int m_taped, .int m_textEnd, .int m_faultKind, .int m_faultAt, .int m_bad, .int m_badAt, .int m_token, .int m_at, .int m_behind, .int m_number, .int m_letters, .long m_word, .ref a_c, .ref a_words, .int m_markMany, .ref a_there, .ref a_tried, .ref a_best, .ref a_found, .int m_thereMany, .int m_foundMany, .int m_orderHow, .int m_orderRing, .int m_orderMany, .int m_hasBest, .long m_bestTop, .long m_bestBy, .ref a_weights, .ref a_shared, .int m_random, .int m_truePlace, .int m_trueWay, .int m_seconds, .int m_done, .int m_feelings, .int m_tries, .int m_leftOver, .int m_playDoor, .int m_playRing, .int m_isOpen, .int m_isOver, .int m_wasTried, .int m_hasPlayed, .ref a_feltNow, .ref a_last, .ref a_kept, .int m_hasSeconds, .int m_hasTurned, .int m_hasRound, .ref a_hasFeels, .ref a_isOn, .int m_firstAct, .long m_meanTop, .long m_meanBy, .ref a_order, .int m_rowMany, .int m_newSteps])), (a_c, .inl (cA.1 0, 1825, .inl g_c)), (a_there, .inl (cA.1 0, 10, .inl g_there)), (a_shared, .inl (cA.1 1, 20, .inr (.inl g_701)))]) [2, 3, 0, 1] (by decide) rfl
            exact ih_665 x_702 g_701 H locs ls (by omega) (by omega) hP hD hS (lv_sub hl [1, 2, 3, 0] rfl)
  exact hlp_664 _ 0 g_shared _ _ _ (Nat.lt_succ_self _) (by decide +kernel) hP hD hS (lv_sub hl [1, 2, 3, 0] rfl)
set_option maxHeartbeats 4000000 in
set_option maxRecDepth 100000 in
theorem r_tried (l : Launch) (G : va_G) (cA : zCA) (h0 : Nat) (m_status : Int32) (m_thrown : Int32) (m_above : Int64) (m_under : Int64) (a_traySort : Nat) (a_trayMany : Nat) (a_numbers : Nat) (a_tape : Nat) (m_taped : Int32) (m_textEnd : Int32) (m_faultKind : Int32) (m_faultAt : Int32) (m_bad : Int32) (m_badAt : Int32) (m_token : Int32) (m_at : Int32) (m_behind : Int32) (m_number : Int32) (m_letters : Int32) (m_word : Int64) (a_c : Nat) (a_words : Nat) (m_markMany : Int32) (a_there : Nat) (a_tried : Nat) (a_best : Nat) (a_found : Nat) (m_thereMany : Int32) (m_foundMany : Int32) (m_orderHow : Int32) (m_orderRing : Int32) (m_orderMany : Int32) (m_hasBest : Int32) (m_bestTop : Int64) (m_bestBy : Int64) (a_weights : Nat) (a_shared : Nat) (m_random : Int32) (m_truePlace : Int32) (m_trueWay : Int32) (m_seconds : Int32) (m_done : Int32) (m_feelings : Int32) (m_tries : Int32) (m_leftOver : Int32) (m_playDoor : Int32) (m_playRing : Int32) (m_isOpen : Int32) (m_isOver : Int32) (m_wasTried : Int32) (m_hasPlayed : Int32) (a_feltNow : Nat) (a_last : Nat) (a_kept : Nat) (m_hasSeconds : Int32) (m_hasTurned : Int32) (m_hasRound : Int32) (a_hasFeels : Nat) (a_isOn : Nat) (m_firstAct : Int32) (m_meanTop : Int64) (m_meanBy : Int64) (a_order : Nat) (m_rowMany : Int32) (m_newSteps : Int32) (g_c : Nat → Int32) (g_there : Nat → Int32) (g_shared : Nat → Int64) (d : Int32) (o : Int32) (hr_o : 0 ≤ o.toInt ∧ o.toInt ≤ 1) (hz_o : o = 0 ∨ o = 1) (hr_m_thereMany : 0 ≤ m_thereMany.toInt ∧ m_thereMany.toInt ≤ 10) (hC_g_c : zC g_c) (hC_g_there : zRg 10 0 9 g_there) : zCi l yX12_tried cX12_tried 3 (some .boolean) ({ frames := 2, cells := 0, slots := 0, locals := 49 }) G cA [.ref h0, .int d, .int o] [(h0, .inr (12, [.int m_status, .int m_thrown, .long m_above, .long m_under, .ref a_traySort, .ref a_trayMany, .ref a_numbers, .ref a_tape, .int m_taped, .int m_textEnd, .int m_faultKind, .int m_faultAt, .int m_bad, .int m_badAt, .int m_token, .int m_at, .int m_behind, .int m_number, .int m_letters, .long m_word, .ref a_c, .ref a_words, .int m_markMany, .ref a_there, .ref a_tried, .ref a_best, .ref a_found, .int m_thereMany, .int m_foundMany, .int m_orderHow, .int m_orderRing, .int m_orderMany, .int m_hasBest, .long m_bestTop, .long m_bestBy, .ref a_weights, .ref a_shared, .int m_random, .int m_truePlace, .int m_trueWay, .int m_seconds, .int m_done, .int m_feelings, .int m_tries, .int m_leftOver, .int m_playDoor, .int m_playRing, .int m_isOpen, .int m_isOver, .int m_wasTried, .int m_hasPlayed, .ref a_feltNow, .ref a_last, .ref a_kept, .int m_hasSeconds, .int m_hasTurned, .int m_hasRound, .ref a_hasFeels, .ref a_isOn, .int m_firstAct, .long m_meanTop, .long m_meanBy, .ref a_order, .int m_rowMany, .int m_newSteps])), (a_c, .inl (cA.1 0, 1825, .inl g_c)), (a_there, .inl (cA.1 0, 10, .inl g_there)), (a_shared, .inl (cA.1 1, 20, .inr (.inl g_shared)))] (S := Int32 × Int32 × Int32 × (Nat → Int32) × (Nat → Int32) × (Nat → Int64)) (fun (r : Int32) (u : Int32 × Int32 × Int32 × (Nat → Int32) × (Nat → Int32) × (Nat → Int64)) => (r = 0 ∧ (0 ≤ u.2.1.toInt ∧ u.2.1.toInt ≤ 0) ∧ (0 ≤ u.2.2.1.toInt ∧ u.2.2.1.toInt ≤ 10) ∧ (zRg 10 0 9 u.2.2.2.1) ∧ (zC u.2.2.2.2.1) ∧ (zHG g_c u.2.2.2.2.1)) ∨ (r = 1 ∧ (0 ≤ u.1.toInt ∧ u.1.toInt ≤ 0) ∧ (0 ≤ u.2.1.toInt ∧ u.2.1.toInt ≤ 0) ∧ (0 ≤ u.2.2.1.toInt ∧ u.2.2.1.toInt ≤ 10) ∧ (zRg 10 0 9 u.2.2.2.1) ∧ (zC u.2.2.2.2.1) ∧ (zHG g_c u.2.2.2.2.1))) (fun (u : Int32 × Int32 × Int32 × (Nat → Int32) × (Nat → Int32) × (Nat → Int64)) => [(h0, .inr (12, [.int u.1, .int u.2.1, .long m_above, .long m_under, .ref a_traySort, .ref a_trayMany, .ref a_numbers, .ref a_tape, .int m_taped, .int m_textEnd, .int m_faultKind, .int m_faultAt, .int m_bad, .int m_badAt, .int m_token, .int m_at, .int m_behind, .int m_number, .int m_letters, .long m_word, .ref a_c, .ref a_words, .int m_markMany, .ref a_there, .ref a_tried, .ref a_best, .ref a_found, .int u.2.2.1, .int m_foundMany, .int m_orderHow, .int m_orderRing, .int m_orderMany, .int m_hasBest, .long m_bestTop, .long m_bestBy, .ref a_weights, .ref a_shared, .int m_random, .int m_truePlace, .int m_trueWay, .int m_seconds, .int m_done, .int m_feelings, .int m_tries, .int m_leftOver, .int m_playDoor, .int m_playRing, .int m_isOpen, .int m_isOver, .int m_wasTried, .int m_hasPlayed, .ref a_feltNow, .ref a_last, .ref a_kept, .int m_hasSeconds, .int m_hasTurned, .int m_hasRound, .ref a_hasFeels, .ref a_isOn, .int m_firstAct, .long m_meanTop, .long m_meanBy, .ref a_order, .int m_rowMany, .int m_newSteps])), (a_c, .inl (cA.1 0, 1825, .inl u.2.2.2.2.1)), (a_there, .inl (cA.1 0, 10, .inl u.2.2.2.1)), (a_shared, .inl (cA.1 1, 20, .inr (.inl u.2.2.2.2.2)))]) 0 0 := by
  have hk_2 : (2 : Int32).toInt = 2 := by decide +kernel
  have hk_8 : (8 : Int32).toInt = 8 := by decide +kernel
  have hk_9 : (9 : Int32).toInt = 9 := by decide +kernel
  refine z_start2z (own := RX12) (by decide) (Nat.le_of_ble_eq_true rfl) rfl ?_
  intro p e s m args below meth c A ls Q hx hb hml hts hown hK hE hT hP hD hS hA hl hret
  have hl : lv_has ls 3 [(0, .ref h0), (1, .int d), (2, .int o)] := hl
  refine lv_aload_n hx hb dX12_tried_0 rfl (lv_at hl 0 rfl) ?_
  refine lv_iconst (v := 0) hx hb dX12_tried_1 (by decide) ?_
  refine va_put (D := G) (ci := 12) (v := .int 0) (ty := .int) (C := RX12) (T := TX12) (N := 65) hx hb hts inT12 tyX12 tyX12_ok nmX12 hown hK hP hD hS 0 rfl rfl 1 (by decide) (hts _ tw_1886) (fun _ h9 => h9) rfl (tyX12_ok 1 (by decide)) rfl rfl (Nat.le_of_ble_eq_true rfl) dX12_tried_2 (fun H locs hP hD hS => ?_)
  refine lv_aload_n hx hb dX12_tried_5 rfl (lv_at hl 0 rfl) ?_
  refine lv_iconst (v := 0) hx hb dX12_tried_6 (by decide) ?_
  refine va_put (D := G) (ci := 12) (v := .int 0) (ty := .int) (C := RX12) (T := TX12) (N := 65) hx hb hts inT12 tyX12 tyX12_ok nmX12 hown hK hP hD hS 0 rfl rfl 0 (by decide) (hts _ tw_1885) (fun _ h9 => h9) rfl (tyX12_ok 0 (by decide)) rfl rfl (Nat.le_of_ble_eq_true rfl) dX12_tried_7 (fun H locs hP hD hS => ?_)
  refine lv_aload_n hx hb dX12_tried_10 rfl (lv_at hl 0 rfl) ?_
  refine lv_iload_n hx hb dX12_tried_11 rfl (lv_at hl 1 rfl) ?_
  refine z_callVi (As := [.int d]) (rest := []) (wr := [(a_there, .inl (cA.1 0, 10, .inl g_there)), (a_shared, .inl (cA.1 1, 20, .inr (.inl g_shared)))]) ⟨hx, hb, hml, hown, hts⟩ hK hE hT hP hD hS hA (r_isDoor l G cA h0 0 0 m_above m_under a_traySort a_trayMany a_numbers a_tape m_taped m_textEnd m_faultKind m_faultAt m_bad m_badAt m_token m_at m_behind m_number m_letters m_word a_c a_words m_markMany a_there a_tried a_best a_found m_thereMany m_foundMany m_orderHow m_orderRing m_orderMany m_hasBest m_bestTop m_bestBy a_weights a_shared m_random m_truePlace m_trueWay m_seconds m_done m_feelings m_tries m_leftOver m_playDoor m_playRing m_isOpen m_isOver m_wasTried m_hasPlayed a_feltNow a_last a_kept m_hasSeconds m_hasTurned m_hasRound a_hasFeels a_isOn m_firstAct m_meanTop m_meanBy a_order m_rowMany m_newSteps g_c d hC_g_c) lk_RX12_295 ⟨rfl, rfl⟩ ⟨Nat.le_of_ble_eq_true rfl, Nat.le_of_ble_eq_true rfl⟩ 12 rfl rfl rfl [0, 1] [2, 3] rfl rfl (by decide) rfl hl.1 rfl (lv_room (Nat.le_of_ble_eq_true rfl)) dX12_tried_12 ⟨Nat.le_of_ble_eq_true rfl, Nat.le_of_ble_eq_true rfl⟩ (fun r_1 u_2 H locs hw hP hD hS => ?_)
  obtain ⟨he_r_1, hw⟩ := hw
  rcases hw with ⟨rfl, -⟩ | ⟨rfl, hf_3, hf_4⟩
  · skip
    refine lv_if_ne (tgt := 24) hx hb dX12_tried_15 (by decide) (fun h9 => absurd (by decide +kernel) h9) (fun _ => ?_)
    refine lv_aload_n hx hb dX12_tried_18 rfl (lv_at hl 0 rfl) ?_
    refine lv_iconst (v := 2) hx hb dX12_tried_19 (by decide) ?_
    refine z_callVi (As := [.int 2]) (rest := []) (wr := [(a_there, .inl (cA.1 0, 10, .inl g_there)), (a_shared, .inl (cA.1 1, 20, .inr (.inl g_shared))), (a_c, .inl (cA.1 0, 1825, .inl g_c))]) ⟨hx, hb, hml, hown, hts⟩ hK hE hT hP hD hS hA (r_no l G cA h0 0 0 m_above m_under a_traySort a_trayMany a_numbers a_tape m_taped m_textEnd m_faultKind m_faultAt m_bad m_badAt m_token m_at m_behind m_number m_letters m_word a_c a_words m_markMany a_there a_tried a_best a_found m_thereMany m_foundMany m_orderHow m_orderRing m_orderMany m_hasBest m_bestTop m_bestBy a_weights a_shared m_random m_truePlace m_trueWay m_seconds m_done m_feelings m_tries m_leftOver m_playDoor m_playRing m_isOpen m_isOver m_wasTried m_hasPlayed a_feltNow a_last a_kept m_hasSeconds m_hasTurned m_hasRound a_hasFeels a_isOn m_firstAct m_meanTop m_meanBy a_order m_rowMany m_newSteps 2) lk_RX12_97 ⟨rfl, rfl⟩ ⟨Nat.le_of_ble_eq_true rfl, Nat.le_of_ble_eq_true rfl⟩ 12 rfl rfl rfl [2] [0, 1, 3] rfl rfl (by decide) rfl hl.1 rfl (lv_room (Nat.le_of_ble_eq_true rfl)) dX12_tried_20 ⟨Nat.le_of_ble_eq_true rfl, Nat.le_of_ble_eq_true rfl⟩ (fun r_6 u_7 H locs hw hP hD hS => ?_)
    obtain ⟨n_5, rfl⟩ : ∃ z, z = u_7 := ⟨_, rfl⟩
    obtain ⟨he_r_6, he_n_5, hw⟩ := hw
    obtain ⟨rfl, -⟩ := hw
    have hpost : ((0 : Int32) = 0 ∧ (0 ≤ (0 : Int32).toInt ∧ (0 : Int32).toInt ≤ 0) ∧ (0 ≤ m_thereMany.toInt ∧ m_thereMany.toInt ≤ 10) ∧ (zRg 10 0 9 g_there) ∧ (zC g_c) ∧ (zHG g_c g_c)) ∨ ((0 : Int32) = 1 ∧ (0 ≤ n_5.toInt ∧ n_5.toInt ≤ 0) ∧ (0 ≤ (0 : Int32).toInt ∧ (0 : Int32).toInt ≤ 0) ∧ (0 ≤ m_thereMany.toInt ∧ m_thereMany.toInt ≤ 10) ∧ (zRg 10 0 9 g_there) ∧ (zC g_c) ∧ (zHG g_c g_c)) := (Or.inl ⟨rfl, ⟨(by decide +kernel), hr_m_thereMany, hC_g_there, hC_g_c, (zHG_refl g_c)⟩⟩)
    exact hret _ _ _ _ _ _ (n_5, 0, m_thereMany, g_there, g_c, g_shared) [3, 2, 0, 1] hP hD hS rfl (by decide) dX12_tried_23 (Or.inl rfl) hpost
  · skip
    refine lv_if_ne (tgt := 24) hx hb dX12_tried_15 (by decide) (fun _ => ?_) (fun h9 => absurd h9 (by decide +kernel))
    refine lv_aload_n hx hb dX12_tried_24 rfl (lv_at hl 0 rfl) ?_
    refine z_callVi (As := []) (rest := []) (wr := [(a_shared, .inl (cA.1 1, 20, .inr (.inl g_shared)))]) ⟨hx, hb, hml, hown, hts⟩ hK hE hT hP hD hS hA (r_isHeld l G cA h0 0 0 m_above m_under a_traySort a_trayMany a_numbers a_tape m_taped m_textEnd m_faultKind m_faultAt m_bad m_badAt m_token m_at m_behind m_number m_letters m_word a_c a_words m_markMany a_there a_tried a_best a_found m_thereMany m_foundMany m_orderHow m_orderRing m_orderMany m_hasBest m_bestTop m_bestBy a_weights a_shared m_random m_truePlace m_trueWay m_seconds m_done m_feelings m_tries m_leftOver m_playDoor m_playRing m_isOpen m_isOver m_wasTried m_hasPlayed a_feltNow a_last a_kept m_hasSeconds m_hasTurned m_hasRound a_hasFeels a_isOn m_firstAct m_meanTop m_meanBy a_order m_rowMany m_newSteps g_c g_there hr_m_thereMany hC_g_c hC_g_there) lk_RX12_323 ⟨rfl, rfl⟩ ⟨Nat.le_of_ble_eq_true rfl, Nat.le_of_ble_eq_true rfl⟩ 12 rfl rfl rfl [2, 3, 0] [1] rfl rfl (by decide) rfl hl.1 rfl (lv_room (Nat.le_of_ble_eq_true rfl)) dX12_tried_25 ⟨Nat.le_of_ble_eq_true rfl, Nat.le_of_ble_eq_true rfl⟩ (fun r_10 u_11 H locs hw hP hD hS => ?_)
    obtain ⟨n_8, n_9⟩ := u_11
    try dsimp only at hw
    rcases hw with ⟨rfl, hr_n_8, hC_n_9⟩ | ⟨rfl, hr_n_8, hC_n_9⟩
    · skip
      refine lv_if_ne (tgt := 38) hx hb dX12_tried_28 (by decide) (fun h9 => absurd (by decide +kernel) h9) (fun _ => ?_)
      refine lv_aload_n hx hb dX12_tried_31 rfl (lv_at hl 0 rfl) ?_
      refine lv_bipush (v := 8) hx hb dX12_tried_32 (by decide) ?_
      refine z_callVi (As := [.int 8]) (rest := []) (wr := [(a_shared, .inl (cA.1 1, 20, .inr (.inl g_shared))), (a_c, .inl (cA.1 0, 1825, .inl g_c)), (a_there, .inl (cA.1 0, 10, .inl n_9))]) ⟨hx, hb, hml, hown, hts⟩ hK hE hT hP hD hS hA (r_no l G cA h0 0 0 m_above m_under a_traySort a_trayMany a_numbers a_tape m_taped m_textEnd m_faultKind m_faultAt m_bad m_badAt m_token m_at m_behind m_number m_letters m_word a_c a_words m_markMany a_there a_tried a_best a_found n_8 m_foundMany m_orderHow m_orderRing m_orderMany m_hasBest m_bestTop m_bestBy a_weights a_shared m_random m_truePlace m_trueWay m_seconds m_done m_feelings m_tries m_leftOver m_playDoor m_playRing m_isOpen m_isOver m_wasTried m_hasPlayed a_feltNow a_last a_kept m_hasSeconds m_hasTurned m_hasRound a_hasFeels a_isOn m_firstAct m_meanTop m_meanBy a_order m_rowMany m_newSteps 8) lk_RX12_97 ⟨rfl, rfl⟩ ⟨Nat.le_of_ble_eq_true rfl, Nat.le_of_ble_eq_true rfl⟩ 12 rfl rfl rfl [1] [0, 2, 3] rfl rfl (by decide) rfl hl.1 rfl (lv_room (Nat.le_of_ble_eq_true rfl)) dX12_tried_34 ⟨Nat.le_of_ble_eq_true rfl, Nat.le_of_ble_eq_true rfl⟩ (fun r_13 u_14 H locs hw hP hD hS => ?_)
      obtain ⟨n_12, rfl⟩ : ∃ z, z = u_14 := ⟨_, rfl⟩
      obtain ⟨he_r_13, he_n_12, hw⟩ := hw
      obtain ⟨rfl, -⟩ := hw
      have hpost : ((0 : Int32) = 0 ∧ (0 ≤ (0 : Int32).toInt ∧ (0 : Int32).toInt ≤ 0) ∧ (0 ≤ n_8.toInt ∧ n_8.toInt ≤ 10) ∧ (zRg 10 0 9 n_9) ∧ (zC g_c) ∧ (zHG g_c g_c)) ∨ ((0 : Int32) = 1 ∧ (0 ≤ n_12.toInt ∧ n_12.toInt ≤ 0) ∧ (0 ≤ (0 : Int32).toInt ∧ (0 : Int32).toInt ≤ 0) ∧ (0 ≤ n_8.toInt ∧ n_8.toInt ≤ 10) ∧ (zRg 10 0 9 n_9) ∧ (zC g_c) ∧ (zHG g_c g_c)) := (Or.inl ⟨rfl, ⟨(by decide +kernel), hr_n_8, hC_n_9, hC_g_c, (zHG_refl g_c)⟩⟩)
      exact hret _ _ _ _ _ _ (n_12, 0, n_8, n_9, g_c, g_shared) [3, 1, 2, 0] hP hD hS rfl (by decide) dX12_tried_37 (Or.inl rfl) hpost
    · skip
      refine lv_if_ne (tgt := 38) hx hb dX12_tried_28 (by decide) (fun _ => ?_) (fun h9 => absurd h9 (by decide +kernel))
      refine lv_aload_n hx hb dX12_tried_38 rfl (lv_at hl 0 rfl) ?_
      refine lv_iload_n hx hb dX12_tried_39 rfl (lv_at hl 1 rfl) ?_
      refine lv_iload_n hx hb dX12_tried_40 rfl (lv_at hl 2 rfl) ?_
      refine z_callVi (As := [.int d, .int o]) (rest := []) (wr := []) ⟨hx, hb, hml, hown, hts⟩ hK hE hT hP hD hS hA (r_tryAs l G cA h0 0 0 m_above m_under a_traySort a_trayMany a_numbers a_tape m_taped m_textEnd m_faultKind m_faultAt m_bad m_badAt m_token m_at m_behind m_number m_letters m_word a_c a_words m_markMany a_there a_tried a_best a_found n_8 m_foundMany m_orderHow m_orderRing m_orderMany m_hasBest m_bestTop m_bestBy a_weights a_shared m_random m_truePlace m_trueWay m_seconds m_done m_feelings m_tries m_leftOver m_playDoor m_playRing m_isOpen m_isOver m_wasTried m_hasPlayed a_feltNow a_last a_kept m_hasSeconds m_hasTurned m_hasRound a_hasFeels a_isOn m_firstAct m_meanTop m_meanBy a_order m_rowMany m_newSteps g_c n_9 g_shared d o (by omega) hr_o hz_o hr_n_8 hC_g_c hC_n_9) lk_RX12_348 ⟨rfl, rfl⟩ ⟨Nat.le_of_ble_eq_true rfl, Nat.le_of_ble_eq_true rfl⟩ 12 rfl rfl rfl [1, 2, 3, 0] [] rfl rfl (by decide) rfl hl.1 rfl (lv_room (Nat.le_of_ble_eq_true rfl)) dX12_tried_41 ⟨Nat.le_of_ble_eq_true rfl, Nat.le_of_ble_eq_true rfl⟩ (fun r_17 u_18 H locs hw hP hD hS => ?_)
      obtain ⟨n_15, n_16⟩ := u_18
      try dsimp only at hw
      rcases hw with ⟨rfl, hC_n_15, hf_19⟩ | ⟨rfl, hC_n_15, hf_20⟩
      · skip
        have hs_21 : zHG g_c n_15 := (zHG_trans (zHG_refl g_c) (zHG_PF hf_19))
        refine lv_if_ne (tgt := 56) hx hb dX12_tried_44 (by decide) (fun h9 => absurd (by decide +kernel) h9) (fun _ => ?_)
        refine lv_aload_n hx hb dX12_tried_47 rfl (lv_at hl 0 rfl) ?_
        refine lv_bipush (v := 9) hx hb dX12_tried_48 (by decide) ?_
        refine z_callVi (As := [.int 9]) (rest := []) (wr := [(a_c, .inl (cA.1 0, 1825, .inl n_15)), (a_there, .inl (cA.1 0, 10, .inl n_9)), (a_shared, .inl (cA.1 1, 20, .inr (.inl n_16)))]) ⟨hx, hb, hml, hown, hts⟩ hK hE hT hP hD hS hA (r_no l G cA h0 0 0 m_above m_under a_traySort a_trayMany a_numbers a_tape m_taped m_textEnd m_faultKind m_faultAt m_bad m_badAt m_token m_at m_behind m_number m_letters m_word a_c a_words m_markMany a_there a_tried a_best a_found n_8 m_foundMany m_orderHow m_orderRing m_orderMany m_hasBest m_bestTop m_bestBy a_weights a_shared m_random m_truePlace m_trueWay m_seconds m_done m_feelings m_tries m_leftOver m_playDoor m_playRing m_isOpen m_isOver m_wasTried m_hasPlayed a_feltNow a_last a_kept m_hasSeconds m_hasTurned m_hasRound a_hasFeels a_isOn m_firstAct m_meanTop m_meanBy a_order m_rowMany m_newSteps 9) lk_RX12_97 ⟨rfl, rfl⟩ ⟨Nat.le_of_ble_eq_true rfl, Nat.le_of_ble_eq_true rfl⟩ 12 rfl rfl rfl [0] [1, 2, 3] rfl rfl (by decide) rfl hl.1 rfl (lv_room (Nat.le_of_ble_eq_true rfl)) dX12_tried_50 ⟨Nat.le_of_ble_eq_true rfl, Nat.le_of_ble_eq_true rfl⟩ (fun r_23 u_24 H locs hw hP hD hS => ?_)
        obtain ⟨n_22, rfl⟩ : ∃ z, z = u_24 := ⟨_, rfl⟩
        obtain ⟨he_r_23, he_n_22, hw⟩ := hw
        obtain ⟨rfl, -⟩ := hw
        refine lv_if_eq (tgt := 60) hx hb dX12_tried_53 (by decide) (fun _ => ?_) (fun h9 => absurd (by decide +kernel) h9)
        refine lv_iconst (v := 0) hx hb dX12_tried_60 (by decide) ?_
        have hpost : ((0 : Int32) = 0 ∧ (0 ≤ (0 : Int32).toInt ∧ (0 : Int32).toInt ≤ 0) ∧ (0 ≤ n_8.toInt ∧ n_8.toInt ≤ 10) ∧ (zRg 10 0 9 n_9) ∧ (zC n_15) ∧ (zHG g_c n_15)) ∨ ((0 : Int32) = 1 ∧ (0 ≤ n_22.toInt ∧ n_22.toInt ≤ 0) ∧ (0 ≤ (0 : Int32).toInt ∧ (0 : Int32).toInt ≤ 0) ∧ (0 ≤ n_8.toInt ∧ n_8.toInt ≤ 10) ∧ (zRg 10 0 9 n_9) ∧ (zC n_15) ∧ (zHG g_c n_15)) := (Or.inl ⟨rfl, ⟨(by decide +kernel), hr_n_8, hC_n_9, hC_n_15, hs_21⟩⟩)
        exact hret _ _ _ _ _ _ (n_22, 0, n_8, n_9, n_15, n_16) [3, 0, 1, 2] hP hD hS rfl (by decide) dX12_tried_61 (Or.inl rfl) hpost
      · skip
        have hs_25 : zHG g_c n_15 := (zHG_trans (zHG_refl g_c) (zHG_PF hf_20))
        refine lv_if_ne (tgt := 56) hx hb dX12_tried_44 (by decide) (fun _ => ?_) (fun h9 => absurd h9 (by decide +kernel))
        refine lv_iconst (v := 1) hx hb dX12_tried_56 (by decide) ?_
        refine lv_goto (tgt := 61) hx hb dX12_tried_57 (by decide) ?_
        have hpost : ((1 : Int32) = 0 ∧ (0 ≤ (0 : Int32).toInt ∧ (0 : Int32).toInt ≤ 0) ∧ (0 ≤ n_8.toInt ∧ n_8.toInt ≤ 10) ∧ (zRg 10 0 9 n_9) ∧ (zC n_15) ∧ (zHG g_c n_15)) ∨ ((1 : Int32) = 1 ∧ (0 ≤ (0 : Int32).toInt ∧ (0 : Int32).toInt ≤ 0) ∧ (0 ≤ (0 : Int32).toInt ∧ (0 : Int32).toInt ≤ 0) ∧ (0 ≤ n_8.toInt ∧ n_8.toInt ≤ 10) ∧ (zRg 10 0 9 n_9) ∧ (zC n_15) ∧ (zHG g_c n_15)) := (Or.inr ⟨rfl, ⟨(by decide +kernel), (by decide +kernel), hr_n_8, hC_n_9, hC_n_15, hs_25⟩⟩)
        exact hret _ _ _ _ _ _ (0, 0, n_8, n_9, n_15, n_16) [0, 1, 2, 3] hP hD hS rfl (by decide) dX12_tried_61 (Or.inr rfl) hpost
set_option maxHeartbeats 4000000 in
set_option maxRecDepth 100000 in
theorem r_fraction (l : Launch) (G : va_G) (cA : zCA) (h0 : Nat) (m_status : Int32) (m_thrown : Int32) (m_above : Int64) (m_under : Int64) (a_traySort : Nat) (a_trayMany : Nat) (a_numbers : Nat) (a_tape : Nat) (m_taped : Int32) (m_textEnd : Int32) (m_faultKind : Int32) (m_faultAt : Int32) (m_bad : Int32) (m_badAt : Int32) (m_token : Int32) (m_at : Int32) (m_behind : Int32) (m_number : Int32) (m_letters : Int32) (m_word : Int64) (a_c : Nat) (a_words : Nat) (m_markMany : Int32) (a_there : Nat) (a_tried : Nat) (a_best : Nat) (a_found : Nat) (m_thereMany : Int32) (m_foundMany : Int32) (m_orderHow : Int32) (m_orderRing : Int32) (m_orderMany : Int32) (m_hasBest : Int32) (m_bestTop : Int64) (m_bestBy : Int64) (a_weights : Nat) (a_shared : Nat) (m_random : Int32) (m_truePlace : Int32) (m_trueWay : Int32) (m_seconds : Int32) (m_done : Int32) (m_feelings : Int32) (m_tries : Int32) (m_leftOver : Int32) (m_playDoor : Int32) (m_playRing : Int32) (m_isOpen : Int32) (m_isOver : Int32) (m_wasTried : Int32) (m_hasPlayed : Int32) (a_feltNow : Nat) (a_last : Nat) (a_kept : Nat) (m_hasSeconds : Int32) (m_hasTurned : Int32) (m_hasRound : Int32) (a_hasFeels : Nat) (a_isOn : Nat) (m_firstAct : Int32) (m_meanTop : Int64) (m_meanBy : Int64) (a_order : Nat) (m_rowMany : Int32) (m_newSteps : Int32) (t : Int64) (b : Int64) (hp_0 : b.toInt ≠ 0) : zCi l yX12_fraction cX12_fraction 11 (some .boolean) ({ frames := 1, cells := 0, slots := 0, locals := 21 }) G cA [.ref h0, .long t, .long b] [(h0, .inr (12, [.int m_status, .int m_thrown, .long m_above, .long m_under, .ref a_traySort, .ref a_trayMany, .ref a_numbers, .ref a_tape, .int m_taped, .int m_textEnd, .int m_faultKind, .int m_faultAt, .int m_bad, .int m_badAt, .int m_token, .int m_at, .int m_behind, .int m_number, .int m_letters, .long m_word, .ref a_c, .ref a_words, .int m_markMany, .ref a_there, .ref a_tried, .ref a_best, .ref a_found, .int m_thereMany, .int m_foundMany, .int m_orderHow, .int m_orderRing, .int m_orderMany, .int m_hasBest, .long m_bestTop, .long m_bestBy, .ref a_weights, .ref a_shared, .int m_random, .int m_truePlace, .int m_trueWay, .int m_seconds, .int m_done, .int m_feelings, .int m_tries, .int m_leftOver, .int m_playDoor, .int m_playRing, .int m_isOpen, .int m_isOver, .int m_wasTried, .int m_hasPlayed, .ref a_feltNow, .ref a_last, .ref a_kept, .int m_hasSeconds, .int m_hasTurned, .int m_hasRound, .ref a_hasFeels, .ref a_isOn, .int m_firstAct, .long m_meanTop, .long m_meanBy, .ref a_order, .int m_rowMany, .int m_newSteps]))] (S := Int64 × Int64) (fun (r : Int32) (u : Int64 × Int64) => (r = 1 ∧ True)) (fun (u : Int64 × Int64) => [(h0, .inr (12, [.int m_status, .int m_thrown, .long u.1, .long u.2, .ref a_traySort, .ref a_trayMany, .ref a_numbers, .ref a_tape, .int m_taped, .int m_textEnd, .int m_faultKind, .int m_faultAt, .int m_bad, .int m_badAt, .int m_token, .int m_at, .int m_behind, .int m_number, .int m_letters, .long m_word, .ref a_c, .ref a_words, .int m_markMany, .ref a_there, .ref a_tried, .ref a_best, .ref a_found, .int m_thereMany, .int m_foundMany, .int m_orderHow, .int m_orderRing, .int m_orderMany, .int m_hasBest, .long m_bestTop, .long m_bestBy, .ref a_weights, .ref a_shared, .int m_random, .int m_truePlace, .int m_trueWay, .int m_seconds, .int m_done, .int m_feelings, .int m_tries, .int m_leftOver, .int m_playDoor, .int m_playRing, .int m_isOpen, .int m_isOver, .int m_wasTried, .int m_hasPlayed, .ref a_feltNow, .ref a_last, .ref a_kept, .int m_hasSeconds, .int m_hasTurned, .int m_hasRound, .ref a_hasFeels, .ref a_isOn, .int m_firstAct, .long m_meanTop, .long m_meanBy, .ref a_order, .int m_rowMany, .int m_newSteps]))]) 0 0 := by
  have hkl_0 : (0 : Int64).toInt = 0 := by decide +kernel
  refine z_start2z (own := RX12) (by decide) (Nat.le_of_ble_eq_true rfl) rfl ?_
  intro p e s m args below meth c A ls Q hx hb hml hts hown hK hE hT hP hD hS hA hl hret
  have hl : lv_has ls 11 [(0, .ref h0), (1, .long t), (3, .long b)] := hl
  refine lv_lload_n hx hb dX12_fraction_0 rfl (lv_at hl 1 rfl) ?_
  refine z_callSl (As := [.long t]) (rest := []) (wr := [(h0, .inr (12, [.int m_status, .int m_thrown, .long m_above, .long m_under, .ref a_traySort, .ref a_trayMany, .ref a_numbers, .ref a_tape, .int m_taped, .int m_textEnd, .int m_faultKind, .int m_faultAt, .int m_bad, .int m_badAt, .int m_token, .int m_at, .int m_behind, .int m_number, .int m_letters, .long m_word, .ref a_c, .ref a_words, .int m_markMany, .ref a_there, .ref a_tried, .ref a_best, .ref a_found, .int m_thereMany, .int m_foundMany, .int m_orderHow, .int m_orderRing, .int m_orderMany, .int m_hasBest, .long m_bestTop, .long m_bestBy, .ref a_weights, .ref a_shared, .int m_random, .int m_truePlace, .int m_trueWay, .int m_seconds, .int m_done, .int m_feelings, .int m_tries, .int m_leftOver, .int m_playDoor, .int m_playRing, .int m_isOpen, .int m_isOver, .int m_wasTried, .int m_hasPlayed, .ref a_feltNow, .ref a_last, .ref a_kept, .int m_hasSeconds, .int m_hasTurned, .int m_hasRound, .ref a_hasFeels, .ref a_isOn, .int m_firstAct, .long m_meanTop, .long m_meanBy, .ref a_order, .int m_rowMany, .int m_newSteps]))]) ⟨hx, hb, hml, hown, hts⟩ hK hE hT hP hD hS hA (r_Ma_abs l G cA t) lk_RX12_91 ⟨rfl, rfl⟩ ⟨Nat.le_of_ble_eq_true rfl, Nat.le_of_ble_eq_true rfl⟩ [] [0] rfl rfl (by decide) rfl hl.1 rfl (lv_room (Nat.le_of_ble_eq_true rfl)) dX12_fraction_1 ⟨Nat.le_of_ble_eq_true rfl, Nat.le_of_ble_eq_true rfl⟩ (fun r_1 u_2 H locs hw hP hD hS => ?_)
  refine lv_lstore (lv' := [(5, .long r_1), (0, .ref h0), (1, .long t), (3, .long b)]) hx hb dX12_fraction_4 hl (by decide) rfl (fun ls hl => ?_)
  refine lv_lload_n hx hb dX12_fraction_6 rfl (lv_at hl 3 rfl) ?_
  refine lv_lstore (lv' := [(7, .long b), (5, .long r_1), (0, .ref h0), (1, .long t), (3, .long b)]) hx hb dX12_fraction_7 hl (by decide) rfl (fun ls hl => ?_)
  have hlp_20 : ∀ (n : Nat) (v_13 : Int64) (v_14 : Int64) (H : Heap) (locs : List Loc) (ls : Array Slot), v_14.toInt.natAbs < n → (v_13.toInt ≠ 0 ∨ v_14.toInt ≠ 0) → va_P G vwCl [(h0, .inr (12, [.int m_status, .int m_thrown, .long m_above, .long m_under, .ref a_traySort, .ref a_trayMany, .ref a_numbers, .ref a_tape, .int m_taped, .int m_textEnd, .int m_faultKind, .int m_faultAt, .int m_bad, .int m_badAt, .int m_token, .int m_at, .int m_behind, .int m_number, .int m_letters, .long m_word, .ref a_c, .ref a_words, .int m_markMany, .ref a_there, .ref a_tried, .ref a_best, .ref a_found, .int m_thereMany, .int m_foundMany, .int m_orderHow, .int m_orderRing, .int m_orderMany, .int m_hasBest, .long m_bestTop, .long m_bestBy, .ref a_weights, .ref a_shared, .int m_random, .int m_truePlace, .int m_trueWay, .int m_seconds, .int m_done, .int m_feelings, .int m_tries, .int m_leftOver, .int m_playDoor, .int m_playRing, .int m_isOpen, .int m_isOver, .int m_wasTried, .int m_hasPlayed, .ref a_feltNow, .ref a_last, .ref a_kept, .int m_hasSeconds, .int m_hasTurned, .int m_hasRound, .ref a_hasFeels, .ref a_isOn, .int m_firstAct, .long m_meanTop, .long m_meanBy, .ref a_order, .int m_rowMany, .int m_newSteps]))] H → va_D A [(h0, .inr (12, [.int m_status, .int m_thrown, .long m_above, .long m_under, .ref a_traySort, .ref a_trayMany, .ref a_numbers, .ref a_tape, .int m_taped, .int m_textEnd, .int m_faultKind, .int m_faultAt, .int m_bad, .int m_badAt, .int m_token, .int m_at, .int m_behind, .int m_number, .int m_letters, .long m_word, .ref a_c, .ref a_words, .int m_markMany, .ref a_there, .ref a_tried, .ref a_best, .ref a_found, .int m_thereMany, .int m_foundMany, .int m_orderHow, .int m_orderRing, .int m_orderMany, .int m_hasBest, .long m_bestTop, .long m_bestBy, .ref a_weights, .ref a_shared, .int m_random, .int m_truePlace, .int m_trueWay, .int m_seconds, .int m_done, .int m_feelings, .int m_tries, .int m_leftOver, .int m_playDoor, .int m_playRing, .int m_isOpen, .int m_isOver, .int m_wasTried, .int m_hasPlayed, .ref a_feltNow, .ref a_last, .ref a_kept, .int m_hasSeconds, .int m_hasTurned, .int m_hasRound, .ref a_hasFeels, .ref a_isOn, .int m_firstAct, .long m_meanTop, .long m_meanBy, .ref a_order, .int m_rowMany, .int m_newSteps]))] → va_S A s.heap H locs → lv_has ls 11 [(0, .ref h0), (1, .long t), (3, .long b), (5, .long v_13), (7, .long v_14)] → W p l e ({ frames := 1, cells := 0, slots := 0, locals := 21 }) s m args below meth c H locs 0 0 Q (F0 m 9 ls []) := by
    intro n
    induction n with
    | zero =>
      intro v_13 v_14 H locs ls hmu_hlp_20 hi_19 hP hD hS hl
      exact absurd hmu_hlp_20 (Nat.not_lt_zero _)
    | succ n ih_21 =>
      intro v_13 v_14 H locs ls hmu_hlp_20 hi_19 hP hD hS hl
      refine lv_lload hx hb dX12_fraction_9 (lv_at hl 4 rfl) ?_
      refine lv_lconst (v := 0) hx hb dX12_fraction_11 (by decide) ?_
      refine W.lcmp hx hb dX12_fraction_12 ?_
      refine lv_if_eq (tgt := 34) hx hb dX12_fraction_13 (by decide) (fun c_22 => ?_) (fun c_22 => ?_)
      · have b_23 := z_feqTl c_22
        refine lv_aload_n hx hb dX12_fraction_34 rfl (lv_at hl 0 rfl) ?_
        refine lv_lload_n hx hb dX12_fraction_35 rfl (lv_at hl 1 rfl) ?_
        refine lv_lload hx hb dX12_fraction_36 (lv_at hl 3 rfl) ?_
        refine lv_ldiv hx hb dX12_fraction_38 (z_nzl (by omega)) ?_
        have hL_t := z_fulll t
        have hL_v_13 := z_fulll v_13
        refine lv_topl (fun x_24 he_x_24 => ?_)
        refine va_put (D := G) (ci := 12) (v := .long x_24) (ty := .long) (C := RX12) (T := TX12) (N := 65) hx hb hts inT12 tyX12 tyX12_ok nmX12 hown hK hP hD hS 0 rfl rfl 2 (by decide) (hts _ tw_1887) (fun _ h9 => h9) rfl (tyX12_ok 2 (by decide)) rfl rfl (Nat.le_of_ble_eq_true rfl) dX12_fraction_39 (fun H locs hP hD hS => ?_)
        refine lv_aload_n hx hb dX12_fraction_42 rfl (lv_at hl 0 rfl) ?_
        refine lv_lload_n hx hb dX12_fraction_43 rfl (lv_at hl 2 rfl) ?_
        refine lv_lload hx hb dX12_fraction_44 (lv_at hl 3 rfl) ?_
        refine lv_ldiv hx hb dX12_fraction_46 (z_nzl (by omega)) ?_
        have hL_b := z_fulll b
        refine lv_topl (fun x_25 he_x_25 => ?_)
        refine va_put (D := G) (ci := 12) (v := .long x_25) (ty := .long) (C := RX12) (T := TX12) (N := 65) hx hb hts inT12 tyX12 tyX12_ok nmX12 hown hK hP hD hS 0 rfl rfl 3 (by decide) (hts _ tw_1888) (fun _ h9 => h9) rfl (tyX12_ok 3 (by decide)) rfl rfl (Nat.le_of_ble_eq_true rfl) dX12_fraction_47 (fun H locs hP hD hS => ?_)
        refine lv_iconst (v := 1) hx hb dX12_fraction_50 (by decide) ?_
        have hpost : ((1 : Int32) = 1 ∧ True) := ⟨rfl, trivial⟩
        exact hret _ _ _ _ _ _ (x_24, x_25) [0] hP hD hS rfl (by decide) dX12_fraction_51 (Or.inr rfl) hpost
      · have b_26 := z_fneFl c_22
        refine lv_lload hx hb dX12_fraction_16 (lv_at hl 3 rfl) ?_
        refine lv_lload hx hb dX12_fraction_18 (lv_at hl 4 rfl) ?_
        refine lv_lrem hx hb dX12_fraction_20 (z_nzl (by omega)) ?_
        have hL_v_13 := z_fulll v_13
        have hL_v_14 := z_fulll v_14
        refine lv_topl (fun x_27 he_x_27 => ?_)
        have hab_x_27 := z_remabs he_x_27 (by omega)
        refine lv_lstore (lv' := [(9, .long x_27), (0, .ref h0), (1, .long t), (3, .long b), (5, .long v_13), (7, .long v_14)]) hx hb dX12_fraction_21 hl (by decide) rfl (fun ls hl => ?_)
        refine lv_lload hx hb dX12_fraction_23 (lv_at hl 5 rfl) ?_
        refine lv_lstore (lv' := [(5, .long v_14), (9, .long x_27), (0, .ref h0), (1, .long t), (3, .long b), (7, .long v_14)]) hx hb dX12_fraction_25 hl (by decide) rfl (fun ls hl => ?_)
        refine lv_lload hx hb dX12_fraction_27 (lv_at hl 1 rfl) ?_
        refine lv_lstore (lv' := [(7, .long x_27), (5, .long v_14), (9, .long x_27), (0, .ref h0), (1, .long t), (3, .long b)]) hx hb dX12_fraction_29 hl (by decide) rfl (fun ls hl => ?_)
        refine lv_goto (tgt := 9) hx hb dX12_fraction_31 (by decide) ?_
        exact ih_21 v_14 x_27 H locs ls (by omega) (by omega) hP hD hS (lv_sub hl [3, 4, 5, 1, 0] rfl)
  exact hlp_20 _ r_1 b _ _ _ (Nat.lt_succ_self _) (by omega) hP hD hS (lv_sub hl [2, 3, 4, 1, 0] rfl)
set_option maxHeartbeats 4000000 in
set_option maxRecDepth 100000 in
theorem r_here (l : Launch) (G : va_G) (cA : zCA) (h0 : Nat) (m_status : Int32) (m_thrown : Int32) (m_above : Int64) (m_under : Int64) (a_traySort : Nat) (a_trayMany : Nat) (a_numbers : Nat) (a_tape : Nat) (m_taped : Int32) (m_textEnd : Int32) (m_faultKind : Int32) (m_faultAt : Int32) (m_bad : Int32) (m_badAt : Int32) (m_token : Int32) (m_at : Int32) (m_behind : Int32) (m_number : Int32) (m_letters : Int32) (m_word : Int64) (a_c : Nat) (a_words : Nat) (m_markMany : Int32) (a_there : Nat) (a_tried : Nat) (a_best : Nat) (a_found : Nat) (m_thereMany : Int32) (m_foundMany : Int32) (m_orderHow : Int32) (m_orderRing : Int32) (m_orderMany : Int32) (m_hasBest : Int32) (m_bestTop : Int64) (m_bestBy : Int64) (a_weights : Nat) (a_shared : Nat) (m_random : Int32) (m_truePlace : Int32) (m_trueWay : Int32) (m_seconds : Int32) (m_done : Int32) (m_feelings : Int32) (m_tries : Int32) (m_leftOver : Int32) (m_playDoor : Int32) (m_playRing : Int32) (m_isOpen : Int32) (m_isOver : Int32) (m_wasTried : Int32) (m_hasPlayed : Int32) (a_feltNow : Nat) (a_last : Nat) (a_kept : Nat) (m_hasSeconds : Int32) (m_hasTurned : Int32) (m_hasRound : Int32) (a_hasFeels : Nat) (a_isOn : Nat) (m_firstAct : Int32) (m_meanTop : Int64) (m_meanBy : Int64) (a_order : Nat) (m_rowMany : Int32) (m_newSteps : Int32) (g_c : Nat → Int32) (g_there : Nat → Int32) (k : Int32) (hr_m_thereMany : 0 ≤ m_thereMany.toInt ∧ m_thereMany.toInt ≤ 10) (hC_g_c : zC g_c) (hC_g_there : zRg 10 0 9 g_there) : zCi l yX12_here cX12_here 5 (some .boolean) ({ frames := 2, cells := 0, slots := 0, locals := 51 }) G cA [.ref h0, .int k] [(h0, .inr (12, [.int m_status, .int m_thrown, .long m_above, .long m_under, .ref a_traySort, .ref a_trayMany, .ref a_numbers, .ref a_tape, .int m_taped, .int m_textEnd, .int m_faultKind, .int m_faultAt, .int m_bad, .int m_badAt, .int m_token, .int m_at, .int m_behind, .int m_number, .int m_letters, .long m_word, .ref a_c, .ref a_words, .int m_markMany, .ref a_there, .ref a_tried, .ref a_best, .ref a_found, .int m_thereMany, .int m_foundMany, .int m_orderHow, .int m_orderRing, .int m_orderMany, .int m_hasBest, .long m_bestTop, .long m_bestBy, .ref a_weights, .ref a_shared, .int m_random, .int m_truePlace, .int m_trueWay, .int m_seconds, .int m_done, .int m_feelings, .int m_tries, .int m_leftOver, .int m_playDoor, .int m_playRing, .int m_isOpen, .int m_isOver, .int m_wasTried, .int m_hasPlayed, .ref a_feltNow, .ref a_last, .ref a_kept, .int m_hasSeconds, .int m_hasTurned, .int m_hasRound, .ref a_hasFeels, .ref a_isOn, .int m_firstAct, .long m_meanTop, .long m_meanBy, .ref a_order, .int m_rowMany, .int m_newSteps])), (a_c, .inl (cA.1 0, 1825, .inl g_c)), (a_there, .inl (cA.1 0, 10, .inl g_there))] (S := Int32 × Int32 × Int32 × (Nat → Int32) × Int64 × Int64) (fun (r : Int32) (u : Int32 × Int32 × Int32 × (Nat → Int32) × Int64 × Int64) => (r = 0 ∧ (0 ≤ u.2.1.toInt ∧ u.2.1.toInt ≤ 0) ∧ (0 ≤ u.2.2.1.toInt ∧ u.2.2.1.toInt ≤ 10) ∧ (zRg 10 0 9 u.2.2.2.1)) ∨ (r = 1 ∧ (0 ≤ u.1.toInt ∧ u.1.toInt ≤ 0) ∧ (0 ≤ u.2.1.toInt ∧ u.2.1.toInt ≤ 0) ∧ (0 ≤ u.2.2.1.toInt ∧ u.2.2.1.toInt ≤ 10) ∧ (zRg 10 0 9 u.2.2.2.1))) (fun (u : Int32 × Int32 × Int32 × (Nat → Int32) × Int64 × Int64) => [(h0, .inr (12, [.int u.1, .int u.2.1, .long u.2.2.2.2.1, .long u.2.2.2.2.2, .ref a_traySort, .ref a_trayMany, .ref a_numbers, .ref a_tape, .int m_taped, .int m_textEnd, .int m_faultKind, .int m_faultAt, .int m_bad, .int m_badAt, .int m_token, .int m_at, .int m_behind, .int m_number, .int m_letters, .long m_word, .ref a_c, .ref a_words, .int m_markMany, .ref a_there, .ref a_tried, .ref a_best, .ref a_found, .int u.2.2.1, .int m_foundMany, .int m_orderHow, .int m_orderRing, .int m_orderMany, .int m_hasBest, .long m_bestTop, .long m_bestBy, .ref a_weights, .ref a_shared, .int m_random, .int m_truePlace, .int m_trueWay, .int m_seconds, .int m_done, .int m_feelings, .int m_tries, .int m_leftOver, .int m_playDoor, .int m_playRing, .int m_isOpen, .int m_isOver, .int m_wasTried, .int m_hasPlayed, .ref a_feltNow, .ref a_last, .ref a_kept, .int m_hasSeconds, .int m_hasTurned, .int m_hasRound, .ref a_hasFeels, .ref a_isOn, .int m_firstAct, .long m_meanTop, .long m_meanBy, .ref a_order, .int m_rowMany, .int m_newSteps])), (a_c, .inl (cA.1 0, 1825, .inl g_c)), (a_there, .inl (cA.1 0, 10, .inl u.2.2.2.1))]) 0 0 := by
  have hk_0 : (0 : Int32).toInt = 0 := by decide +kernel
  have hk_1 : (1 : Int32).toInt = 1 := by decide +kernel
  have hk_2 : (2 : Int32).toInt = 2 := by decide +kernel
  have hk_8 : (8 : Int32).toInt = 8 := by decide +kernel
  have hk_160 : (160 : Int32).toInt = 160 := by decide +kernel
  have hk_1000000 : (1000000 : Int32).toInt = 1000000 := by decide +kernel
  have hkl_0 : (0 : Int64).toInt = 0 := by decide +kernel
  have hkl_1000000 : (1000000 : Int64).toInt = 1000000 := by decide +kernel
  refine z_start2z (own := RX12) (by decide) (Nat.le_of_ble_eq_true rfl) rfl ?_
  intro p e s m args below meth c A ls Q hx hb hml hts hown hK hE hT hP hD hS hA hl hret
  have hl : lv_has ls 5 [(0, .ref h0), (1, .int k)] := hl
  refine lv_aload_n hx hb dX12_here_0 rfl (lv_at hl 0 rfl) ?_
  refine lv_iconst (v := 0) hx hb dX12_here_1 (by decide) ?_
  refine va_put (D := G) (ci := 12) (v := .int 0) (ty := .int) (C := RX12) (T := TX12) (N := 65) hx hb hts inT12 tyX12 tyX12_ok nmX12 hown hK hP hD hS 0 rfl rfl 1 (by decide) (hts _ tw_1886) (fun _ h9 => h9) rfl (tyX12_ok 1 (by decide)) rfl rfl (Nat.le_of_ble_eq_true rfl) dX12_here_2 (fun H locs hP hD hS => ?_)
  refine lv_aload_n hx hb dX12_here_5 rfl (lv_at hl 0 rfl) ?_
  refine lv_iconst (v := 0) hx hb dX12_here_6 (by decide) ?_
  refine va_put (D := G) (ci := 12) (v := .int 0) (ty := .int) (C := RX12) (T := TX12) (N := 65) hx hb hts inT12 tyX12 tyX12_ok nmX12 hown hK hP hD hS 0 rfl rfl 0 (by decide) (hts _ tw_1885) (fun _ h9 => h9) rfl (tyX12_ok 0 (by decide)) rfl rfl (Nat.le_of_ble_eq_true rfl) dX12_here_7 (fun H locs hP hD hS => ?_)
  refine lv_aload_n hx hb dX12_here_10 rfl (lv_at hl 0 rfl) ?_
  refine lv_iload_n hx hb dX12_here_11 rfl (lv_at hl 1 rfl) ?_
  refine lv_i2l (v := (k).toInt64) hx hb dX12_here_12 rfl ?_
  refine lv_topl (fun x_1 he_x_1 => ?_)
  have hq_x_1 := z_i2l he_x_1
  have hL_k := z_full k
  refine z_callVi (As := [.long x_1]) (rest := []) (wr := [(a_there, .inl (cA.1 0, 10, .inl g_there))]) ⟨hx, hb, hml, hown, hts⟩ hK hE hT hP hD hS hA (r_isKey l G cA h0 0 0 m_above m_under a_traySort a_trayMany a_numbers a_tape m_taped m_textEnd m_faultKind m_faultAt m_bad m_badAt m_token m_at m_behind m_number m_letters m_word a_c a_words m_markMany a_there a_tried a_best a_found m_thereMany m_foundMany m_orderHow m_orderRing m_orderMany m_hasBest m_bestTop m_bestBy a_weights a_shared m_random m_truePlace m_trueWay m_seconds m_done m_feelings m_tries m_leftOver m_playDoor m_playRing m_isOpen m_isOver m_wasTried m_hasPlayed a_feltNow a_last a_kept m_hasSeconds m_hasTurned m_hasRound a_hasFeels a_isOn m_firstAct m_meanTop m_meanBy a_order m_rowMany m_newSteps g_c x_1 hC_g_c) lk_RX12_275 ⟨rfl, rfl⟩ ⟨Nat.le_of_ble_eq_true rfl, Nat.le_of_ble_eq_true rfl⟩ 12 rfl rfl rfl [0, 1] [2] rfl rfl (by decide) rfl hl.1 rfl (lv_room (Nat.le_of_ble_eq_true rfl)) dX12_here_13 ⟨Nat.le_of_ble_eq_true rfl, Nat.le_of_ble_eq_true rfl⟩ (fun r_2 u_3 H locs hw hP hD hS => ?_)
  obtain ⟨he_r_2, hw⟩ := hw
  rcases hw with ⟨rfl, -⟩ | ⟨rfl, hf_4, hf_5⟩
  · skip
    refine lv_if_ne (tgt := 25) hx hb dX12_here_16 (by decide) (fun h9 => absurd (by decide +kernel) h9) (fun _ => ?_)
    refine lv_aload_n hx hb dX12_here_19 rfl (lv_at hl 0 rfl) ?_
    refine lv_iconst (v := 2) hx hb dX12_here_20 (by decide) ?_
    refine z_callVi (As := [.int 2]) (rest := []) (wr := [(a_there, .inl (cA.1 0, 10, .inl g_there)), (a_c, .inl (cA.1 0, 1825, .inl g_c))]) ⟨hx, hb, hml, hown, hts⟩ hK hE hT hP hD hS hA (r_no l G cA h0 0 0 m_above m_under a_traySort a_trayMany a_numbers a_tape m_taped m_textEnd m_faultKind m_faultAt m_bad m_badAt m_token m_at m_behind m_number m_letters m_word a_c a_words m_markMany a_there a_tried a_best a_found m_thereMany m_foundMany m_orderHow m_orderRing m_orderMany m_hasBest m_bestTop m_bestBy a_weights a_shared m_random m_truePlace m_trueWay m_seconds m_done m_feelings m_tries m_leftOver m_playDoor m_playRing m_isOpen m_isOver m_wasTried m_hasPlayed a_feltNow a_last a_kept m_hasSeconds m_hasTurned m_hasRound a_hasFeels a_isOn m_firstAct m_meanTop m_meanBy a_order m_rowMany m_newSteps 2) lk_RX12_97 ⟨rfl, rfl⟩ ⟨Nat.le_of_ble_eq_true rfl, Nat.le_of_ble_eq_true rfl⟩ 12 rfl rfl rfl [1] [0, 2] rfl rfl (by decide) rfl hl.1 rfl (lv_room (Nat.le_of_ble_eq_true rfl)) dX12_here_21 ⟨Nat.le_of_ble_eq_true rfl, Nat.le_of_ble_eq_true rfl⟩ (fun r_7 u_8 H locs hw hP hD hS => ?_)
    obtain ⟨n_6, rfl⟩ : ∃ z, z = u_8 := ⟨_, rfl⟩
    obtain ⟨he_r_7, he_n_6, hw⟩ := hw
    obtain ⟨rfl, -⟩ := hw
    have hpost : ((0 : Int32) = 0 ∧ (0 ≤ (0 : Int32).toInt ∧ (0 : Int32).toInt ≤ 0) ∧ (0 ≤ m_thereMany.toInt ∧ m_thereMany.toInt ≤ 10) ∧ (zRg 10 0 9 g_there)) ∨ ((0 : Int32) = 1 ∧ (0 ≤ n_6.toInt ∧ n_6.toInt ≤ 0) ∧ (0 ≤ (0 : Int32).toInt ∧ (0 : Int32).toInt ≤ 0) ∧ (0 ≤ m_thereMany.toInt ∧ m_thereMany.toInt ≤ 10) ∧ (zRg 10 0 9 g_there)) := (Or.inl ⟨rfl, ⟨(by decide +kernel), hr_m_thereMany, hC_g_there⟩⟩)
    exact hret _ _ _ _ _ _ (n_6, 0, m_thereMany, g_there, m_above, m_under) [2, 1, 0] hP hD hS rfl (by decide) dX12_here_24 (Or.inl rfl) hpost
  · skip
    refine lv_if_ne (tgt := 25) hx hb dX12_here_16 (by decide) (fun _ => ?_) (fun h9 => absurd h9 (by decide +kernel))
    refine lv_aload_n hx hb dX12_here_25 rfl (lv_at hl 0 rfl) ?_
    refine z_callVi (As := []) (rest := []) (wr := []) ⟨hx, hb, hml, hown, hts⟩ hK hE hT hP hD hS hA (r_isHeld l G cA h0 0 0 m_above m_under a_traySort a_trayMany a_numbers a_tape m_taped m_textEnd m_faultKind m_faultAt m_bad m_badAt m_token m_at m_behind m_number m_letters m_word a_c a_words m_markMany a_there a_tried a_best a_found m_thereMany m_foundMany m_orderHow m_orderRing m_orderMany m_hasBest m_bestTop m_bestBy a_weights a_shared m_random m_truePlace m_trueWay m_seconds m_done m_feelings m_tries m_leftOver m_playDoor m_playRing m_isOpen m_isOver m_wasTried m_hasPlayed a_feltNow a_last a_kept m_hasSeconds m_hasTurned m_hasRound a_hasFeels a_isOn m_firstAct m_meanTop m_meanBy a_order m_rowMany m_newSteps g_c g_there hr_m_thereMany hC_g_c hC_g_there) lk_RX12_323 ⟨rfl, rfl⟩ ⟨Nat.le_of_ble_eq_true rfl, Nat.le_of_ble_eq_true rfl⟩ 12 rfl rfl rfl [1, 2, 0] [] rfl rfl (by decide) rfl hl.1 rfl (lv_room (Nat.le_of_ble_eq_true rfl)) dX12_here_26 ⟨Nat.le_of_ble_eq_true rfl, Nat.le_of_ble_eq_true rfl⟩ (fun r_11 u_12 H locs hw hP hD hS => ?_)
    obtain ⟨n_9, n_10⟩ := u_12
    try dsimp only at hw
    rcases hw with ⟨rfl, hr_n_9, hC_n_10⟩ | ⟨rfl, hr_n_9, hC_n_10⟩
    · skip
      refine lv_if_ne (tgt := 39) hx hb dX12_here_29 (by decide) (fun h9 => absurd (by decide +kernel) h9) (fun _ => ?_)
      refine lv_aload_n hx hb dX12_here_32 rfl (lv_at hl 0 rfl) ?_
      refine lv_bipush (v := 8) hx hb dX12_here_33 (by decide) ?_
      refine z_callVi (As := [.int 8]) (rest := []) (wr := [(a_c, .inl (cA.1 0, 1825, .inl g_c)), (a_there, .inl (cA.1 0, 10, .inl n_10))]) ⟨hx, hb, hml, hown, hts⟩ hK hE hT hP hD hS hA (r_no l G cA h0 0 0 m_above m_under a_traySort a_trayMany a_numbers a_tape m_taped m_textEnd m_faultKind m_faultAt m_bad m_badAt m_token m_at m_behind m_number m_letters m_word a_c a_words m_markMany a_there a_tried a_best a_found n_9 m_foundMany m_orderHow m_orderRing m_orderMany m_hasBest m_bestTop m_bestBy a_weights a_shared m_random m_truePlace m_trueWay m_seconds m_done m_feelings m_tries m_leftOver m_playDoor m_playRing m_isOpen m_isOver m_wasTried m_hasPlayed a_feltNow a_last a_kept m_hasSeconds m_hasTurned m_hasRound a_hasFeels a_isOn m_firstAct m_meanTop m_meanBy a_order m_rowMany m_newSteps 8) lk_RX12_97 ⟨rfl, rfl⟩ ⟨Nat.le_of_ble_eq_true rfl, Nat.le_of_ble_eq_true rfl⟩ 12 rfl rfl rfl [0] [1, 2] rfl rfl (by decide) rfl hl.1 rfl (lv_room (Nat.le_of_ble_eq_true rfl)) dX12_here_35 ⟨Nat.le_of_ble_eq_true rfl, Nat.le_of_ble_eq_true rfl⟩ (fun r_14 u_15 H locs hw hP hD hS => ?_)
      obtain ⟨n_13, rfl⟩ : ∃ z, z = u_15 := ⟨_, rfl⟩
      obtain ⟨he_r_14, he_n_13, hw⟩ := hw
      obtain ⟨rfl, -⟩ := hw
      have hpost : ((0 : Int32) = 0 ∧ (0 ≤ (0 : Int32).toInt ∧ (0 : Int32).toInt ≤ 0) ∧ (0 ≤ n_9.toInt ∧ n_9.toInt ≤ 10) ∧ (zRg 10 0 9 n_10)) ∨ ((0 : Int32) = 1 ∧ (0 ≤ n_13.toInt ∧ n_13.toInt ≤ 0) ∧ (0 ≤ (0 : Int32).toInt ∧ (0 : Int32).toInt ≤ 0) ∧ (0 ≤ n_9.toInt ∧ n_9.toInt ≤ 10) ∧ (zRg 10 0 9 n_10)) := (Or.inl ⟨rfl, ⟨(by decide +kernel), hr_n_9, hC_n_10⟩⟩)
      exact hret _ _ _ _ _ _ (n_13, 0, n_9, n_10, m_above, m_under) [2, 0, 1] hP hD hS rfl (by decide) dX12_here_38 (Or.inl rfl) hpost
    · skip
      refine lv_if_ne (tgt := 39) hx hb dX12_here_29 (by decide) (fun _ => ?_) (fun h9 => absurd h9 (by decide +kernel))
      refine lv_lconst (v := 0) hx hb dX12_here_39 (by decide) ?_
      refine lv_lstore_n (lv' := [(2, .long 0), (0, .ref h0), (1, .int k)]) hx hb dX12_here_40 rfl hl (by decide) rfl (fun ls hl => ?_)
      refine lv_iconst (v := 0) hx hb dX12_here_41 (by decide) ?_
      refine lv_istore (lv' := [(4, .int 0), (2, .long 0), (0, .ref h0), (1, .int k)]) hx hb dX12_here_42 hl (by decide) rfl (fun ls hl => ?_)
      have hlp_387 : ∀ (n : Nat) (v_369 : Int64) (v_370 : Int32) (H : Heap) (locs : List Loc) (ls : Array Slot), (2147483647 - v_370.toInt).toNat < n → (0 ≤ v_370.toInt ∧ v_370.toInt ≤ 20) → va_P G vwCl [(h0, .inr (12, [.int 0, .int 0, .long m_above, .long m_under, .ref a_traySort, .ref a_trayMany, .ref a_numbers, .ref a_tape, .int m_taped, .int m_textEnd, .int m_faultKind, .int m_faultAt, .int m_bad, .int m_badAt, .int m_token, .int m_at, .int m_behind, .int m_number, .int m_letters, .long m_word, .ref a_c, .ref a_words, .int m_markMany, .ref a_there, .ref a_tried, .ref a_best, .ref a_found, .int n_9, .int m_foundMany, .int m_orderHow, .int m_orderRing, .int m_orderMany, .int m_hasBest, .long m_bestTop, .long m_bestBy, .ref a_weights, .ref a_shared, .int m_random, .int m_truePlace, .int m_trueWay, .int m_seconds, .int m_done, .int m_feelings, .int m_tries, .int m_leftOver, .int m_playDoor, .int m_playRing, .int m_isOpen, .int m_isOver, .int m_wasTried, .int m_hasPlayed, .ref a_feltNow, .ref a_last, .ref a_kept, .int m_hasSeconds, .int m_hasTurned, .int m_hasRound, .ref a_hasFeels, .ref a_isOn, .int m_firstAct, .long m_meanTop, .long m_meanBy, .ref a_order, .int m_rowMany, .int m_newSteps])), (a_c, .inl (cA.1 0, 1825, .inl g_c)), (a_there, .inl (cA.1 0, 10, .inl n_10))] H → va_D A [(h0, .inr (12, [.int 0, .int 0, .long m_above, .long m_under, .ref a_traySort, .ref a_trayMany, .ref a_numbers, .ref a_tape, .int m_taped, .int m_textEnd, .int m_faultKind, .int m_faultAt, .int m_bad, .int m_badAt, .int m_token, .int m_at, .int m_behind, .int m_number, .int m_letters, .long m_word, .ref a_c, .ref a_words, .int m_markMany, .ref a_there, .ref a_tried, .ref a_best, .ref a_found, .int n_9, .int m_foundMany, .int m_orderHow, .int m_orderRing, .int m_orderMany, .int m_hasBest, .long m_bestTop, .long m_bestBy, .ref a_weights, .ref a_shared, .int m_random, .int m_truePlace, .int m_trueWay, .int m_seconds, .int m_done, .int m_feelings, .int m_tries, .int m_leftOver, .int m_playDoor, .int m_playRing, .int m_isOpen, .int m_isOver, .int m_wasTried, .int m_hasPlayed, .ref a_feltNow, .ref a_last, .ref a_kept, .int m_hasSeconds, .int m_hasTurned, .int m_hasRound, .ref a_hasFeels, .ref a_isOn, .int m_firstAct, .long m_meanTop, .long m_meanBy, .ref a_order, .int m_rowMany, .int m_newSteps])), (a_c, .inl (cA.1 0, 1825, .inl g_c)), (a_there, .inl (cA.1 0, 10, .inl n_10))] → va_S A s.heap H locs → lv_has ls 5 [(0, .ref h0), (1, .int k), (2, .long v_369), (4, .int v_370)] → W p l e ({ frames := 2, cells := 0, slots := 0, locals := 51 }) s m args below meth c H locs 0 0 Q (F0 m 44 ls []) := by
        intro n
        induction n with
        | zero =>
          intro v_369 v_370 H locs ls hmu_hlp_387 hr_v_370 hP hD hS hl
          exact absurd hmu_hlp_387 (Nat.not_lt_zero _)
        | succ n ih_388 =>
          intro v_369 v_370 H locs ls hmu_hlp_387 hr_v_370 hP hD hS hl
          refine lv_iload hx hb dX12_here_44 (lv_at hl 3 rfl) ?_
          refine lv_iconst (v := 2) hx hb dX12_here_46 (by decide) ?_
          refine lv_aload_n hx hb dX12_here_47 rfl (lv_at hl 0 rfl) ?_
          refine va_get (D := G) (ci := 12) (v := .int n_9) (C := RX12) (T := TX12) (N := 65) hx hb hts inT12 hown hK hP 0 rfl rfl 27 (by decide) (hts _ tw_1912) (fun _ h9 => h9) rfl dX12_here_48 ?_
          refine lv_imul hx hb dX12_here_51 ?_
          refine lv_topi (fun x_389 he_x_389 => ?_)
          have hq_x_389 := z_mulq he_x_389 hk_2 (rfl : n_9.toInt = _) (by omega) (by omega)
          refine lv_icmp_ge (tgt := 93) hx hb dX12_here_52 (by decide) (fun c_390 => ?_) (fun c_390 => ?_)
          · have b_391 := z_fgeT c_390
            refine lv_aload_n hx hb dX12_here_93 rfl (lv_at hl 0 rfl) ?_
            refine lv_lload_n hx hb dX12_here_94 rfl (lv_at hl 2 rfl) ?_
            refine lv_ldc2 (v := 1000000) hx hb hown (hts _ tw_2374) dX12_here_95 ?_
            refine z_callVi (As := [.long v_369, .long 1000000]) (rest := []) (wr := [(a_c, .inl (cA.1 0, 1825, .inl g_c)), (a_there, .inl (cA.1 0, 10, .inl n_10))]) ⟨hx, hb, hml, hown, hts⟩ hK hE hT hP hD hS hA (r_fraction l G cA h0 0 0 m_above m_under a_traySort a_trayMany a_numbers a_tape m_taped m_textEnd m_faultKind m_faultAt m_bad m_badAt m_token m_at m_behind m_number m_letters m_word a_c a_words m_markMany a_there a_tried a_best a_found n_9 m_foundMany m_orderHow m_orderRing m_orderMany m_hasBest m_bestTop m_bestBy a_weights a_shared m_random m_truePlace m_trueWay m_seconds m_done m_feelings m_tries m_leftOver m_playDoor m_playRing m_isOpen m_isOver m_wasTried m_hasPlayed a_feltNow a_last a_kept m_hasSeconds m_hasTurned m_hasRound a_hasFeels a_isOn m_firstAct m_meanTop m_meanBy a_order m_rowMany m_newSteps v_369 1000000 (by omega)) lk_RX12_352 ⟨rfl, rfl⟩ ⟨Nat.le_of_ble_eq_true rfl, Nat.le_of_ble_eq_true rfl⟩ 12 rfl rfl rfl [0] [1, 2] rfl rfl (by decide) rfl hl.1 rfl (lv_room (Nat.le_of_ble_eq_true rfl)) dX12_here_98 ⟨Nat.le_of_ble_eq_true rfl, Nat.le_of_ble_eq_true rfl⟩ (fun r_394 u_395 H locs hw hP hD hS => ?_)
            obtain ⟨n_392, n_393⟩ := u_395
            try dsimp only at hw
            obtain ⟨rfl, -⟩ := hw
            have hpost : ((1 : Int32) = 0 ∧ (0 ≤ (0 : Int32).toInt ∧ (0 : Int32).toInt ≤ 0) ∧ (0 ≤ n_9.toInt ∧ n_9.toInt ≤ 10) ∧ (zRg 10 0 9 n_10)) ∨ ((1 : Int32) = 1 ∧ (0 ≤ (0 : Int32).toInt ∧ (0 : Int32).toInt ≤ 0) ∧ (0 ≤ (0 : Int32).toInt ∧ (0 : Int32).toInt ≤ 0) ∧ (0 ≤ n_9.toInt ∧ n_9.toInt ≤ 10) ∧ (zRg 10 0 9 n_10)) := (Or.inr ⟨rfl, ⟨(by decide +kernel), (by decide +kernel), hr_n_9, hC_n_10⟩⟩)
            exact hret _ _ _ _ _ _ (0, 0, n_9, n_10, n_392, n_393) [2, 0, 1] hP hD hS rfl (by decide) dX12_here_101 (Or.inr rfl) hpost
          · have b_396 := z_fltF c_390
            refine lv_lload_n hx hb dX12_here_55 rfl (lv_at hl 2 rfl) ?_
            refine lv_aload_n hx hb dX12_here_56 rfl (lv_at hl 0 rfl) ?_
            refine va_get (D := G) (ci := 12) (v := .ref a_there) (C := RX12) (T := TX12) (N := 65) hx hb hts inT12 hown hK hP 0 rfl rfl 23 (by decide) (hts _ tw_1908) (fun _ h9 => h9) rfl dX12_here_57 ?_
            refine lv_iload hx hb dX12_here_60 (lv_at hl 3 rfl) ?_
            refine lv_iconst (v := 2) hx hb dX12_here_62 (by decide) ?_
            refine lv_idiv hx hb dX12_here_63 (by decide +kernel) ?_
            refine lv_topi (fun x_397 he_x_397 => ?_)
            have hq_x_397 := z_divq he_x_397 (rfl : v_370.toInt = _) hk_2 (by omega) (by decide)
            refine va_iald hx hb hK hP 2 0 rfl rfl (z_inN (by omega) (by omega)) dX12_here_64 ?_
            refine lv_topi (fun x_398 he_x_398 => ?_)
            have hr_x_398 := z_rg hC_n_10 he_x_398 (by omega) (by omega)
            refine lv_iload_n hx hb dX12_here_65 rfl (lv_at hl 1 rfl) ?_
            refine lv_icmp_ne (tgt := 84) hx hb dX12_here_66 (by decide) (fun c_399 => ?_) (fun c_399 => ?_)
            · have b_400 := z_fneT c_399
              refine lv_lconst (v := 0) hx hb dX12_here_84 (by decide) ?_
              refine lv_ladd hx hb dX12_here_85 ?_
              have hL_v_369 := z_fulll v_369
              refine lv_topl (fun x_401 he_x_401 => ?_)
              have hq_x_401 := z_addql he_x_401 (rfl : v_369.toInt = _) hkl_0 (by omega) (by omega)
              refine lv_lstore_n (lv' := [(2, .long x_401), (0, .ref h0), (1, .int k), (4, .int v_370)]) hx hb dX12_here_86 rfl hl (by decide) rfl (fun ls hl => ?_)
              obtain ⟨x_402, he_x_402⟩ : ∃ z : Int32, z = v_370 + 1 := ⟨_, rfl⟩
              have hq_x_402 := z_addq he_x_402 (rfl : v_370.toInt = _) hk_1 (by omega) (by omega)
              refine lv_iinc (v := x_402) (lv' := [(4, .int x_402), (2, .long x_401), (0, .ref h0), (1, .int k)]) hx hb dX12_here_87 hl (k := 3) rfl ((z_ofi (by decide +kernel)).trans he_x_402.symm) (by decide) rfl (fun ls hl => ?_)
              refine lv_goto (tgt := 44) hx hb dX12_here_90 (by decide) ?_
              exact ih_388 x_401 x_402 H locs ls (by omega) (by omega) hP hD hS (lv_sub hl [2, 3, 1, 0] rfl)
            · have b_403 := z_feqF c_399
              refine lv_aload_n hx hb dX12_here_69 rfl (lv_at hl 0 rfl) ?_
              refine va_get (D := G) (ci := 12) (v := .ref a_c) (C := RX12) (T := TX12) (N := 65) hx hb hts inT12 hown hK hP 0 rfl rfl 20 (by decide) (hts _ tw_1905) (fun _ h9 => h9) rfl dX12_here_70 ?_
              refine lv_sipush (v := 160) hx hb dX12_here_73 (by decide) ?_
              refine lv_iload hx hb dX12_here_76 (lv_at hl 3 rfl) ?_
              refine lv_iadd hx hb dX12_here_78 ?_
              refine lv_topi (fun x_404 he_x_404 => ?_)
              have hq_x_404 := z_addq he_x_404 hk_160 (rfl : v_370.toInt = _) (by omega) (by omega)
              refine va_iald hx hb hK hP 1 0 rfl rfl (z_inN (by omega) (by omega)) dX12_here_79 ?_
              refine lv_topi (fun x_405 he_x_405 => ?_)
              refine lv_i2l (v := (x_405).toInt64) hx hb dX12_here_80 rfl ?_
              refine lv_topl (fun x_406 he_x_406 => ?_)
              have hq_x_406 := z_i2l he_x_406
              have hL_x_405 := z_full x_405
              refine lv_goto (tgt := 85) hx hb dX12_here_81 (by decide) ?_
              refine lv_ladd hx hb dX12_here_85 ?_
              have hL_v_369 := z_fulll v_369
              refine lv_topl (fun x_407 he_x_407 => ?_)
              refine lv_lstore_n (lv' := [(2, .long x_407), (0, .ref h0), (1, .int k), (4, .int v_370)]) hx hb dX12_here_86 rfl hl (by decide) rfl (fun ls hl => ?_)
              obtain ⟨x_408, he_x_408⟩ : ∃ z : Int32, z = v_370 + 1 := ⟨_, rfl⟩
              have hq_x_408 := z_addq he_x_408 (rfl : v_370.toInt = _) hk_1 (by omega) (by omega)
              refine lv_iinc (v := x_408) (lv' := [(4, .int x_408), (2, .long x_407), (0, .ref h0), (1, .int k)]) hx hb dX12_here_87 hl (k := 3) rfl ((z_ofi (by decide +kernel)).trans he_x_408.symm) (by decide) rfl (fun ls hl => ?_)
              refine lv_goto (tgt := 44) hx hb dX12_here_90 (by decide) ?_
              exact ih_388 x_407 x_408 H locs ls (by omega) (by omega) hP hD hS (lv_sub hl [2, 3, 1, 0] rfl)
      exact hlp_387 _ 0 0 _ _ _ (Nat.lt_succ_self _) (by decide +kernel) hP hD hS (lv_sub hl [2, 3, 1, 0] rfl)
