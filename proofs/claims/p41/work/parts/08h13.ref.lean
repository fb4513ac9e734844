set_option maxHeartbeats 40000000 in
set_option maxRecDepth 100000 in
theorem r_off (l : Launch) (G : va_G) (cA : zCA) (h0 : Nat) (m_status : Int32) (m_thrown : Int32) (m_above : Int64) (m_under : Int64) (a_traySort : Nat) (a_trayMany : Nat) (a_numbers : Nat) (a_tape : Nat) (m_taped : Int32) (m_textEnd : Int32) (m_faultKind : Int32) (m_faultAt : Int32) (m_bad : Int32) (m_badAt : Int32) (m_token : Int32) (m_at : Int32) (m_behind : Int32) (m_number : Int32) (m_letters : Int32) (m_word : Int64) (a_c : Nat) (a_words : Nat) (m_markMany : Int32) (a_there : Nat) (a_tried : Nat) (a_best : Nat) (a_found : Nat) (m_thereMany : Int32) (m_foundMany : Int32) (m_orderHow : Int32) (m_orderRing : Int32) (m_orderMany : Int32) (m_hasBest : Int32) (m_bestTop : Int64) (m_bestBy : Int64) (a_weights : Nat) (a_shared : Nat) (m_random : Int32) (m_truePlace : Int32) (m_trueWay : Int32) (m_seconds : Int32) (m_done : Int32) (m_feelings : Int32) (m_tries : Int32) (m_leftOver : Int32) (m_playDoor : Int32) (m_playRing : Int32) (m_isOpen : Int32) (m_isOver : Int32) (m_wasTried : Int32) (m_hasPlayed : Int32) (a_feltNow : Nat) (a_last : Nat) (a_kept : Nat) (m_hasSeconds : Int32) (m_hasTurned : Int32) (m_hasRound : Int32) (a_hasFeels : Nat) (a_isOn : Nat) (m_firstAct : Int32) (m_meanTop : Int64) (m_meanBy : Int64) (a_order : Nat) (m_rowMany : Int32) (m_newSteps : Int32) (g_c : Nat → Int32) (k : Int32) (hC_g_c : zC g_c) : zCi l yX12_off cX12_off 2 (some .boolean) ({ frames := 3, cells := 0, slots := 0, locals := 69 }) G cA [.ref h0, .int k] [(h0, .inr (12, [.int m_status, .int m_thrown, .long m_above, .long m_under, .ref a_traySort, .ref a_trayMany, .ref a_numbers, .ref a_tape, .int m_taped, .int m_textEnd, .int m_faultKind, .int m_faultAt, .int m_bad, .int m_badAt, .int m_token, .int m_at, .int m_behind, .int m_number, .int m_letters, .long m_word, .ref a_c, .ref a_words, .int m_markMany, .ref a_there, .ref a_tried, .ref a_best, .ref a_found, .int m_thereMany, .int m_foundMany, .int m_orderHow, .int m_orderRing, .int m_orderMany, .int m_hasBest, .long m_bestTop, .long m_bestBy, .ref a_weights, .ref a_shared, .int m_random, .int m_truePlace, .int m_trueWay, .int m_seconds, .int m_done, .int m_feelings, .int m_tries, .int m_leftOver, .int m_playDoor, .int m_playRing, .int m_isOpen, .int m_isOver, .int m_wasTried, .int m_hasPlayed, .ref a_feltNow, .ref a_last, .ref a_kept, .int m_hasSeconds, .int m_hasTurned, .int m_hasRound, .ref a_hasFeels, .ref a_isOn, .int m_firstAct, .long m_meanTop, .long m_meanBy, .ref a_order, .int m_rowMany, .int m_newSteps])), (a_c, .inl (cA.1 0, 1825, .inl g_c))] (S := Int32 × Int32 × (Nat → Int32)) (fun (r : Int32) (u : Int32 × Int32 × (Nat → Int32)) => (r = (F_r_off g_c k).1) ∧ (u.1 = (F_r_off g_c k).2.1) ∧ (u.2.1 = (F_r_off g_c k).2.2.1) ∧ (u.2.2 = (F_r_off g_c k).2.2.2) ∧ ((r = 0 ∧ (0 ≤ u.2.1.toInt ∧ u.2.1.toInt ≤ 0) ∧ (zC u.2.2) ∧ (zHF g_c u.2.2)) ∨ (r = 1 ∧ (0 ≤ u.1.toInt ∧ u.1.toInt ≤ 0) ∧ (0 ≤ u.2.1.toInt ∧ u.2.1.toInt ≤ 0) ∧ (zC u.2.2) ∧ (zHF g_c u.2.2)))) (fun (u : Int32 × Int32 × (Nat → Int32)) => [(h0, .inr (12, [.int u.1, .int u.2.1, .long m_above, .long m_under, .ref a_traySort, .ref a_trayMany, .ref a_numbers, .ref a_tape, .int m_taped, .int m_textEnd, .int m_faultKind, .int m_faultAt, .int m_bad, .int m_badAt, .int m_token, .int m_at, .int m_behind, .int m_number, .int m_letters, .long m_word, .ref a_c, .ref a_words, .int m_markMany, .ref a_there, .ref a_tried, .ref a_best, .ref a_found, .int m_thereMany, .int m_foundMany, .int m_orderHow, .int m_orderRing, .int m_orderMany, .int m_hasBest, .long m_bestTop, .long m_bestBy, .ref a_weights, .ref a_shared, .int m_random, .int m_truePlace, .int m_trueWay, .int m_seconds, .int m_done, .int m_feelings, .int m_tries, .int m_leftOver, .int m_playDoor, .int m_playRing, .int m_isOpen, .int m_isOver, .int m_wasTried, .int m_hasPlayed, .ref a_feltNow, .ref a_last, .ref a_kept, .int m_hasSeconds, .int m_hasTurned, .int m_hasRound, .ref a_hasFeels, .ref a_isOn, .int m_firstAct, .long m_meanTop, .long m_meanBy, .ref a_order, .int m_rowMany, .int m_newSteps])), (a_c, .inl (cA.1 0, 1825, .inl u.2.2))]) 0 0 := by
  have hk_0 : (0 : Int32).toInt = 0 := by decide +kernel
  have hk_2 : (2 : Int32).toInt = 2 := by decide +kernel
  have hk_8 : (8 : Int32).toInt = 8 := by decide +kernel
  refine z_start2z (own := RX12) (by decide) (Nat.le_of_ble_eq_true rfl) rfl ?_
  intro p e s m args below meth c A ls Q hx hb hml hts hown hK hE hT hP hD hS hA hl hret
  have hl : lv_has ls 2 [(0, .ref h0), (1, .int k)] := hl
  refine lv_aload_n hx hb dX12_off_0 rfl (lv_at hl 0 rfl) ?_
  refine lv_iconst (v := 0) hx hb dX12_off_1 (by decide) ?_
  refine va_put (D := G) (ci := 12) (v := .int 0) (ty := .int) (C := RX12) (T := TX12) (N := 65) hx hb hts inT12 tyX12 tyX12_ok nmX12 hown hK hP hD hS 0 rfl rfl 1 (by decide) (hts _ tw_1886) (fun _ h9 => h9) rfl (tyX12_ok 1 (by decide)) rfl rfl (Nat.le_of_ble_eq_true rfl) dX12_off_2 (fun H locs hP hD hS => ?_)
  refine lv_aload_n hx hb dX12_off_5 rfl (lv_at hl 0 rfl) ?_
  refine lv_iconst (v := 0) hx hb dX12_off_6 (by decide) ?_
  refine va_put (D := G) (ci := 12) (v := .int 0) (ty := .int) (C := RX12) (T := TX12) (N := 65) hx hb hts inT12 tyX12 tyX12_ok nmX12 hown hK hP hD hS 0 rfl rfl 0 (by decide) (hts _ tw_1885) (fun _ h9 => h9) rfl (tyX12_ok 0 (by decide)) rfl rfl (Nat.le_of_ble_eq_true rfl) dX12_off_7 (fun H locs hP hD hS => ?_)
  refine lv_aload_n hx hb dX12_off_10 rfl (lv_at hl 0 rfl) ?_
  refine lv_iload_n hx hb dX12_off_11 rfl (lv_at hl 1 rfl) ?_
  refine lv_i2l (v := (k).toInt64) hx hb dX12_off_12 rfl ?_
  refine lv_topl (fun x_1 he_x_1 => ?_)
  have hq_x_1 := z_i2l he_x_1
  have hL_k := z_full k
  refine z_callVi (As := [.long x_1]) (rest := []) (wr := []) ⟨hx, hb, hml, hown, hts⟩ hK hE hT hP hD hS hA (r_isKey l G cA h0 0 0 m_above m_under a_traySort a_trayMany a_numbers a_tape m_taped m_textEnd m_faultKind m_faultAt m_bad m_badAt m_token m_at m_behind m_number m_letters m_word a_c a_words m_markMany a_there a_tried a_best a_found m_thereMany m_foundMany m_orderHow m_orderRing m_orderMany m_hasBest m_bestTop m_bestBy a_weights a_shared m_random m_truePlace m_trueWay m_seconds m_done m_feelings m_tries m_leftOver m_playDoor m_playRing m_isOpen m_isOver m_wasTried m_hasPlayed a_feltNow a_last a_kept m_hasSeconds m_hasTurned m_hasRound a_hasFeels a_isOn m_firstAct m_meanTop m_meanBy a_order m_rowMany m_newSteps g_c x_1 hC_g_c) lk_RX12_275 ⟨rfl, rfl⟩ ⟨Nat.le_of_ble_eq_true rfl, Nat.le_of_ble_eq_true rfl⟩ 12 rfl rfl rfl [0, 1] [] rfl rfl (by decide) rfl hl.1 rfl (lv_room (Nat.le_of_ble_eq_true rfl)) dX12_off_13 ⟨Nat.le_of_ble_eq_true rfl, Nat.le_of_ble_eq_true rfl⟩ (fun r_2 u_3 H locs hw hP hD hS => ?_)
  obtain ⟨he_r_2, hw⟩ := hw
  rcases hw with ⟨rfl, -⟩ | ⟨rfl, hf_5, hf_6⟩
  · skip
    refine lv_if_ne (tgt := 25) hx hb dX12_off_16 (by decide) (fun h9 => absurd (by decide +kernel) h9) (fun _ => ?_)
    refine lv_aload_n hx hb dX12_off_19 rfl (lv_at hl 0 rfl) ?_
    refine lv_iconst (v := 2) hx hb dX12_off_20 (by decide) ?_
    refine z_callVi (As := [.int 2]) (rest := []) (wr := [(a_c, .inl (cA.1 0, 1825, .inl g_c))]) ⟨hx, hb, hml, hown, hts⟩ hK hE hT hP hD hS hA (r_no l G cA h0 0 0 m_above m_under a_traySort a_trayMany a_numbers a_tape m_taped m_textEnd m_faultKind m_faultAt m_bad m_badAt m_token m_at m_behind m_number m_letters m_word a_c a_words m_markMany a_there a_tried a_best a_found m_thereMany m_foundMany m_orderHow m_orderRing m_orderMany m_hasBest m_bestTop m_bestBy a_weights a_shared m_random m_truePlace m_trueWay m_seconds m_done m_feelings m_tries m_leftOver m_playDoor m_playRing m_isOpen m_isOver m_wasTried m_hasPlayed a_feltNow a_last a_kept m_hasSeconds m_hasTurned m_hasRound a_hasFeels a_isOn m_firstAct m_meanTop m_meanBy a_order m_rowMany m_newSteps 2) lk_RX12_97 ⟨rfl, rfl⟩ ⟨Nat.le_of_ble_eq_true rfl, Nat.le_of_ble_eq_true rfl⟩ 12 rfl rfl rfl [0] [1] rfl rfl (by decide) rfl hl.1 rfl (lv_room (Nat.le_of_ble_eq_true rfl)) dX12_off_21 ⟨Nat.le_of_ble_eq_true rfl, Nat.le_of_ble_eq_true rfl⟩ (fun r_8 u_9 H locs hw hP hD hS => ?_)
    obtain ⟨n_7, rfl⟩ : ∃ z, z = u_9 := ⟨_, rfl⟩
    obtain ⟨he_r_8, he_n_7, hw⟩ := hw
    obtain ⟨rfl, -⟩ := hw
    have hpost : ((0 : Int32) = 0 ∧ (0 ≤ (0 : Int32).toInt ∧ (0 : Int32).toInt ≤ 0) ∧ (zC g_c) ∧ (zHF g_c g_c)) ∨ ((0 : Int32) = 1 ∧ (0 ≤ n_7.toInt ∧ n_7.toInt ≤ 0) ∧ (0 ≤ (0 : Int32).toInt ∧ (0 : Int32).toInt ≤ 0) ∧ (zC g_c) ∧ (zHF g_c g_c)) := (Or.inl ⟨rfl, ⟨(by decide +kernel), hC_g_c, (zHF_refl g_c)⟩⟩)
    have hX_11 : F_r_off g_c k = (((0 : Int32), n_7, (0 : Int32), g_c) : Int32 × Int32 × Int32 × (Nat → Int32)) := by
      refine (F_r_off_s ..).trans ?_
      try (extract_lets -merge -useContext +onlyGivenNames y9; have e9 : x_1 = y9 := (by first | exact he_x_1 | exact he_x_1.symm); clear_value y9; subst e9)
      extract_lets -merge -useContext +onlyGivenNames w9 y9; have e9 : (0 : Int32) = w9 := he_r_2; clear_value w9; subst e9
      refine (if_pos rfl).trans ?_
      extract_lets -merge -useContext +onlyGivenNames w9 y3_0 y3_1; have e9 : ((0 : Int32), n_7) = w9 := ((z_tS he_r_8 he_n_7.symm)).symm; clear_value w9; subst e9
      exact rfl
    exact hret _ _ _ _ _ _ (n_7, 0, g_c) [1, 0] hP hD hS rfl (by decide) dX12_off_24 (Or.inl rfl) ⟨(congrArg (fun z9 => z9.1) hX_11).symm, (congrArg (fun z9 => z9.2.1) hX_11).symm, (congrArg (fun z9 => z9.2.2.1) hX_11).symm, (congrArg (fun z9 => z9.2.2.2) hX_11).symm, hpost⟩
  · skip
    refine lv_if_ne (tgt := 25) hx hb dX12_off_16 (by decide) (fun _ => ?_) (fun h9 => absurd h9 (by decide +kernel))
    refine lv_aload_n hx hb dX12_off_25 rfl (lv_at hl 0 rfl) ?_
    refine lv_iload_n hx hb dX12_off_26 rfl (lv_at hl 1 rfl) ?_
    refine z_callVi (As := [.int k]) (rest := []) (wr := []) ⟨hx, hb, hml, hown, hts⟩ hK hE hT hP hD hS hA (r_ringOf l G cA h0 0 0 m_above m_under a_traySort a_trayMany a_numbers a_tape m_taped m_textEnd m_faultKind m_faultAt m_bad m_badAt m_token m_at m_behind m_number m_letters m_word a_c a_words m_markMany a_there a_tried a_best a_found m_thereMany m_foundMany m_orderHow m_orderRing m_orderMany m_hasBest m_bestTop m_bestBy a_weights a_shared m_random m_truePlace m_trueWay m_seconds m_done m_feelings m_tries m_leftOver m_playDoor m_playRing m_isOpen m_isOver m_wasTried m_hasPlayed a_feltNow a_last a_kept m_hasSeconds m_hasTurned m_hasRound a_hasFeels a_isOn m_firstAct m_meanTop m_meanBy a_order m_rowMany m_newSteps g_c k (by omega) hC_g_c) lk_RX12_278 ⟨rfl, rfl⟩ ⟨Nat.le_of_ble_eq_true rfl, Nat.le_of_ble_eq_true rfl⟩ 12 rfl rfl rfl [0, 1] [] rfl rfl (by decide) rfl hl.1 rfl (lv_room (Nat.le_of_ble_eq_true rfl)) dX12_off_27 ⟨Nat.le_of_ble_eq_true rfl, Nat.le_of_ble_eq_true rfl⟩ (fun r_12 u_13 H locs hw hP hD hS => ?_)
    obtain ⟨he_r_12, hw⟩ := hw
    obtain ⟨hr_r_12, hf_15⟩ := hw
    refine lv_if_ge (tgt := 40) hx hb dX12_off_30 (by decide) (fun c_16 => ?_) (fun c_16 => ?_)
    · have b_17 := z_fgeT c_16
      refine lv_aload_n hx hb dX12_off_40 rfl (lv_at hl 0 rfl) ?_
      refine lv_aload_n hx hb dX12_off_41 rfl (lv_at hl 0 rfl) ?_
      refine lv_iload_n hx hb dX12_off_42 rfl (lv_at hl 1 rfl) ?_
      refine z_callVi (As := [.int k]) (rest := [.ref h0]) (wr := []) ⟨hx, hb, hml, hown, hts⟩ hK hE hT hP hD hS hA (r_ringOf l G cA h0 0 0 m_above m_under a_traySort a_trayMany a_numbers a_tape m_taped m_textEnd m_faultKind m_faultAt m_bad m_badAt m_token m_at m_behind m_number m_letters m_word a_c a_words m_markMany a_there a_tried a_best a_found m_thereMany m_foundMany m_orderHow m_orderRing m_orderMany m_hasBest m_bestTop m_bestBy a_weights a_shared m_random m_truePlace m_trueWay m_seconds m_done m_feelings m_tries m_leftOver m_playDoor m_playRing m_isOpen m_isOver m_wasTried m_hasPlayed a_feltNow a_last a_kept m_hasSeconds m_hasTurned m_hasRound a_hasFeels a_isOn m_firstAct m_meanTop m_meanBy a_order m_rowMany m_newSteps g_c k (by omega) hC_g_c) lk_RX12_278 ⟨rfl, rfl⟩ ⟨Nat.le_of_ble_eq_true rfl, Nat.le_of_ble_eq_true rfl⟩ 12 rfl rfl rfl [0, 1] [] rfl rfl (by decide) rfl hl.1 rfl (lv_room (Nat.le_of_ble_eq_true rfl)) dX12_off_43 ⟨Nat.le_of_ble_eq_true rfl, Nat.le_of_ble_eq_true rfl⟩ (fun r_18 u_19 H locs hw hP hD hS => ?_)
      obtain ⟨he_r_18, hw⟩ := hw
      obtain ⟨hr_r_18, hf_21⟩ := hw
      refine z_callVv (As := [.int r_18]) (rest := []) (wr := []) ⟨hx, hb, hml, hown, hts⟩ hK hE hT hP hD hS hA (r_letGo l G cA h0 0 0 m_above m_under a_traySort a_trayMany a_numbers a_tape m_taped m_textEnd m_faultKind m_faultAt m_bad m_badAt m_token m_at m_behind m_number m_letters m_word a_c a_words m_markMany a_there a_tried a_best a_found m_thereMany m_foundMany m_orderHow m_orderRing m_orderMany m_hasBest m_bestTop m_bestBy a_weights a_shared m_random m_truePlace m_trueWay m_seconds m_done m_feelings m_tries m_leftOver m_playDoor m_playRing m_isOpen m_isOver m_wasTried m_hasPlayed a_feltNow a_last a_kept m_hasSeconds m_hasTurned m_hasRound a_hasFeels a_isOn m_firstAct m_meanTop m_meanBy a_order m_rowMany m_newSteps g_c r_18 hC_g_c) lk_RX12_305 ⟨rfl, rfl⟩ ⟨Nat.le_of_ble_eq_true rfl, Nat.le_of_ble_eq_true rfl⟩ 12 rfl rfl rfl [0, 1] [] rfl rfl (by decide) rfl hl.1 rfl (lv_room (Nat.le_of_ble_eq_true rfl)) dX12_off_46 ⟨Nat.le_of_ble_eq_true rfl, Nat.le_of_ble_eq_true rfl⟩ (fun u_24 H locs hw hP hD hS => ?_)
      obtain ⟨n_22, rfl⟩ : ∃ z, z = u_24 := ⟨_, rfl⟩
      obtain ⟨he_n_22, hw⟩ := hw
      obtain ⟨hC_n_22, hf_26⟩ := hw
      have hs_27 : zHF g_c n_22 := (zHF_trans (zHF_refl g_c) (zHF_10 hf_26))
      refine lv_aload_n hx hb dX12_off_49 rfl (lv_at hl 0 rfl) ?_
      refine lv_iload_n hx hb dX12_off_50 rfl (lv_at hl 1 rfl) ?_
      refine z_callVv (As := [.int k]) (rest := []) (wr := []) ⟨hx, hb, hml, hown, hts⟩ hK hE hT hP hD hS hA (r_take2 l G cA h0 0 0 m_above m_under a_traySort a_trayMany a_numbers a_tape m_taped m_textEnd m_faultKind m_faultAt m_bad m_badAt m_token m_at m_behind m_number m_letters m_word a_c a_words m_markMany a_there a_tried a_best a_found m_thereMany m_foundMany m_orderHow m_orderRing m_orderMany m_hasBest m_bestTop m_bestBy a_weights a_shared m_random m_truePlace m_trueWay m_seconds m_done m_feelings m_tries m_leftOver m_playDoor m_playRing m_isOpen m_isOver m_wasTried m_hasPlayed a_feltNow a_last a_kept m_hasSeconds m_hasTurned m_hasRound a_hasFeels a_isOn m_firstAct m_meanTop m_meanBy a_order m_rowMany m_newSteps n_22 k (by omega) hC_n_22 ⟨_, (by omega), zRO_same hf_15 (hf_26 2 (by omega)) (fun q hq => hf_26 _ (by omega)) (fun q j hq hj => hf_26 _ (by omega))⟩) lk_RX12_312 ⟨rfl, rfl⟩ ⟨Nat.le_of_ble_eq_true rfl, Nat.le_of_ble_eq_true rfl⟩ 12 rfl rfl rfl [0, 1] [] rfl rfl (by decide) rfl hl.1 rfl (lv_room (Nat.le_of_ble_eq_true rfl)) dX12_off_51 ⟨Nat.le_of_ble_eq_true rfl, Nat.le_of_ble_eq_true rfl⟩ (fun u_30 H locs hw hP hD hS => ?_)
      obtain ⟨n_28, rfl⟩ : ∃ z, z = u_30 := ⟨_, rfl⟩
      obtain ⟨he_n_28, hw⟩ := hw
      obtain ⟨hC_n_28, hf_32, hf_33⟩ := hw
      have hs_34 : zHF g_c n_28 := (zHF_trans hs_27 hf_32)
      refine lv_iconst (v := 1) hx hb dX12_off_54 (by decide) ?_
      have hpost : ((1 : Int32) = 0 ∧ (0 ≤ (0 : Int32).toInt ∧ (0 : Int32).toInt ≤ 0) ∧ (zC n_28) ∧ (zHF g_c n_28)) ∨ ((1 : Int32) = 1 ∧ (0 ≤ (0 : Int32).toInt ∧ (0 : Int32).toInt ≤ 0) ∧ (0 ≤ (0 : Int32).toInt ∧ (0 : Int32).toInt ≤ 0) ∧ (zC n_28) ∧ (zHF g_c n_28)) := (Or.inr ⟨rfl, ⟨(by decide +kernel), (by decide +kernel), hC_n_28, hs_34⟩⟩)
      have hX_35 : F_r_off g_c k = (((1 : Int32), (0 : Int32), (0 : Int32), n_28) : Int32 × Int32 × Int32 × (Nat → Int32)) := by
        refine (F_r_off_s ..).trans ?_
        try (extract_lets -merge -useContext +onlyGivenNames y9; have e9 : x_1 = y9 := (by first | exact he_x_1 | exact he_x_1.symm); clear_value y9; subst e9)
        extract_lets -merge -useContext +onlyGivenNames w9 y9; have e9 : (1 : Int32) = w9 := he_r_2; clear_value w9; subst e9
        refine (if_neg (show ¬ (1 : Int32) = 0 by decide)).trans ?_
        extract_lets -merge -useContext +onlyGivenNames w9 y9; have e9 : r_12 = w9 := he_r_12; clear_value w9; subst e9
        refine (if_pos c_16).trans ?_
        extract_lets -merge -useContext +onlyGivenNames w9 y9; have e9 : r_18 = w9 := he_r_18; clear_value w9; subst e9
        extract_lets -merge -useContext +onlyGivenNames w9 y9; have e9 : n_22 = w9 := he_n_22; clear_value w9; subst e9
        extract_lets -merge -useContext +onlyGivenNames w9 y9; have e9 : n_28 = w9 := he_n_28; clear_value w9; subst e9
        exact rfl
      exact hret _ _ _ _ _ _ (0, 0, n_28) [0, 1] hP hD hS rfl (by decide) dX12_off_55 (Or.inr rfl) ⟨(congrArg (fun z9 => z9.1) hX_35).symm, (congrArg (fun z9 => z9.2.1) hX_35).symm, (congrArg (fun z9 => z9.2.2.1) hX_35).symm, (congrArg (fun z9 => z9.2.2.2) hX_35).symm, hpost⟩
    · have b_36 := z_fltF c_16
      refine lv_aload_n hx hb dX12_off_33 rfl (lv_at hl 0 rfl) ?_
      refine lv_bipush (v := 8) hx hb dX12_off_34 (by decide) ?_
      refine z_callVi (As := [.int 8]) (rest := []) (wr := [(a_c, .inl (cA.1 0, 1825, .inl g_c))]) ⟨hx, hb, hml, hown, hts⟩ hK hE hT hP hD hS hA (r_no l G cA h0 0 0 m_above m_under a_traySort a_trayMany a_numbers a_tape m_taped m_textEnd m_faultKind m_faultAt m_bad m_badAt m_token m_at m_behind m_number m_letters m_word a_c a_words m_markMany a_there a_tried a_best a_found m_thereMany m_foundMany m_orderHow m_orderRing m_orderMany m_hasBest m_bestTop m_bestBy a_weights a_shared m_random m_truePlace m_trueWay m_seconds m_done m_feelings m_tries m_leftOver m_playDoor m_playRing m_isOpen m_isOver m_wasTried m_hasPlayed a_feltNow a_last a_kept m_hasSeconds m_hasTurned m_hasRound a_hasFeels a_isOn m_firstAct m_meanTop m_meanBy a_order m_rowMany m_newSteps 8) lk_RX12_97 ⟨rfl, rfl⟩ ⟨Nat.le_of_ble_eq_true rfl, Nat.le_of_ble_eq_true rfl⟩ 12 rfl rfl rfl [0] [1] rfl rfl (by decide) rfl hl.1 rfl (lv_room (Nat.le_of_ble_eq_true rfl)) dX12_off_36 ⟨Nat.le_of_ble_eq_true rfl, Nat.le_of_ble_eq_true rfl⟩ (fun r_38 u_39 H locs hw hP hD hS => ?_)
      obtain ⟨n_37, rfl⟩ : ∃ z, z = u_39 := ⟨_, rfl⟩
      obtain ⟨he_r_38, he_n_37, hw⟩ := hw
      obtain ⟨rfl, -⟩ := hw
      have hpost : ((0 : Int32) = 0 ∧ (0 ≤ (0 : Int32).toInt ∧ (0 : Int32).toInt ≤ 0) ∧ (zC g_c) ∧ (zHF g_c g_c)) ∨ ((0 : Int32) = 1 ∧ (0 ≤ n_37.toInt ∧ n_37.toInt ≤ 0) ∧ (0 ≤ (0 : Int32).toInt ∧ (0 : Int32).toInt ≤ 0) ∧ (zC g_c) ∧ (zHF g_c g_c)) := (Or.inl ⟨rfl, ⟨(by decide +kernel), hC_g_c, (zHF_refl g_c)⟩⟩)
      have hX_41 : F_r_off g_c k = (((0 : Int32), n_37, (0 : Int32), g_c) : Int32 × Int32 × Int32 × (Nat → Int32)) := by
        refine (F_r_off_s ..).trans ?_
        try (extract_lets -merge -useContext +onlyGivenNames y9; have e9 : x_1 = y9 := (by first | exact he_x_1 | exact he_x_1.symm); clear_value y9; subst e9)
        extract_lets -merge -useContext +onlyGivenNames w9 y9; have e9 : (1 : Int32) = w9 := he_r_2; clear_value w9; subst e9
        refine (if_neg (show ¬ (1 : Int32) = 0 by decide)).trans ?_
        extract_lets -merge -useContext +onlyGivenNames w9 y9; have e9 : r_12 = w9 := he_r_12; clear_value w9; subst e9
        refine (if_neg c_16).trans ?_
        extract_lets -merge -useContext +onlyGivenNames w9 y5_0 y5_1; have e9 : ((0 : Int32), n_37) = w9 := ((z_tS he_r_38 he_n_37.symm)).symm; clear_value w9; subst e9
        exact rfl
      exact hret _ _ _ _ _ _ (n_37, 0, g_c) [1, 0] hP hD hS rfl (by decide) dX12_off_39 (Or.inl rfl) ⟨(congrArg (fun z9 => z9.1) hX_41).symm, (congrArg (fun z9 => z9.2.1) hX_41).symm, (congrArg (fun z9 => z9.2.2.1) hX_41).symm, (congrArg (fun z9 => z9.2.2.2) hX_41).symm, hpost⟩
set_option maxHeartbeats 4000000 in
set_option maxRecDepth 100000 in
theorem r_lay (l : Launch) (G : va_G) (cA : zCA) (h0 : Nat) (m_status : Int32) (m_thrown : Int32) (m_above : Int64) (m_under : Int64) (a_traySort : Nat) (a_trayMany : Nat) (a_numbers : Nat) (a_tape : Nat) (m_taped : Int32) (m_textEnd : Int32) (m_faultKind : Int32) (m_faultAt : Int32) (m_bad : Int32) (m_badAt : Int32) (m_token : Int32) (m_at : Int32) (m_behind : Int32) (m_number : Int32) (m_letters : Int32) (m_word : Int64) (a_c : Nat) (a_words : Nat) (m_markMany : Int32) (a_there : Nat) (a_tried : Nat) (a_best : Nat) (a_found : Nat) (m_thereMany : Int32) (m_foundMany : Int32) (m_orderHow : Int32) (m_orderRing : Int32) (m_orderMany : Int32) (m_hasBest : Int32) (m_bestTop : Int64) (m_bestBy : Int64) (a_weights : Nat) (a_shared : Nat) (m_random : Int32) (m_truePlace : Int32) (m_trueWay : Int32) (m_seconds : Int32) (m_done : Int32) (m_feelings : Int32) (m_tries : Int32) (m_leftOver : Int32) (m_playDoor : Int32) (m_playRing : Int32) (m_isOpen : Int32) (m_isOver : Int32) (m_wasTried : Int32) (m_hasPlayed : Int32) (a_feltNow : Nat) (a_last : Nat) (a_kept : Nat) (m_hasSeconds : Int32) (m_hasTurned : Int32) (m_hasRound : Int32) (a_hasFeels : Nat) (a_isOn : Nat) (m_firstAct : Int32) (m_meanTop : Int64) (m_meanBy : Int64) (a_order : Nat) (m_rowMany : Int32) (m_newSteps : Int32) (g_trayMany : Nat → Int32) (g_numbers : Nat → Int64) (g_c : Nat → Int32) (r : Int32) (t : Int32) (hC_g_trayMany : zRg 4 (-1) 60 g_trayMany) (hZ_g_c : zC g_c) : zCi l yX12_lay cX12_lay 8 (some .boolean) ({ frames := 2, cells := 0, slots := 0, locals := 47 }) G cA [.ref h0, .int r, .int t] [(h0, .inr (12, [.int m_status, .int m_thrown, .long m_above, .long m_under, .ref a_traySort, .ref a_trayMany, .ref a_numbers, .ref a_tape, .int m_taped, .int m_textEnd, .int m_faultKind, .int m_faultAt, .int m_bad, .int m_badAt, .int m_token, .int m_at, .int m_behind, .int m_number, .int m_letters, .long m_word, .ref a_c, .ref a_words, .int m_markMany, .ref a_there, .ref a_tried, .ref a_best, .ref a_found, .int m_thereMany, .int m_foundMany, .int m_orderHow, .int m_orderRing, .int m_orderMany, .int m_hasBest, .long m_bestTop, .long m_bestBy, .ref a_weights, .ref a_shared, .int m_random, .int m_truePlace, .int m_trueWay, .int m_seconds, .int m_done, .int m_feelings, .int m_tries, .int m_leftOver, .int m_playDoor, .int m_playRing, .int m_isOpen, .int m_isOver, .int m_wasTried, .int m_hasPlayed, .ref a_feltNow, .ref a_last, .ref a_kept, .int m_hasSeconds, .int m_hasTurned, .int m_hasRound, .ref a_hasFeels, .ref a_isOn, .int m_firstAct, .long m_meanTop, .long m_meanBy, .ref a_order, .int m_rowMany, .int m_newSteps])), (a_trayMany, .inl (cA.1 0, 4, .inl g_trayMany)), (a_numbers, .inl (cA.1 1, 240, .inr (.inl g_numbers))), (a_c, .inl (cA.1 0, 1825, .inl g_c))] (S := Int32 × Int32 × (Nat → Int32)) (fun (r : Int32) (u : Int32 × Int32 × (Nat → Int32)) => (r = 0 ∧ (0 ≤ u.2.1.toInt ∧ u.2.1.toInt ≤ 0) ∧ (zC u.2.2) ∧ (zHF g_c u.2.2) ∧ (zPm g_c u.2.2)) ∨ (r = 1 ∧ (0 ≤ u.1.toInt ∧ u.1.toInt ≤ 0) ∧ (0 ≤ u.2.1.toInt ∧ u.2.1.toInt ≤ 0) ∧ (zC u.2.2) ∧ (zHF g_c u.2.2) ∧ (zPm g_c u.2.2))) (fun (u : Int32 × Int32 × (Nat → Int32)) => [(h0, .inr (12, [.int u.1, .int u.2.1, .long m_above, .long m_under, .ref a_traySort, .ref a_trayMany, .ref a_numbers, .ref a_tape, .int m_taped, .int m_textEnd, .int m_faultKind, .int m_faultAt, .int m_bad, .int m_badAt, .int m_token, .int m_at, .int m_behind, .int m_number, .int m_letters, .long m_word, .ref a_c, .ref a_words, .int m_markMany, .ref a_there, .ref a_tried, .ref a_best, .ref a_found, .int m_thereMany, .int m_foundMany, .int m_orderHow, .int m_orderRing, .int m_orderMany, .int m_hasBest, .long m_bestTop, .long m_bestBy, .ref a_weights, .ref a_shared, .int m_random, .int m_truePlace, .int m_trueWay, .int m_seconds, .int m_done, .int m_feelings, .int m_tries, .int m_leftOver, .int m_playDoor, .int m_playRing, .int m_isOpen, .int m_isOver, .int m_wasTried, .int m_hasPlayed, .ref a_feltNow, .ref a_last, .ref a_kept, .int m_hasSeconds, .int m_hasTurned, .int m_hasRound, .ref a_hasFeels, .ref a_isOn, .int m_firstAct, .long m_meanTop, .long m_meanBy, .ref a_order, .int m_rowMany, .int m_newSteps])), (a_trayMany, .inl (cA.1 0, 4, .inl g_trayMany)), (a_numbers, .inl (cA.1 1, 240, .inr (.inl g_numbers))), (a_c, .inl (cA.1 0, 1825, .inl u.2.2))]) 0 0 := by
  have hk_0 : (0 : Int32).toInt = 0 := by decide +kernel
  have hk_1 : (1 : Int32).toInt = 1 := by decide +kernel
  have hk_2 : (2 : Int32).toInt = 2 := by decide +kernel
  have hk_3 : (3 : Int32).toInt = 3 := by decide +kernel
  have hk_4 : (4 : Int32).toInt = 4 := by decide +kernel
  have hk_5 : (5 : Int32).toInt = 5 := by decide +kernel
  have hk_10 : (10 : Int32).toInt = 10 := by decide +kernel
  have hk_95 : (95 : Int32).toInt = 95 := by decide +kernel
  have hk_98 : (98 : Int32).toInt = 98 := by decide +kernel
  have hC_g_c : zCt g_c := hZ_g_c.1
  refine z_start2z (own := RX12) (by decide) (Nat.le_of_ble_eq_true rfl) rfl ?_
  intro p e s m args below meth c A ls Q hx hb hml hts hown hK hE hT hP hD hS hA hl hret
  have hl : lv_has ls 8 [(0, .ref h0), (1, .int r), (2, .int t)] := hl
  refine lv_aload_n hx hb dX12_lay_0 rfl (lv_at hl 0 rfl) ?_
  refine lv_iconst (v := 0) hx hb dX12_lay_1 (by decide) ?_
  refine va_put (D := G) (ci := 12) (v := .int 0) (ty := .int) (C := RX12) (T := TX12) (N := 65) hx hb hts inT12 tyX12 tyX12_ok nmX12 hown hK hP hD hS 0 rfl rfl 1 (by decide) (hts _ tw_1886) (fun _ h9 => h9) rfl (tyX12_ok 1 (by decide)) rfl rfl (Nat.le_of_ble_eq_true rfl) dX12_lay_2 (fun H locs hP hD hS => ?_)
  refine lv_aload_n hx hb dX12_lay_5 rfl (lv_at hl 0 rfl) ?_
  refine lv_iconst (v := 0) hx hb dX12_lay_6 (by decide) ?_
  refine va_put (D := G) (ci := 12) (v := .int 0) (ty := .int) (C := RX12) (T := TX12) (N := 65) hx hb hts inT12 tyX12 tyX12_ok nmX12 hown hK hP hD hS 0 rfl rfl 0 (by decide) (hts _ tw_1885) (fun _ h9 => h9) rfl (tyX12_ok 0 (by decide)) rfl rfl (Nat.le_of_ble_eq_true rfl) dX12_lay_7 (fun H locs hP hD hS => ?_)
  refine lv_aload_n hx hb dX12_lay_10 rfl (lv_at hl 0 rfl) ?_
  refine lv_iload_n hx hb dX12_lay_11 rfl (lv_at hl 2 rfl) ?_
  refine z_callVi (As := [.int t]) (rest := []) (wr := [(a_trayMany, .inl (cA.1 0, 4, .inl g_trayMany)), (a_numbers, .inl (cA.1 1, 240, .inr (.inl g_numbers))), (a_c, .inl (cA.1 0, 1825, .inl g_c))]) ⟨hx, hb, hml, hown, hts⟩ hK hE hT hP hD hS hA (r_isTray l G cA h0 0 0 m_above m_under a_traySort a_trayMany a_numbers a_tape m_taped m_textEnd m_faultKind m_faultAt m_bad m_badAt m_token m_at m_behind m_number m_letters m_word a_c a_words m_markMany a_there a_tried a_best a_found m_thereMany m_foundMany m_orderHow m_orderRing m_orderMany m_hasBest m_bestTop m_bestBy a_weights a_shared m_random m_truePlace m_trueWay m_seconds m_done m_feelings m_tries m_leftOver m_playDoor m_playRing m_isOpen m_isOver m_wasTried m_hasPlayed a_feltNow a_last a_kept m_hasSeconds m_hasTurned m_hasRound a_hasFeels a_isOn m_firstAct m_meanTop m_meanBy a_order m_rowMany m_newSteps t) lk_RX12_298 ⟨rfl, rfl⟩ ⟨Nat.le_of_ble_eq_true rfl, Nat.le_of_ble_eq_true rfl⟩ 12 rfl rfl rfl [0] [1, 2, 3] rfl rfl (by decide) rfl hl.1 rfl (lv_room (Nat.le_of_ble_eq_true rfl)) dX12_lay_12 ⟨Nat.le_of_ble_eq_true rfl, Nat.le_of_ble_eq_true rfl⟩ (fun r_1 u_2 H locs hw hP hD hS => ?_)
  rcases hw with ⟨rfl, -⟩ | ⟨rfl, hf_3⟩
  · skip
    refine lv_if_ne (tgt := 24) hx hb dX12_lay_15 (by decide) (fun h9 => absurd (by decide +kernel) h9) (fun _ => ?_)
    refine lv_aload_n hx hb dX12_lay_18 rfl (lv_at hl 0 rfl) ?_
    refine lv_iconst (v := 1) hx hb dX12_lay_19 (by decide) ?_
    refine z_callVi (As := [.int 1]) (rest := []) (wr := [(a_trayMany, .inl (cA.1 0, 4, .inl g_trayMany)), (a_numbers, .inl (cA.1 1, 240, .inr (.inl g_numbers))), (a_c, .inl (cA.1 0, 1825, .inl g_c))]) ⟨hx, hb, hml, hown, hts⟩ hK hE hT hP hD hS hA (r_no l G cA h0 0 0 m_above m_under a_traySort a_trayMany a_numbers a_tape m_taped m_textEnd m_faultKind m_faultAt m_bad m_badAt m_token m_at m_behind m_number m_letters m_word a_c a_words m_markMany a_there a_tried a_best a_found m_thereMany m_foundMany m_orderHow m_orderRing m_orderMany m_hasBest m_bestTop m_bestBy a_weights a_shared m_random m_truePlace m_trueWay m_seconds m_done m_feelings m_tries m_leftOver m_playDoor m_playRing m_isOpen m_isOver m_wasTried m_hasPlayed a_feltNow a_last a_kept m_hasSeconds m_hasTurned m_hasRound a_hasFeels a_isOn m_firstAct m_meanTop m_meanBy a_order m_rowMany m_newSteps 1) lk_RX12_97 ⟨rfl, rfl⟩ ⟨Nat.le_of_ble_eq_true rfl, Nat.le_of_ble_eq_true rfl⟩ 12 rfl rfl rfl [3] [0, 1, 2] rfl rfl (by decide) rfl hl.1 rfl (lv_room (Nat.le_of_ble_eq_true rfl)) dX12_lay_20 ⟨Nat.le_of_ble_eq_true rfl, Nat.le_of_ble_eq_true rfl⟩ (fun r_5 u_6 H locs hw hP hD hS => ?_)
    obtain ⟨n_4, rfl⟩ : ∃ z, z = u_6 := ⟨_, rfl⟩
    obtain ⟨he_r_5, he_n_4, hw⟩ := hw
    obtain ⟨rfl, -⟩ := hw
    have hpost : ((0 : Int32) = 0 ∧ (0 ≤ (0 : Int32).toInt ∧ (0 : Int32).toInt ≤ 0) ∧ (zC g_c) ∧ (zHF g_c g_c) ∧ (zPm g_c g_c)) ∨ ((0 : Int32) = 1 ∧ (0 ≤ n_4.toInt ∧ n_4.toInt ≤ 0) ∧ (0 ≤ (0 : Int32).toInt ∧ (0 : Int32).toInt ≤ 0) ∧ (zC g_c) ∧ (zHF g_c g_c) ∧ (zPm g_c g_c)) := (Or.inl ⟨rfl, ⟨(by decide +kernel), hZ_g_c, (zHF_refl g_c), (zPm_refl _)⟩⟩)
    exact hret _ _ _ _ _ _ (n_4, 0, g_c) [3, 0, 1, 2] hP hD hS rfl (by decide) dX12_lay_23 (Or.inl rfl) hpost
  · skip
    refine lv_if_ne (tgt := 24) hx hb dX12_lay_15 (by decide) (fun _ => ?_) (fun h9 => absurd h9 (by decide +kernel))
    refine lv_aload_n hx hb dX12_lay_24 rfl (lv_at hl 0 rfl) ?_
    refine lv_iload_n hx hb dX12_lay_25 rfl (lv_at hl 1 rfl) ?_
    refine z_callVi (As := [.int r]) (rest := []) (wr := [(a_trayMany, .inl (cA.1 0, 4, .inl g_trayMany)), (a_numbers, .inl (cA.1 1, 240, .inr (.inl g_numbers)))]) ⟨hx, hb, hml, hown, hts⟩ hK hE hT hP hD hS hA (r_isRing l G cA h0 0 0 m_above m_under a_traySort a_trayMany a_numbers a_tape m_taped m_textEnd m_faultKind m_faultAt m_bad m_badAt m_token m_at m_behind m_number m_letters m_word a_c a_words m_markMany a_there a_tried a_best a_found m_thereMany m_foundMany m_orderHow m_orderRing m_orderMany m_hasBest m_bestTop m_bestBy a_weights a_shared m_random m_truePlace m_trueWay m_seconds m_done m_feelings m_tries m_leftOver m_playDoor m_playRing m_isOpen m_isOver m_wasTried m_hasPlayed a_feltNow a_last a_kept m_hasSeconds m_hasTurned m_hasRound a_hasFeels a_isOn m_firstAct m_meanTop m_meanBy a_order m_rowMany m_newSteps g_c r hZ_g_c) lk_RX12_289 ⟨rfl, rfl⟩ ⟨Nat.le_of_ble_eq_true rfl, Nat.le_of_ble_eq_true rfl⟩ 12 rfl rfl rfl [3, 2] [0, 1] rfl rfl (by decide) rfl hl.1 rfl (lv_room (Nat.le_of_ble_eq_true rfl)) dX12_lay_26 ⟨Nat.le_of_ble_eq_true rfl, Nat.le_of_ble_eq_true rfl⟩ (fun r_7 u_8 H locs hw hP hD hS => ?_)
    obtain ⟨he_r_7, hw⟩ := hw
    rcases hw with ⟨rfl, -⟩ | ⟨rfl, hf_9, hf_10⟩
    · skip
      refine lv_if_ne (tgt := 38) hx hb dX12_lay_29 (by decide) (fun h9 => absurd (by decide +kernel) h9) (fun _ => ?_)
      refine lv_aload_n hx hb dX12_lay_32 rfl (lv_at hl 0 rfl) ?_
      refine lv_iconst (v := 2) hx hb dX12_lay_33 (by decide) ?_
      refine z_callVi (As := [.int 2]) (rest := []) (wr := [(a_trayMany, .inl (cA.1 0, 4, .inl g_trayMany)), (a_numbers, .inl (cA.1 1, 240, .inr (.inl g_numbers))), (a_c, .inl (cA.1 0, 1825, .inl g_c))]) ⟨hx, hb, hml, hown, hts⟩ hK hE hT hP hD hS hA (r_no l G cA h0 0 0 m_above m_under a_traySort a_trayMany a_numbers a_tape m_taped m_textEnd m_faultKind m_faultAt m_bad m_badAt m_token m_at m_behind m_number m_letters m_word a_c a_words m_markMany a_there a_tried a_best a_found m_thereMany m_foundMany m_orderHow m_orderRing m_orderMany m_hasBest m_bestTop m_bestBy a_weights a_shared m_random m_truePlace m_trueWay m_seconds m_done m_feelings m_tries m_leftOver m_playDoor m_playRing m_isOpen m_isOver m_wasTried m_hasPlayed a_feltNow a_last a_kept m_hasSeconds m_hasTurned m_hasRound a_hasFeels a_isOn m_firstAct m_meanTop m_meanBy a_order m_rowMany m_newSteps 2) lk_RX12_97 ⟨rfl, rfl⟩ ⟨Nat.le_of_ble_eq_true rfl, Nat.le_of_ble_eq_true rfl⟩ 12 rfl rfl rfl [2] [0, 1, 3] rfl rfl (by decide) rfl hl.1 rfl (lv_room (Nat.le_of_ble_eq_true rfl)) dX12_lay_34 ⟨Nat.le_of_ble_eq_true rfl, Nat.le_of_ble_eq_true rfl⟩ (fun r_12 u_13 H locs hw hP hD hS => ?_)
      obtain ⟨n_11, rfl⟩ : ∃ z, z = u_13 := ⟨_, rfl⟩
      obtain ⟨he_r_12, he_n_11, hw⟩ := hw
      obtain ⟨rfl, -⟩ := hw
      have hpost : ((0 : Int32) = 0 ∧ (0 ≤ (0 : Int32).toInt ∧ (0 : Int32).toInt ≤ 0) ∧ (zC g_c) ∧ (zHF g_c g_c) ∧ (zPm g_c g_c)) ∨ ((0 : Int32) = 1 ∧ (0 ≤ n_11.toInt ∧ n_11.toInt ≤ 0) ∧ (0 ≤ (0 : Int32).toInt ∧ (0 : Int32).toInt ≤ 0) ∧ (zC g_c) ∧ (zHF g_c g_c) ∧ (zPm g_c g_c)) := (Or.inl ⟨rfl, ⟨(by decide +kernel), hZ_g_c, (zHF_refl g_c), (zPm_refl _)⟩⟩)
      exact hret _ _ _ _ _ _ (n_11, 0, g_c) [3, 0, 1, 2] hP hD hS rfl (by decide) dX12_lay_37 (Or.inl rfl) hpost
    · skip
      refine lv_if_ne (tgt := 38) hx hb dX12_lay_29 (by decide) (fun _ => ?_) (fun h9 => absurd h9 (by decide +kernel))
      refine lv_aload_n hx hb dX12_lay_38 rfl (lv_at hl 0 rfl) ?_
      refine va_get (D := G) (ci := 12) (v := .ref a_trayMany) (C := RX12) (T := TX12) (N := 65) hx hb hts inT12 hown hK hP 2 rfl rfl 5 (by decide) (hts _ tw_1890) (fun _ h9 => h9) rfl dX12_lay_39 ?_
      refine lv_iload_n hx hb dX12_lay_42 rfl (lv_at hl 2 rfl) ?_
      refine va_iald hx hb hK hP 0 0 rfl rfl (z_inN (by omega) (by omega)) dX12_lay_43 ?_
      refine lv_topi (fun x_14 he_x_14 => ?_)
      have hr_x_14 := z_rg hC_g_trayMany he_x_14 (by omega) (by omega)
      refine lv_if_ge (tgt := 53) hx hb dX12_lay_44 (by decide) (fun c_15 => ?_) (fun c_15 => ?_)
      · have b_16 := z_fgeT c_15
        refine lv_aload_n hx hb dX12_lay_53 rfl (lv_at hl 0 rfl) ?_
        refine va_get (D := G) (ci := 12) (v := .ref a_c) (C := RX12) (T := TX12) (N := 65) hx hb hts inT12 hown hK hP 2 rfl rfl 20 (by decide) (hts _ tw_1905) (fun _ h9 => h9) rfl dX12_lay_54 ?_
        refine lv_bipush (v := 95) hx hb dX12_lay_57 (by decide) ?_
        refine lv_iload_n hx hb dX12_lay_59 rfl (lv_at hl 1 rfl) ?_
        refine lv_iadd hx hb dX12_lay_60 ?_
        refine lv_topi (fun x_17 he_x_17 => ?_)
        have hq_x_17 := z_addq he_x_17 hk_95 (rfl : r.toInt = _) (by omega) (by omega)
        refine va_iald hx hb hK hP 3 0 rfl rfl (z_inN (by omega) (by omega)) dX12_lay_61 ?_
        refine lv_topi (fun x_18 he_x_18 => ?_)
        have hr_x_18 := z_ctt hC_g_c he_x_18 (a := 95) (b := 97) (lo := 0) (hi := 10) (by decide +kernel) (by decide) (by omega) (by omega)
        have hsz_x_18 := z_sz (r := r.toInt) he_x_18 (by omega) (by omega)
        refine lv_istore_n (lv' := [(3, .int x_18), (0, .ref h0), (1, .int r), (2, .int t)]) hx hb dX12_lay_62 rfl hl (by decide) rfl (fun ls hl => ?_)
        refine lv_aload_n hx hb dX12_lay_63 rfl (lv_at hl 1 rfl) ?_
        refine va_get (D := G) (ci := 12) (v := .ref a_trayMany) (C := RX12) (T := TX12) (N := 65) hx hb hts inT12 hown hK hP 2 rfl rfl 5 (by decide) (hts _ tw_1890) (fun _ h9 => h9) rfl dX12_lay_64 ?_
        refine lv_iload_n hx hb dX12_lay_67 rfl (lv_at hl 3 rfl) ?_
        refine va_iald hx hb hK hP 0 0 rfl rfl (z_inN (by omega) (by omega)) dX12_lay_68 ?_
        refine lv_topi (fun x_19 he_x_19 => ?_)
        have hr_x_19 := z_rg hC_g_trayMany he_x_19 (by omega) (by omega)
        refine lv_iload_n hx hb dX12_lay_69 rfl (lv_at hl 0 rfl) ?_
        refine lv_icmp_ge (tgt := 79) hx hb dX12_lay_70 (by decide) (fun c_20 => ?_) (fun c_20 => ?_)
        · have b_21 := z_fgeT c_20
          refine lv_iconst (v := 0) hx hb dX12_lay_79 (by decide) ?_
          refine lv_istore (lv' := [(4, .int 0), (3, .int x_18), (0, .ref h0), (1, .int r), (2, .int t)]) hx hb dX12_lay_80 hl (by decide) rfl (fun ls hl => ?_)
          have hlp_1670 : ∀ (n : Nat) (v_1474 : Int32) (H : Heap) (locs : List Loc) (ls : Array Slot), (2147483647 - v_1474.toInt).toNat < n → (0 ≤ v_1474.toInt ∧ v_1474.toInt ≤ 10) → (zLy g_numbers (g_c 1).toInt t.toInt v_1474.toInt) → (v_1474.toInt ≤ x_18.toInt) → (zLm g_c g_numbers r.toInt t.toInt v_1474.toInt) → va_P G vwCl [(a_trayMany, .inl (cA.1 0, 4, .inl g_trayMany)), (a_numbers, .inl (cA.1 1, 240, .inr (.inl g_numbers))), (h0, .inr (12, [.int 0, .int 0, .long m_above, .long m_under, .ref a_traySort, .ref a_trayMany, .ref a_numbers, .ref a_tape, .int m_taped, .int m_textEnd, .int m_faultKind, .int m_faultAt, .int m_bad, .int m_badAt, .int m_token, .int m_at, .int m_behind, .int m_number, .int m_letters, .long m_word, .ref a_c, .ref a_words, .int m_markMany, .ref a_there, .ref a_tried, .ref a_best, .ref a_found, .int m_thereMany, .int m_foundMany, .int m_orderHow, .int m_orderRing, .int m_orderMany, .int m_hasBest, .long m_bestTop, .long m_bestBy, .ref a_weights, .ref a_shared, .int m_random, .int m_truePlace, .int m_trueWay, .int m_seconds, .int m_done, .int m_feelings, .int m_tries, .int m_leftOver, .int m_playDoor, .int m_playRing, .int m_isOpen, .int m_isOver, .int m_wasTried, .int m_hasPlayed, .ref a_feltNow, .ref a_last, .ref a_kept, .int m_hasSeconds, .int m_hasTurned, .int m_hasRound, .ref a_hasFeels, .ref a_isOn, .int m_firstAct, .long m_meanTop, .long m_meanBy, .ref a_order, .int m_rowMany, .int m_newSteps])), (a_c, .inl (cA.1 0, 1825, .inl g_c))] H → va_D A [(a_trayMany, .inl (cA.1 0, 4, .inl g_trayMany)), (a_numbers, .inl (cA.1 1, 240, .inr (.inl g_numbers))), (h0, .inr (12, [.int 0, .int 0, .long m_above, .long m_under, .ref a_traySort, .ref a_trayMany, .ref a_numbers, .ref a_tape, .int m_taped, .int m_textEnd, .int m_faultKind, .int m_faultAt, .int m_bad, .int m_badAt, .int m_token, .int m_at, .int m_behind, .int m_number, .int m_letters, .long m_word, .ref a_c, .ref a_words, .int m_markMany, .ref a_there, .ref a_tried, .ref a_best, .ref a_found, .int m_thereMany, .int m_foundMany, .int m_orderHow, .int m_orderRing, .int m_orderMany, .int m_hasBest, .long m_bestTop, .long m_bestBy, .ref a_weights, .ref a_shared, .int m_random, .int m_truePlace, .int m_trueWay, .int m_seconds, .int m_done, .int m_feelings, .int m_tries, .int m_leftOver, .int m_playDoor, .int m_playRing, .int m_isOpen, .int m_isOver, .int m_wasTried, .int m_hasPlayed, .ref a_feltNow, .ref a_last, .ref a_kept, .int m_hasSeconds, .int m_hasTurned, .int m_hasRound, .ref a_hasFeels, .ref a_isOn, .int m_firstAct, .long m_meanTop, .long m_meanBy, .ref a_order, .int m_rowMany, .int m_newSteps])), (a_c, .inl (cA.1 0, 1825, .inl g_c))] → va_S A s.heap H locs → lv_has ls 8 [(0, .ref h0), (1, .int r), (2, .int t), (3, .int x_18), (4, .int v_1474)] → W p l e ({ frames := 2, cells := 0, slots := 0, locals := 47 }) s m args below meth c H locs 0 0 Q (F0 m 82 ls []) := by
            intro n
            induction n with
            | zero =>
              intro v_1474 H locs ls hmu_hlp_1670 hr_v_1474 hi_1667 hi_1668 hi_1669 hP hD hS hl
              exact absurd hmu_hlp_1670 (Nat.not_lt_zero _)
            | succ n ih_1671 =>
              intro v_1474 H locs ls hmu_hlp_1670 hr_v_1474 hi_1667 hi_1668 hi_1669 hP hD hS hl
              refine lv_iload hx hb dX12_lay_82 (lv_at hl 4 rfl) ?_
              refine lv_iload_n hx hb dX12_lay_84 rfl (lv_at hl 3 rfl) ?_
              refine lv_icmp_ge (tgt := 164) hx hb dX12_lay_85 (by decide) (fun c_1672 => ?_) (fun c_1672 => ?_)
              · have b_1673 := z_fgeT c_1672
                have hlyn : v_1474.toInt = x_18.toInt := by omega
                have hlyE : zLy g_numbers (g_c 1).toInt t.toInt x_18.toInt := hlyn ▸ hi_1667
                have hlmE : zLm g_c g_numbers r.toInt t.toInt x_18.toInt := hlyn ▸ hi_1669
                refine lv_iconst (v := 0) hx hb dX12_lay_164 (by decide) ?_
                refine lv_istore (lv' := [(4, .int 0), (0, .ref h0), (1, .int r), (2, .int t), (3, .int x_18)]) hx hb dX12_lay_165 hl (by decide) rfl (fun ls hl => ?_)
                have hlp_1854 : ∀ (n : Nat) (v_1836 : Int32) (g_1837 : Nat → Int32) (H : Heap) (locs : List Loc) (ls : Array Slot), (2147483647 - v_1836.toInt).toNat < n → (0 ≤ v_1836.toInt ∧ v_1836.toInt ≤ 10) → (zCt g_1837) → (zHF g_c g_1837) → (zLw g_c g_1837 g_numbers r.toInt t.toInt v_1836.toInt) → (v_1836.toInt ≤ x_18.toInt) → va_P G vwCl [(a_trayMany, .inl (cA.1 0, 4, .inl g_trayMany)), (a_numbers, .inl (cA.1 1, 240, .inr (.inl g_numbers))), (h0, .inr (12, [.int 0, .int 0, .long m_above, .long m_under, .ref a_traySort, .ref a_trayMany, .ref a_numbers, .ref a_tape, .int m_taped, .int m_textEnd, .int m_faultKind, .int m_faultAt, .int m_bad, .int m_badAt, .int m_token, .int m_at, .int m_behind, .int m_number, .int m_letters, .long m_word, .ref a_c, .ref a_words, .int m_markMany, .ref a_there, .ref a_tried, .ref a_best, .ref a_found, .int m_thereMany, .int m_foundMany, .int m_orderHow, .int m_orderRing, .int m_orderMany, .int m_hasBest, .long m_bestTop, .long m_bestBy, .ref a_weights, .ref a_shared, .int m_random, .int m_truePlace, .int m_trueWay, .int m_seconds, .int m_done, .int m_feelings, .int m_tries, .int m_leftOver, .int m_playDoor, .int m_playRing, .int m_isOpen, .int m_isOver, .int m_wasTried, .int m_hasPlayed, .ref a_feltNow, .ref a_last, .ref a_kept, .int m_hasSeconds, .int m_hasTurned, .int m_hasRound, .ref a_hasFeels, .ref a_isOn, .int m_firstAct, .long m_meanTop, .long m_meanBy, .ref a_order, .int m_rowMany, .int m_newSteps])), (a_c, .inl (cA.1 0, 1825, .inl g_1837))] H → va_D A [(a_trayMany, .inl (cA.1 0, 4, .inl g_trayMany)), (a_numbers, .inl (cA.1 1, 240, .inr (.inl g_numbers))), (h0, .inr (12, [.int 0, .int 0, .long m_above, .long m_under, .ref a_traySort, .ref a_trayMany, .ref a_numbers, .ref a_tape, .int m_taped, .int m_textEnd, .int m_faultKind, .int m_faultAt, .int m_bad, .int m_badAt, .int m_token, .int m_at, .int m_behind, .int m_number, .int m_letters, .long m_word, .ref a_c, .ref a_words, .int m_markMany, .ref a_there, .ref a_tried, .ref a_best, .ref a_found, .int m_thereMany, .int m_foundMany, .int m_orderHow, .int m_orderRing, .int m_orderMany, .int m_hasBest, .long m_bestTop, .long m_bestBy, .ref a_weights, .ref a_shared, .int m_random, .int m_truePlace, .int m_trueWay, .int m_seconds, .int m_done, .int m_feelings, .int m_tries, .int m_leftOver, .int m_playDoor, .int m_playRing, .int m_isOpen, .int m_isOver, .int m_wasTried, .int m_hasPlayed, .ref a_feltNow, .ref a_last, .ref a_kept, .int m_hasSeconds, .int m_hasTurned, .int m_hasRound, .ref a_hasFeels, .ref a_isOn, .int m_firstAct, .long m_meanTop, .long m_meanBy, .ref a_order, .int m_rowMany, .int m_newSteps])), (a_c, .inl (cA.1 0, 1825, .inl g_1837))] → va_S A s.heap H locs → lv_has ls 8 [(0, .ref h0), (1, .int r), (2, .int t), (3, .int x_18), (4, .int v_1836)] → W p l e ({ frames := 2, cells := 0, slots := 0, locals := 47 }) s m args below meth c H locs 0 0 Q (F0 m 167 ls []) := by
                  intro n
                  induction n with
                  | zero =>
                    intro v_1836 g_1837 H locs ls hmu_hlp_1854 hr_v_1836 hC_g_1837 hs_1851 hi_1852 hi_1853 hP hD hS hl
                    exact absurd hmu_hlp_1854 (Nat.not_lt_zero _)
                  | succ n ih_1855 =>
                    intro v_1836 g_1837 H locs ls hmu_hlp_1854 hr_v_1836 hC_g_1837 hs_1851 hi_1852 hi_1853 hP hD hS hl
                    refine lv_iload hx hb dX12_lay_167 (lv_at hl 4 rfl) ?_
                    refine lv_iload_n hx hb dX12_lay_169 rfl (lv_at hl 3 rfl) ?_
                    refine lv_icmp_ge (tgt := 202) hx hb dX12_lay_170 (by decide) (fun c_1856 => ?_) (fun c_1856 => ?_)
                    · have b_1857 := z_fgeT c_1856
                      refine lv_aload_n hx hb dX12_lay_202 rfl (lv_at hl 0 rfl) ?_
                      have hlw : zLw g_c g_1837 g_numbers r.toInt t.toInt x_18.toInt := (show v_1836.toInt = x_18.toInt by omega) ▸ hi_1852
                      have hZ_g_1837 : zC g_1837 := zLw_zC hZ_g_c hC_g_1837 hlw hlyE (by omega) (by omega) (by omega)
                      refine lv_iload_n hx hb dX12_lay_203 rfl (lv_at hl 1 rfl) ?_
                      refine z_callVv (As := [.int r]) (rest := []) (wr := [(a_trayMany, .inl (cA.1 0, 4, .inl g_trayMany)), (a_numbers, .inl (cA.1 1, 240, .inr (.inl g_numbers)))]) ⟨hx, hb, hml, hown, hts⟩ hK hE hT hP hD hS hA (r_letGo l G cA h0 0 0 m_above m_under a_traySort a_trayMany a_numbers a_tape m_taped m_textEnd m_faultKind m_faultAt m_bad m_badAt m_token m_at m_behind m_number m_letters m_word a_c a_words m_markMany a_there a_tried a_best a_found m_thereMany m_foundMany m_orderHow m_orderRing m_orderMany m_hasBest m_bestTop m_bestBy a_weights a_shared m_random m_truePlace m_trueWay m_seconds m_done m_feelings m_tries m_leftOver m_playDoor m_playRing m_isOpen m_isOver m_wasTried m_hasPlayed a_feltNow a_last a_kept m_hasSeconds m_hasTurned m_hasRound a_hasFeels a_isOn m_firstAct m_meanTop m_meanBy a_order m_rowMany m_newSteps g_1837 r hZ_g_1837) lk_RX12_305 ⟨rfl, rfl⟩ ⟨Nat.le_of_ble_eq_true rfl, Nat.le_of_ble_eq_true rfl⟩ 12 rfl rfl rfl [2, 3] [0, 1] rfl rfl (by decide) rfl hl.1 rfl (lv_room (Nat.le_of_ble_eq_true rfl)) dX12_lay_204 ⟨Nat.le_of_ble_eq_true rfl, Nat.le_of_ble_eq_true rfl⟩ (fun u_1860 H locs hw hP hD hS => ?_)
                      obtain ⟨n_1858, rfl⟩ : ∃ z, z = u_1860 := ⟨_, rfl⟩
                      obtain ⟨he_n_1858, hw⟩ := hw
                      obtain ⟨hZ_n_1858, hf_1861⟩ := hw
                      have hC_n_1858 : zCt n_1858 := hZ_n_1858.1
                      have hs_1862 : zHF g_c n_1858 := (zHF_trans hs_1851 (zHF_10 hf_1861))
                      refine lv_iconst (v := 1) hx hb dX12_lay_207 (by decide) ?_
                      have hpost : ((1 : Int32) = 0 ∧ (0 ≤ (0 : Int32).toInt ∧ (0 : Int32).toInt ≤ 0) ∧ (zC n_1858) ∧ (zHF g_c n_1858) ∧ (zPm g_c n_1858)) ∨ ((1 : Int32) = 1 ∧ (0 ≤ (0 : Int32).toInt ∧ (0 : Int32).toInt ≤ 0) ∧ (0 ≤ (0 : Int32).toInt ∧ (0 : Int32).toInt ≤ 0) ∧ (zC n_1858) ∧ (zHF g_c n_1858) ∧ (zPm g_c n_1858)) := (Or.inr ⟨rfl, ⟨(by decide +kernel), (by decide +kernel), hZ_n_1858, hs_1862, (zPm_lay hZ_g_c hlw hlyE hlmE (by omega) (by omega) (by omega) hf_1861)⟩⟩)
                      exact hret _ _ _ _ _ _ (0, 0, n_1858) [2, 0, 1, 3] hP hD hS rfl (by decide) dX12_lay_208 (Or.inr rfl) hpost
                    · have b_1863 := z_fltF c_1856
                      refine lv_aload_n hx hb dX12_lay_173 rfl (lv_at hl 0 rfl) ?_
                      refine va_get (D := G) (ci := 12) (v := .ref a_c) (C := RX12) (T := TX12) (N := 65) hx hb hts inT12 hown hK hP 2 rfl rfl 20 (by decide) (hts _ tw_1905) (fun _ h9 => h9) rfl dX12_lay_174 ?_
                      refine lv_bipush (v := 98) hx hb dX12_lay_177 (by decide) ?_
                      refine lv_bipush (v := 10) hx hb dX12_lay_179 (by decide) ?_
                      refine lv_iload_n hx hb dX12_lay_181 rfl (lv_at hl 1 rfl) ?_
                      refine lv_imul hx hb dX12_lay_182 ?_
                      refine lv_topi (fun x_1864 he_x_1864 => ?_)
                      have hq_x_1864 := z_mulq he_x_1864 hk_10 (rfl : r.toInt = _) (by omega) (by omega)
                      refine lv_iadd hx hb dX12_lay_183 ?_
                      refine lv_topi (fun x_1865 he_x_1865 => ?_)
                      have hq_x_1865 := z_addq he_x_1865 hk_98 (rfl : x_1864.toInt = _) (by omega) (by omega)
                      refine lv_iload hx hb dX12_lay_184 (lv_at hl 4 rfl) ?_
                      refine lv_iadd hx hb dX12_lay_186 ?_
                      refine lv_topi (fun x_1866 he_x_1866 => ?_)
                      have hq_x_1866 := z_addq he_x_1866 (rfl : x_1865.toInt = _) (rfl : v_1836.toInt = _) (by omega) (by omega)
                      refine lv_aload_n hx hb dX12_lay_187 rfl (lv_at hl 0 rfl) ?_
                      refine lv_iload_n hx hb dX12_lay_188 rfl (lv_at hl 2 rfl) ?_
                      refine lv_iload hx hb dX12_lay_189 (lv_at hl 4 rfl) ?_
                      refine z_callVl (As := [.int t, .int v_1836]) (rest := [.int x_1866, .ref a_c]) (wr := [(a_trayMany, .inl (cA.1 0, 4, .inl g_trayMany)), (a_c, .inl (cA.1 0, 1825, .inl g_1837))]) ⟨hx, hb, hml, hown, hts⟩ hK hE hT hP hD hS hA (r_numberOf l G cA h0 0 0 m_above m_under a_traySort a_trayMany a_numbers a_tape m_taped m_textEnd m_faultKind m_faultAt m_bad m_badAt m_token m_at m_behind m_number m_letters m_word a_c a_words m_markMany a_there a_tried a_best a_found m_thereMany m_foundMany m_orderHow m_orderRing m_orderMany m_hasBest m_bestTop m_bestBy a_weights a_shared m_random m_truePlace m_trueWay m_seconds m_done m_feelings m_tries m_leftOver m_playDoor m_playRing m_isOpen m_isOver m_wasTried m_hasPlayed a_feltNow a_last a_kept m_hasSeconds m_hasTurned m_hasRound a_hasFeels a_isOn m_firstAct m_meanTop m_meanBy a_order m_rowMany m_newSteps g_numbers t v_1836 (by omega) (z_rgw hr_v_1836 (by decide) (by decide))) lk_RX12_301 ⟨rfl, rfl⟩ ⟨Nat.le_of_ble_eq_true rfl, Nat.le_of_ble_eq_true rfl⟩ 12 rfl rfl rfl [2, 1] [0, 3] rfl rfl (by decide) rfl hl.1 rfl (lv_room (Nat.le_of_ble_eq_true rfl)) dX12_lay_191 ⟨Nat.le_of_ble_eq_true rfl, Nat.le_of_ble_eq_true rfl⟩ (fun r_1867 u_1868 H locs hw hP hD hS => ?_)
                      have hf_1869 := hw
                      have hyl_r_1867 := (hlyE).1 v_1836.toInt.toNat (by omega)
                      rw [← hf_1869] at hyl_r_1867
                      have hk1_r_1867 := z_ct hZ_g_c (z := g_c 1) (i := 1) (by rfl) (a := 1) (b := 1) (lo := 0) (hi := 10) (by decide +kernel) (by decide) (by decide +kernel) (by decide +kernel)
                      have hy9_r_1867 : 0 ≤ r_1867.toInt ∧ r_1867.toInt ≤ 9 := by omega
                      refine lv_l2i (v := (r_1867).toInt32) hx hb dX12_lay_194 rfl ?_
                      refine lv_topi (fun x_1870 he_x_1870 => ?_)
                      have hq_x_1870 := z_l2i he_x_1870 (by omega) (by omega)
                      refine z_iast hx hb hK hP hD hS 1 0 rfl rfl (z_inN (by omega) (by omega)) dX12_lay_195 (fun g_1871 hg_g_1871 H locs hP hD hS => ?_)
                      have hC_g_1871 := z_ctUt hC_g_1837 hg_g_1871 (a := 98) (b := 127) (lo := 0) (hi := 9) (by decide +kernel) (by omega) (by omega) (by omega)
                      have hw_g_1871_1 := z_cwo hg_g_1871 (k := 1) (by omega) (by omega)
                      have hw_g_1871_2 := z_cwo hg_g_1871 (k := 2) (by omega) (by omega)
                      have hs_1872 : zHF g_c g_1871 := (zHF_upd hs_1851 hg_g_1871 (a := 98) (b := 127) (by decide) (by omega) (by omega))
                      obtain ⟨x_1873, he_x_1873⟩ : ∃ z : Int32, z = v_1836 + 1 := ⟨_, rfl⟩
                      have hq_x_1873 := z_addq he_x_1873 (rfl : v_1836.toInt = _) hk_1 (by omega) (by omega)
                      refine lv_iinc (v := x_1873) (lv' := [(4, .int x_1873), (0, .ref h0), (1, .int r), (2, .int t), (3, .int x_18)]) hx hb dX12_lay_196 hl (k := 4) rfl ((z_ofi (by decide +kernel)).trans he_x_1873.symm) (by decide) rfl (fun ls hl => ?_)
                      refine lv_goto (tgt := 167) hx hb dX12_lay_199 (by decide) ?_
                      have hP := hP.sub (ws' := [(a_trayMany, .inl (cA.1 0, 4, .inl g_trayMany)), (a_numbers, .inl (cA.1 1, 240, .inr (.inl g_numbers))), (h0, .inr (12, [.int 0, .int 0, .long m_above, .long m_under, .ref a_traySort, .ref a_trayMany, .ref a_numbers, .ref a_tape, .int m_taped, .int m_textEnd, .int m_faultKind, .int m_faultAt, .int m_bad, .int m_badAt, .int m_token, .int m_at, .int m_behind, .int m_number, .int m_letters, .long m_word, .ref a_c, .ref a_words, .int m_markMany, .ref a_there, .ref a_tried, .ref a_best, .ref a_found, .int m_thereMany, .int m_foundMany, .int m_orderHow, .int m_orderRing, .int m_orderMany, .int m_hasBest, .long m_bestTop, .long m_bestBy, .ref a_weights, .ref a_shared, .int m_random, .int m_truePlace, .int m_trueWay, .int m_seconds, .int m_done, .int m_feelings, .int m_tries, .int m_leftOver, .int m_playDoor, .int m_playRing, .int m_isOpen, .int m_isOver, .int m_wasTried, .int m_hasPlayed, .ref a_feltNow, .ref a_last, .ref a_kept, .int m_hasSeconds, .int m_hasTurned, .int m_hasRound, .ref a_hasFeels, .ref a_isOn, .int m_firstAct, .long m_meanTop, .long m_meanBy, .ref a_order, .int m_rowMany, .int m_newSteps])), (a_c, .inl (cA.1 0, 1825, .inl g_1871))]) [0, 3, 2, 1] rfl
                      have hD := hD.sub (ws' := [(a_trayMany, .inl (cA.1 0, 4, .inl g_trayMany)), (a_numbers, .inl (cA.1 1, 240, .inr (.inl g_numbers))), (h0, .inr (12, [.int 0, .int 0, .long m_above, .long m_under, .ref a_traySort, .ref a_trayMany, .ref a_numbers, .ref a_tape, .int m_taped, .int m_textEnd, .int m_faultKind, .int m_faultAt, .int m_bad, .int m_badAt, .int m_token, .int m_at, .int m_behind, .int m_number, .int m_letters, .long m_word, .ref a_c, .ref a_words, .int m_markMany, .ref a_there, .ref a_tried, .ref a_best, .ref a_found, .int m_thereMany, .int m_foundMany, .int m_orderHow, .int m_orderRing, .int m_orderMany, .int m_hasBest, .long m_bestTop, .long m_bestBy, .ref a_weights, .ref a_shared, .int m_random, .int m_truePlace, .int m_trueWay, .int m_seconds, .int m_done, .int m_feelings, .int m_tries, .int m_leftOver, .int m_playDoor, .int m_playRing, .int m_isOpen, .int m_isOver, .int m_wasTried, .int m_hasPlayed, .ref a_feltNow, .ref a_last, .ref a_kept, .int m_hasSeconds, .int m_hasTurned, .int m_hasRound, .ref a_hasFeels, .ref a_isOn, .int m_firstAct, .long m_meanTop, .long m_meanBy, .ref a_order, .int m_rowMany, .int m_newSteps])), (a_c, .inl (cA.1 0, 1825, .inl g_1871))]) [0, 3, 2, 1] (by decide) rfl
                      exact ih_1855 x_1873 g_1871 H locs ls (by omega) (by omega) hC_g_1871 hs_1872 (by rw [hq_x_1873]; exact zLw_step hi_1852 hg_g_1871 (by omega) hf_1869 (by omega) (by omega) (by omega) (by omega) (by omega)) (by omega) hP hD hS (lv_sub hl [1, 2, 3, 4, 0] rfl)
                exact hlp_1854 _ 0 g_c _ _ _ (Nat.lt_succ_self _) (by decide +kernel) hC_g_c (zHF_refl g_c) zLw_0 (by omega) hP hD hS (lv_sub hl [1, 2, 3, 4, 0] rfl)
              · have b_1874 := z_fltF c_1672
                refine lv_aload_n hx hb dX12_lay_88 rfl (lv_at hl 0 rfl) ?_
                refine lv_iload_n hx hb dX12_lay_89 rfl (lv_at hl 2 rfl) ?_
                refine lv_iload hx hb dX12_lay_90 (lv_at hl 4 rfl) ?_
                refine z_callVl (As := [.int t, .int v_1474]) (rest := []) (wr := [(a_trayMany, .inl (cA.1 0, 4, .inl g_trayMany)), (a_c, .inl (cA.1 0, 1825, .inl g_c))]) ⟨hx, hb, hml, hown, hts⟩ hK hE hT hP hD hS hA (r_numberOf l G cA h0 0 0 m_above m_under a_traySort a_trayMany a_numbers a_tape m_taped m_textEnd m_faultKind m_faultAt m_bad m_badAt m_token m_at m_behind m_number m_letters m_word a_c a_words m_markMany a_there a_tried a_best a_found m_thereMany m_foundMany m_orderHow m_orderRing m_orderMany m_hasBest m_bestTop m_bestBy a_weights a_shared m_random m_truePlace m_trueWay m_seconds m_done m_feelings m_tries m_leftOver m_playDoor m_playRing m_isOpen m_isOver m_wasTried m_hasPlayed a_feltNow a_last a_kept m_hasSeconds m_hasTurned m_hasRound a_hasFeels a_isOn m_firstAct m_meanTop m_meanBy a_order m_rowMany m_newSteps g_numbers t v_1474 (by omega) (z_rgw hr_v_1474 (by decide) (by decide))) lk_RX12_301 ⟨rfl, rfl⟩ ⟨Nat.le_of_ble_eq_true rfl, Nat.le_of_ble_eq_true rfl⟩ 12 rfl rfl rfl [2, 1] [0, 3] rfl rfl (by decide) rfl hl.1 rfl (lv_room (Nat.le_of_ble_eq_true rfl)) dX12_lay_92 ⟨Nat.le_of_ble_eq_true rfl, Nat.le_of_ble_eq_true rfl⟩ (fun r_1875 u_1876 H locs hw hP hD hS => ?_)
                have hf_1877 := hw
                refine lv_lstore (lv' := [(5, .long r_1875), (0, .ref h0), (1, .int r), (2, .int t), (3, .int x_18), (4, .int v_1474)]) hx hb dX12_lay_95 hl (by decide) rfl (fun ls hl => ?_)
                refine lv_aload_n hx hb dX12_lay_97 rfl (lv_at hl 1 rfl) ?_
                refine lv_lload hx hb dX12_lay_98 (lv_at hl 0 rfl) ?_
                refine z_callVi (As := [.long r_1875]) (rest := []) (wr := [(a_trayMany, .inl (cA.1 0, 4, .inl g_trayMany)), (a_numbers, .inl (cA.1 1, 240, .inr (.inl g_numbers)))]) ⟨hx, hb, hml, hown, hts⟩ hK hE hT hP hD hS hA (r_isKey l G cA h0 0 0 m_above m_under a_traySort a_trayMany a_numbers a_tape m_taped m_textEnd m_faultKind m_faultAt m_bad m_badAt m_token m_at m_behind m_number m_letters m_word a_c a_words m_markMany a_there a_tried a_best a_found m_thereMany m_foundMany m_orderHow m_orderRing m_orderMany m_hasBest m_bestTop m_bestBy a_weights a_shared m_random m_truePlace m_trueWay m_seconds m_done m_feelings m_tries m_leftOver m_playDoor m_playRing m_isOpen m_isOver m_wasTried m_hasPlayed a_feltNow a_last a_kept m_hasSeconds m_hasTurned m_hasRound a_hasFeels a_isOn m_firstAct m_meanTop m_meanBy a_order m_rowMany m_newSteps g_c r_1875 hZ_g_c) lk_RX12_275 ⟨rfl, rfl⟩ ⟨Nat.le_of_ble_eq_true rfl, Nat.le_of_ble_eq_true rfl⟩ 12 rfl rfl rfl [2, 1] [0, 3] rfl rfl (by decide) rfl hl.1 rfl (lv_room (Nat.le_of_ble_eq_true rfl)) dX12_lay_100 ⟨Nat.le_of_ble_eq_true rfl, Nat.le_of_ble_eq_true rfl⟩ (fun r_1878 u_1879 H locs hw hP hD hS => ?_)
                obtain ⟨he_r_1878, hw⟩ := hw
                rcases hw with ⟨rfl, -⟩ | ⟨rfl, hf_1880, hf_1881⟩
                · skip
                  refine lv_if_eq (tgt := 117) hx hb dX12_lay_103 (by decide) (fun _ => ?_) (fun h9 => absurd (by decide +kernel) h9)
                  refine lv_aload_n hx hb dX12_lay_117 rfl (lv_at hl 1 rfl) ?_
                  refine lv_iconst (v := 5) hx hb dX12_lay_118 (by decide) ?_
                  refine z_callVi (As := [.int 5]) (rest := []) (wr := [(a_trayMany, .inl (cA.1 0, 4, .inl g_trayMany)), (a_numbers, .inl (cA.1 1, 240, .inr (.inl g_numbers))), (a_c, .inl (cA.1 0, 1825, .inl g_c))]) ⟨hx, hb, hml, hown, hts⟩ hK hE hT hP hD hS hA (r_no l G cA h0 0 0 m_above m_under a_traySort a_trayMany a_numbers a_tape m_taped m_textEnd m_faultKind m_faultAt m_bad m_badAt m_token m_at m_behind m_number m_letters m_word a_c a_words m_markMany a_there a_tried a_best a_found m_thereMany m_foundMany m_orderHow m_orderRing m_orderMany m_hasBest m_bestTop m_bestBy a_weights a_shared m_random m_truePlace m_trueWay m_seconds m_done m_feelings m_tries m_leftOver m_playDoor m_playRing m_isOpen m_isOver m_wasTried m_hasPlayed a_feltNow a_last a_kept m_hasSeconds m_hasTurned m_hasRound a_hasFeels a_isOn m_firstAct m_meanTop m_meanBy a_order m_rowMany m_newSteps 5) lk_RX12_97 ⟨rfl, rfl⟩ ⟨Nat.le_of_ble_eq_true rfl, Nat.le_of_ble_eq_true rfl⟩ 12 rfl rfl rfl [2] [0, 1, 3] rfl rfl (by decide) rfl hl.1 rfl (lv_room (Nat.le_of_ble_eq_true rfl)) dX12_lay_119 ⟨Nat.le_of_ble_eq_true rfl, Nat.le_of_ble_eq_true rfl⟩ (fun r_1883 u_1884 H locs hw hP hD hS => ?_)
                  obtain ⟨n_1882, rfl⟩ : ∃ z, z = u_1884 := ⟨_, rfl⟩
                  obtain ⟨he_r_1883, he_n_1882, hw⟩ := hw
                  obtain ⟨rfl, -⟩ := hw
                  have hpost : ((0 : Int32) = 0 ∧ (0 ≤ (0 : Int32).toInt ∧ (0 : Int32).toInt ≤ 0) ∧ (zC g_c) ∧ (zHF g_c g_c) ∧ (zPm g_c g_c)) ∨ ((0 : Int32) = 1 ∧ (0 ≤ n_1882.toInt ∧ n_1882.toInt ≤ 0) ∧ (0 ≤ (0 : Int32).toInt ∧ (0 : Int32).toInt ≤ 0) ∧ (zC g_c) ∧ (zHF g_c g_c) ∧ (zPm g_c g_c)) := (Or.inl ⟨rfl, ⟨(by decide +kernel), hZ_g_c, (zHF_refl g_c), (zPm_refl _)⟩⟩)
                  exact hret _ _ _ _ _ _ (n_1882, 0, g_c) [3, 0, 1, 2] hP hD hS rfl (by decide) dX12_lay_122 (Or.inl rfl) hpost
                · skip
                  refine lv_if_eq (tgt := 117) hx hb dX12_lay_103 (by decide) (fun h9 => absurd h9 (by decide +kernel)) (fun _ => ?_)
                  refine lv_aload_n hx hb dX12_lay_106 rfl (lv_at hl 1 rfl) ?_
                  refine lv_lload hx hb dX12_lay_107 (lv_at hl 0 rfl) ?_
                  refine lv_l2i (v := (r_1875).toInt32) hx hb dX12_lay_109 rfl ?_
                  refine lv_topi (fun x_1885 he_x_1885 => ?_)
                  have hq_x_1885 := z_l2i he_x_1885 (by omega) (by omega)
                  refine z_callVi (As := [.int x_1885]) (rest := []) (wr := [(a_trayMany, .inl (cA.1 0, 4, .inl g_trayMany)), (a_numbers, .inl (cA.1 1, 240, .inr (.inl g_numbers)))]) ⟨hx, hb, hml, hown, hts⟩ hK hE hT hP hD hS hA (r_ringOf l G cA h0 0 0 m_above m_under a_traySort a_trayMany a_numbers a_tape m_taped m_textEnd m_faultKind m_faultAt m_bad m_badAt m_token m_at m_behind m_number m_letters m_word a_c a_words m_markMany a_there a_tried a_best a_found m_thereMany m_foundMany m_orderHow m_orderRing m_orderMany m_hasBest m_bestTop m_bestBy a_weights a_shared m_random m_truePlace m_trueWay m_seconds m_done m_feelings m_tries m_leftOver m_playDoor m_playRing m_isOpen m_isOver m_wasTried m_hasPlayed a_feltNow a_last a_kept m_hasSeconds m_hasTurned m_hasRound a_hasFeels a_isOn m_firstAct m_meanTop m_meanBy a_order m_rowMany m_newSteps g_c x_1885 (by omega) hZ_g_c) lk_RX12_278 ⟨rfl, rfl⟩ ⟨Nat.le_of_ble_eq_true rfl, Nat.le_of_ble_eq_true rfl⟩ 12 rfl rfl rfl [2, 3] [0, 1] rfl rfl (by decide) rfl hl.1 rfl (lv_room (Nat.le_of_ble_eq_true rfl)) dX12_lay_110 ⟨Nat.le_of_ble_eq_true rfl, Nat.le_of_ble_eq_true rfl⟩ (fun r_1886 u_1887 H locs hw hP hD hS => ?_)
                  obtain ⟨he_r_1886, hw⟩ := hw
                  obtain ⟨hr_r_1886, hf_1888⟩ := hw
                  refine lv_iload_n hx hb dX12_lay_113 rfl (lv_at hl 2 rfl) ?_
                  refine lv_icmp_eq (tgt := 123) hx hb dX12_lay_114 (by decide) (fun c_1889 => ?_) (fun c_1889 => ?_)
                  · have b_1890 := z_feqT c_1889
                    refine lv_iconst (v := 0) hx hb dX12_lay_123 (by decide) ?_
                    refine lv_istore (lv' := [(7, .int 0), (5, .long r_1875), (0, .ref h0), (1, .int r), (2, .int t), (3, .int x_18), (4, .int v_1474)]) hx hb dX12_lay_124 hl (by decide) rfl (fun ls hl => ?_)
                    have hlp_2044 : ∀ (n : Nat) (v_2029 : Int32) (H : Heap) (locs : List Loc) (ls : Array Slot), (2147483647 - v_2029.toInt).toNat < n → (0 ≤ v_2029.toInt ∧ v_2029.toInt ≤ 9) → (zLz g_numbers t.toInt r_1875.toInt v_2029.toInt) → va_P G vwCl [(a_trayMany, .inl (cA.1 0, 4, .inl g_trayMany)), (a_numbers, .inl (cA.1 1, 240, .inr (.inl g_numbers))), (h0, .inr (12, [.int 0, .int 0, .long m_above, .long m_under, .ref a_traySort, .ref a_trayMany, .ref a_numbers, .ref a_tape, .int m_taped, .int m_textEnd, .int m_faultKind, .int m_faultAt, .int m_bad, .int m_badAt, .int m_token, .int m_at, .int m_behind, .int m_number, .int m_letters, .long m_word, .ref a_c, .ref a_words, .int m_markMany, .ref a_there, .ref a_tried, .ref a_best, .ref a_found, .int m_thereMany, .int m_foundMany, .int m_orderHow, .int m_orderRing, .int m_orderMany, .int m_hasBest, .long m_bestTop, .long m_bestBy, .ref a_weights, .ref a_shared, .int m_random, .int m_truePlace, .int m_trueWay, .int m_seconds, .int m_done, .int m_feelings, .int m_tries, .int m_leftOver, .int m_playDoor, .int m_playRing, .int m_isOpen, .int m_isOver, .int m_wasTried, .int m_hasPlayed, .ref a_feltNow, .ref a_last, .ref a_kept, .int m_hasSeconds, .int m_hasTurned, .int m_hasRound, .ref a_hasFeels, .ref a_isOn, .int m_firstAct, .long m_meanTop, .long m_meanBy, .ref a_order, .int m_rowMany, .int m_newSteps])), (a_c, .inl (cA.1 0, 1825, .inl g_c))] H → va_D A [(a_trayMany, .inl (cA.1 0, 4, .inl g_trayMany)), (a_numbers, .inl (cA.1 1, 240, .inr (.inl g_numbers))), (h0, .inr (12, [.int 0, .int 0, .long m_above, .long m_under, .ref a_traySort, .ref a_trayMany, .ref a_numbers, .ref a_tape, .int m_taped, .int m_textEnd, .int m_faultKind, .int m_faultAt, .int m_bad, .int m_badAt, .int m_token, .int m_at, .int m_behind, .int m_number, .int m_letters, .long m_word, .ref a_c, .ref a_words, .int m_markMany, .ref a_there, .ref a_tried, .ref a_best, .ref a_found, .int m_thereMany, .int m_foundMany, .int m_orderHow, .int m_orderRing, .int m_orderMany, .int m_hasBest, .long m_bestTop, .long m_bestBy, .ref a_weights, .ref a_shared, .int m_random, .int m_truePlace, .int m_trueWay, .int m_seconds, .int m_done, .int m_feelings, .int m_tries, .int m_leftOver, .int m_playDoor, .int m_playRing, .int m_isOpen, .int m_isOver, .int m_wasTried, .int m_hasPlayed, .ref a_feltNow, .ref a_last, .ref a_kept, .int m_hasSeconds, .int m_hasTurned, .int m_hasRound, .ref a_hasFeels, .ref a_isOn, .int m_firstAct, .long m_meanTop, .long m_meanBy, .ref a_order, .int m_rowMany, .int m_newSteps])), (a_c, .inl (cA.1 0, 1825, .inl g_c))] → va_S A s.heap H locs → lv_has ls 8 [(0, .ref h0), (1, .int r), (2, .int t), (3, .int x_18), (4, .int v_1474), (5, .long r_1875), (7, .int v_2029)] → W p l e ({ frames := 2, cells := 0, slots := 0, locals := 47 }) s m args below meth c H locs 0 0 Q (F0 m 126 ls []) := by
                      intro n
                      induction n with
                      | zero =>
                        intro v_2029 H locs ls hmu_hlp_2044 hr_v_2029 hi_2043 hP hD hS hl
                        exact absurd hmu_hlp_2044 (Nat.not_lt_zero _)
                      | succ n ih_2045 =>
                        intro v_2029 H locs ls hmu_hlp_2044 hr_v_2029 hi_2043 hP hD hS hl
                        refine lv_iload hx hb dX12_lay_126 (lv_at hl 6 rfl) ?_
                        refine lv_iload hx hb dX12_lay_128 (lv_at hl 4 rfl) ?_
                        refine lv_icmp_ge (tgt := 158) hx hb dX12_lay_130 (by decide) (fun c_2046 => ?_) (fun c_2046 => ?_)
                        · have b_2047 := z_fgeT c_2046
                          obtain ⟨x_2048, he_x_2048⟩ : ∃ z : Int32, z = v_1474 + 1 := ⟨_, rfl⟩
                          have hq_x_2048 := z_addq he_x_2048 (rfl : v_1474.toInt = _) hk_1 (by omega) (by omega)
                          refine lv_iinc (v := x_2048) (lv' := [(4, .int x_2048), (0, .ref h0), (1, .int r), (2, .int t), (3, .int x_18), (5, .long r_1875), (7, .int v_2029)]) hx hb dX12_lay_158 hl (k := 4) rfl ((z_ofi (by decide +kernel)).trans he_x_2048.symm) (by decide) rfl (fun ls hl => ?_)
                          refine lv_goto (tgt := 82) hx hb dX12_lay_161 (by decide) ?_
                          exact ih_1671 x_2048 H locs ls (by omega) (by omega) (by rw [hq_x_2048]; exact zLy_step hi_1667 hf_1877 (by omega) (by omega) (by omega) (by omega) hi_2043 (by omega)) (by omega) (by rw [hq_x_2048]; exact zLm_step hi_1669 hf_1877 (by omega) (by omega) (by omega) hf_1888 (by omega) (by omega) (by omega)) hP hD hS (lv_sub hl [1, 2, 3, 4, 0] rfl)
                        · have b_2049 := z_fltF c_2046
                          refine lv_aload_n hx hb dX12_lay_133 rfl (lv_at hl 0 rfl) ?_
                          refine lv_iload_n hx hb dX12_lay_134 rfl (lv_at hl 2 rfl) ?_
                          refine lv_iload hx hb dX12_lay_135 (lv_at hl 6 rfl) ?_
                          refine z_callVl (As := [.int t, .int v_2029]) (rest := []) (wr := [(a_trayMany, .inl (cA.1 0, 4, .inl g_trayMany)), (a_c, .inl (cA.1 0, 1825, .inl g_c))]) ⟨hx, hb, hml, hown, hts⟩ hK hE hT hP hD hS hA (r_numberOf l G cA h0 0 0 m_above m_under a_traySort a_trayMany a_numbers a_tape m_taped m_textEnd m_faultKind m_faultAt m_bad m_badAt m_token m_at m_behind m_number m_letters m_word a_c a_words m_markMany a_there a_tried a_best a_found m_thereMany m_foundMany m_orderHow m_orderRing m_orderMany m_hasBest m_bestTop m_bestBy a_weights a_shared m_random m_truePlace m_trueWay m_seconds m_done m_feelings m_tries m_leftOver m_playDoor m_playRing m_isOpen m_isOver m_wasTried m_hasPlayed a_feltNow a_last a_kept m_hasSeconds m_hasTurned m_hasRound a_hasFeels a_isOn m_firstAct m_meanTop m_meanBy a_order m_rowMany m_newSteps g_numbers t v_2029 (by omega) (z_rgw hr_v_2029 (by decide) (by decide))) lk_RX12_301 ⟨rfl, rfl⟩ ⟨Nat.le_of_ble_eq_true rfl, Nat.le_of_ble_eq_true rfl⟩ 12 rfl rfl rfl [2, 1] [0, 3] rfl rfl (by decide) rfl hl.1 rfl (lv_room (Nat.le_of_ble_eq_true rfl)) dX12_lay_137 ⟨Nat.le_of_ble_eq_true rfl, Nat.le_of_ble_eq_true rfl⟩ (fun r_2050 u_2051 H locs hw hP hD hS => ?_)
                          have hf_2052 := hw
                          refine lv_lload hx hb dX12_lay_140 (lv_at hl 5 rfl) ?_
                          refine W.lcmp hx hb dX12_lay_142 ?_
                          refine lv_if_ne (tgt := 152) hx hb dX12_lay_143 (by decide) (fun c_2053 => ?_) (fun c_2053 => ?_)
                          · have b_2054 := z_fneTl c_2053
                            obtain ⟨x_2055, he_x_2055⟩ : ∃ z : Int32, z = v_2029 + 1 := ⟨_, rfl⟩
                            have hq_x_2055 := z_addq he_x_2055 (rfl : v_2029.toInt = _) hk_1 (by omega) (by omega)
                            refine lv_iinc (v := x_2055) (lv' := [(7, .int x_2055), (0, .ref h0), (1, .int r), (2, .int t), (3, .int x_18), (4, .int v_1474), (5, .long r_1875)]) hx hb dX12_lay_152 hl (k := 6) rfl ((z_ofi (by decide +kernel)).trans he_x_2055.symm) (by decide) rfl (fun ls hl => ?_)
                            refine lv_goto (tgt := 126) hx hb dX12_lay_155 (by decide) ?_
                            have hP := hP.sub (ws' := [(a_trayMany, .inl (cA.1 0, 4, .inl g_trayMany)), (a_numbers, .inl (cA.1 1, 240, .inr (.inl g_numbers))), (h0, .inr (12, [.int 0, .int 0, .long m_above, .long m_under, .ref a_traySort, .ref a_trayMany, .ref a_numbers, .ref a_tape, .int m_taped, .int m_textEnd, .int m_faultKind, .int m_faultAt, .int m_bad, .int m_badAt, .int m_token, .int m_at, .int m_behind, .int m_number, .int m_letters, .long m_word, .ref a_c, .ref a_words, .int m_markMany, .ref a_there, .ref a_tried, .ref a_best, .ref a_found, .int m_thereMany, .int m_foundMany, .int m_orderHow, .int m_orderRing, .int m_orderMany, .int m_hasBest, .long m_bestTop, .long m_bestBy, .ref a_weights, .ref a_shared, .int m_random, .int m_truePlace, .int m_trueWay, .int m_seconds, .int m_done, .int m_feelings, .int m_tries, .int m_leftOver, .int m_playDoor, .int m_playRing, .int m_isOpen, .int m_isOver, .int m_wasTried, .int m_hasPlayed, .ref a_feltNow, .ref a_last, .ref a_kept, .int m_hasSeconds, .int m_hasTurned, .int m_hasRound, .ref a_hasFeels, .ref a_isOn, .int m_firstAct, .long m_meanTop, .long m_meanBy, .ref a_order, .int m_rowMany, .int m_newSteps])), (a_c, .inl (cA.1 0, 1825, .inl g_c))]) [0, 3, 2, 1] rfl
                            have hD := hD.sub (ws' := [(a_trayMany, .inl (cA.1 0, 4, .inl g_trayMany)), (a_numbers, .inl (cA.1 1, 240, .inr (.inl g_numbers))), (h0, .inr (12, [.int 0, .int 0, .long m_above, .long m_under, .ref a_traySort, .ref a_trayMany, .ref a_numbers, .ref a_tape, .int m_taped, .int m_textEnd, .int m_faultKind, .int m_faultAt, .int m_bad, .int m_badAt, .int m_token, .int m_at, .int m_behind, .int m_number, .int m_letters, .long m_word, .ref a_c, .ref a_words, .int m_markMany, .ref a_there, .ref a_tried, .ref a_best, .ref a_found, .int m_thereMany, .int m_foundMany, .int m_orderHow, .int m_orderRing, .int m_orderMany, .int m_hasBest, .long m_bestTop, .long m_bestBy, .ref a_weights, .ref a_shared, .int m_random, .int m_truePlace, .int m_trueWay, .int m_seconds, .int m_done, .int m_feelings, .int m_tries, .int m_leftOver, .int m_playDoor, .int m_playRing, .int m_isOpen, .int m_isOver, .int m_wasTried, .int m_hasPlayed, .ref a_feltNow, .ref a_last, .ref a_kept, .int m_hasSeconds, .int m_hasTurned, .int m_hasRound, .ref a_hasFeels, .ref a_isOn, .int m_firstAct, .long m_meanTop, .long m_meanBy, .ref a_order, .int m_rowMany, .int m_newSteps])), (a_c, .inl (cA.1 0, 1825, .inl g_c))]) [0, 3, 2, 1] (by decide) rfl
                            exact ih_2045 x_2055 H locs ls (by omega) (by omega) (by rw [hq_x_2055]; exact zLz_step hi_2043 hf_2052 (by omega) (by omega) (by omega) (by omega)) hP hD hS (lv_sub hl [1, 2, 3, 4, 5, 6, 0] rfl)
                          · have b_2056 := z_feqFl c_2053
                            refine lv_aload_n hx hb dX12_lay_146 rfl (lv_at hl 0 rfl) ?_
                            refine lv_iconst (v := 5) hx hb dX12_lay_147 (by decide) ?_
                            refine z_callVi (As := [.int 5]) (rest := []) (wr := [(a_trayMany, .inl (cA.1 0, 4, .inl g_trayMany)), (a_c, .inl (cA.1 0, 1825, .inl g_c)), (a_numbers, .inl (cA.1 1, 240, .inr (.inl g_numbers)))]) ⟨hx, hb, hml, hown, hts⟩ hK hE hT hP hD hS hA (r_no l G cA h0 0 0 m_above m_under a_traySort a_trayMany a_numbers a_tape m_taped m_textEnd m_faultKind m_faultAt m_bad m_badAt m_token m_at m_behind m_number m_letters m_word a_c a_words m_markMany a_there a_tried a_best a_found m_thereMany m_foundMany m_orderHow m_orderRing m_orderMany m_hasBest m_bestTop m_bestBy a_weights a_shared m_random m_truePlace m_trueWay m_seconds m_done m_feelings m_tries m_leftOver m_playDoor m_playRing m_isOpen m_isOver m_wasTried m_hasPlayed a_feltNow a_last a_kept m_hasSeconds m_hasTurned m_hasRound a_hasFeels a_isOn m_firstAct m_meanTop m_meanBy a_order m_rowMany m_newSteps 5) lk_RX12_97 ⟨rfl, rfl⟩ ⟨Nat.le_of_ble_eq_true rfl, Nat.le_of_ble_eq_true rfl⟩ 12 rfl rfl rfl [2] [0, 1, 3] rfl rfl (by decide) rfl hl.1 rfl (lv_room (Nat.le_of_ble_eq_true rfl)) dX12_lay_148 ⟨Nat.le_of_ble_eq_true rfl, Nat.le_of_ble_eq_true rfl⟩ (fun r_2058 u_2059 H locs hw hP hD hS => ?_)
                            obtain ⟨n_2057, rfl⟩ : ∃ z, z = u_2059 := ⟨_, rfl⟩
                            obtain ⟨he_r_2058, he_n_2057, hw⟩ := hw
                            obtain ⟨rfl, -⟩ := hw
                            have hpost : ((0 : Int32) = 0 ∧ (0 ≤ (0 : Int32).toInt ∧ (0 : Int32).toInt ≤ 0) ∧ (zC g_c) ∧ (zHF g_c g_c) ∧ (zPm g_c g_c)) ∨ ((0 : Int32) = 1 ∧ (0 ≤ n_2057.toInt ∧ n_2057.toInt ≤ 0) ∧ (0 ≤ (0 : Int32).toInt ∧ (0 : Int32).toInt ≤ 0) ∧ (zC g_c) ∧ (zHF g_c g_c) ∧ (zPm g_c g_c)) := (Or.inl ⟨rfl, ⟨(by decide +kernel), hZ_g_c, (zHF_refl g_c), (zPm_refl _)⟩⟩)
                            exact hret _ _ _ _ _ _ (n_2057, 0, g_c) [3, 0, 2, 1] hP hD hS rfl (by decide) dX12_lay_151 (Or.inl rfl) hpost
                    exact hlp_2044 _ 0 _ _ _ (Nat.lt_succ_self _) (by decide +kernel) zLz_0 hP hD hS (lv_sub hl [2, 3, 4, 5, 6, 1, 0] rfl)
                  · have b_2060 := z_fneF c_1889
                    refine lv_aload_n hx hb dX12_lay_117 rfl (lv_at hl 1 rfl) ?_
                    refine lv_iconst (v := 5) hx hb dX12_lay_118 (by decide) ?_
                    refine z_callVi (As := [.int 5]) (rest := []) (wr := [(a_trayMany, .inl (cA.1 0, 4, .inl g_trayMany)), (a_numbers, .inl (cA.1 1, 240, .inr (.inl g_numbers))), (a_c, .inl (cA.1 0, 1825, .inl g_c))]) ⟨hx, hb, hml, hown, hts⟩ hK hE hT hP hD hS hA (r_no l G cA h0 0 0 m_above m_under a_traySort a_trayMany a_numbers a_tape m_taped m_textEnd m_faultKind m_faultAt m_bad m_badAt m_token m_at m_behind m_number m_letters m_word a_c a_words m_markMany a_there a_tried a_best a_found m_thereMany m_foundMany m_orderHow m_orderRing m_orderMany m_hasBest m_bestTop m_bestBy a_weights a_shared m_random m_truePlace m_trueWay m_seconds m_done m_feelings m_tries m_leftOver m_playDoor m_playRing m_isOpen m_isOver m_wasTried m_hasPlayed a_feltNow a_last a_kept m_hasSeconds m_hasTurned m_hasRound a_hasFeels a_isOn m_firstAct m_meanTop m_meanBy a_order m_rowMany m_newSteps 5) lk_RX12_97 ⟨rfl, rfl⟩ ⟨Nat.le_of_ble_eq_true rfl, Nat.le_of_ble_eq_true rfl⟩ 12 rfl rfl rfl [2] [0, 1, 3] rfl rfl (by decide) rfl hl.1 rfl (lv_room (Nat.le_of_ble_eq_true rfl)) dX12_lay_119 ⟨Nat.le_of_ble_eq_true rfl, Nat.le_of_ble_eq_true rfl⟩ (fun r_2062 u_2063 H locs hw hP hD hS => ?_)
                    obtain ⟨n_2061, rfl⟩ : ∃ z, z = u_2063 := ⟨_, rfl⟩
                    obtain ⟨he_r_2062, he_n_2061, hw⟩ := hw
                    obtain ⟨rfl, -⟩ := hw
                    have hpost : ((0 : Int32) = 0 ∧ (0 ≤ (0 : Int32).toInt ∧ (0 : Int32).toInt ≤ 0) ∧ (zC g_c) ∧ (zHF g_c g_c) ∧ (zPm g_c g_c)) ∨ ((0 : Int32) = 1 ∧ (0 ≤ n_2061.toInt ∧ n_2061.toInt ≤ 0) ∧ (0 ≤ (0 : Int32).toInt ∧ (0 : Int32).toInt ≤ 0) ∧ (zC g_c) ∧ (zHF g_c g_c) ∧ (zPm g_c g_c)) := (Or.inl ⟨rfl, ⟨(by decide +kernel), hZ_g_c, (zHF_refl g_c), (zPm_refl _)⟩⟩)
                    exact hret _ _ _ _ _ _ (n_2061, 0, g_c) [3, 0, 1, 2] hP hD hS rfl (by decide) dX12_lay_122 (Or.inl rfl) hpost
          exact hlp_1670 _ 0 _ _ _ (Nat.lt_succ_self _) (by decide +kernel) zLy_0 (by omega) zLm_0 hP hD hS (lv_sub hl [2, 3, 4, 1, 0] rfl)
        · have b_2064 := z_fltF c_20
          refine lv_aload_n hx hb dX12_lay_73 rfl (lv_at hl 1 rfl) ?_
          refine lv_iconst (v := 4) hx hb dX12_lay_74 (by decide) ?_
          refine z_callVi (As := [.int 4]) (rest := []) (wr := [(a_trayMany, .inl (cA.1 0, 4, .inl g_trayMany)), (a_numbers, .inl (cA.1 1, 240, .inr (.inl g_numbers))), (a_c, .inl (cA.1 0, 1825, .inl g_c))]) ⟨hx, hb, hml, hown, hts⟩ hK hE hT hP hD hS hA (r_no l G cA h0 0 0 m_above m_under a_traySort a_trayMany a_numbers a_tape m_taped m_textEnd m_faultKind m_faultAt m_bad m_badAt m_token m_at m_behind m_number m_letters m_word a_c a_words m_markMany a_there a_tried a_best a_found m_thereMany m_foundMany m_orderHow m_orderRing m_orderMany m_hasBest m_bestTop m_bestBy a_weights a_shared m_random m_truePlace m_trueWay m_seconds m_done m_feelings m_tries m_leftOver m_playDoor m_playRing m_isOpen m_isOver m_wasTried m_hasPlayed a_feltNow a_last a_kept m_hasSeconds m_hasTurned m_hasRound a_hasFeels a_isOn m_firstAct m_meanTop m_meanBy a_order m_rowMany m_newSteps 4) lk_RX12_97 ⟨rfl, rfl⟩ ⟨Nat.le_of_ble_eq_true rfl, Nat.le_of_ble_eq_true rfl⟩ 12 rfl rfl rfl [2] [0, 1, 3] rfl rfl (by decide) rfl hl.1 rfl (lv_room (Nat.le_of_ble_eq_true rfl)) dX12_lay_75 ⟨Nat.le_of_ble_eq_true rfl, Nat.le_of_ble_eq_true rfl⟩ (fun r_2066 u_2067 H locs hw hP hD hS => ?_)
          obtain ⟨n_2065, rfl⟩ : ∃ z, z = u_2067 := ⟨_, rfl⟩
          obtain ⟨he_r_2066, he_n_2065, hw⟩ := hw
          obtain ⟨rfl, -⟩ := hw
          have hpost : ((0 : Int32) = 0 ∧ (0 ≤ (0 : Int32).toInt ∧ (0 : Int32).toInt ≤ 0) ∧ (zC g_c) ∧ (zHF g_c g_c) ∧ (zPm g_c g_c)) ∨ ((0 : Int32) = 1 ∧ (0 ≤ n_2065.toInt ∧ n_2065.toInt ≤ 0) ∧ (0 ≤ (0 : Int32).toInt ∧ (0 : Int32).toInt ≤ 0) ∧ (zC g_c) ∧ (zHF g_c g_c) ∧ (zPm g_c g_c)) := (Or.inl ⟨rfl, ⟨(by decide +kernel), hZ_g_c, (zHF_refl g_c), (zPm_refl _)⟩⟩)
          exact hret _ _ _ _ _ _ (n_2065, 0, g_c) [3, 0, 1, 2] hP hD hS rfl (by decide) dX12_lay_78 (Or.inl rfl) hpost
      · have b_2068 := z_fltF c_15
        refine lv_aload_n hx hb dX12_lay_47 rfl (lv_at hl 0 rfl) ?_
        refine lv_iconst (v := 3) hx hb dX12_lay_48 (by decide) ?_
        refine z_callVi (As := [.int 3]) (rest := []) (wr := [(a_trayMany, .inl (cA.1 0, 4, .inl g_trayMany)), (a_numbers, .inl (cA.1 1, 240, .inr (.inl g_numbers))), (a_c, .inl (cA.1 0, 1825, .inl g_c))]) ⟨hx, hb, hml, hown, hts⟩ hK hE hT hP hD hS hA (r_no l G cA h0 0 0 m_above m_under a_traySort a_trayMany a_numbers a_tape m_taped m_textEnd m_faultKind m_faultAt m_bad m_badAt m_token m_at m_behind m_number m_letters m_word a_c a_words m_markMany a_there a_tried a_best a_found m_thereMany m_foundMany m_orderHow m_orderRing m_orderMany m_hasBest m_bestTop m_bestBy a_weights a_shared m_random m_truePlace m_trueWay m_seconds m_done m_feelings m_tries m_leftOver m_playDoor m_playRing m_isOpen m_isOver m_wasTried m_hasPlayed a_feltNow a_last a_kept m_hasSeconds m_hasTurned m_hasRound a_hasFeels a_isOn m_firstAct m_meanTop m_meanBy a_order m_rowMany m_newSteps 3) lk_RX12_97 ⟨rfl, rfl⟩ ⟨Nat.le_of_ble_eq_true rfl, Nat.le_of_ble_eq_true rfl⟩ 12 rfl rfl rfl [2] [0, 1, 3] rfl rfl (by decide) rfl hl.1 rfl (lv_room (Nat.le_of_ble_eq_true rfl)) dX12_lay_49 ⟨Nat.le_of_ble_eq_true rfl, Nat.le_of_ble_eq_true rfl⟩ (fun r_2070 u_2071 H locs hw hP hD hS => ?_)
        obtain ⟨n_2069, rfl⟩ : ∃ z, z = u_2071 := ⟨_, rfl⟩
        obtain ⟨he_r_2070, he_n_2069, hw⟩ := hw
        obtain ⟨rfl, -⟩ := hw
        have hpost : ((0 : Int32) = 0 ∧ (0 ≤ (0 : Int32).toInt ∧ (0 : Int32).toInt ≤ 0) ∧ (zC g_c) ∧ (zHF g_c g_c) ∧ (zPm g_c g_c)) ∨ ((0 : Int32) = 1 ∧ (0 ≤ n_2069.toInt ∧ n_2069.toInt ≤ 0) ∧ (0 ≤ (0 : Int32).toInt ∧ (0 : Int32).toInt ≤ 0) ∧ (zC g_c) ∧ (zHF g_c g_c) ∧ (zPm g_c g_c)) := (Or.inl ⟨rfl, ⟨(by decide +kernel), hZ_g_c, (zHF_refl g_c), (zPm_refl _)⟩⟩)
        exact hret _ _ _ _ _ _ (n_2069, 0, g_c) [3, 0, 1, 2] hP hD hS rfl (by decide) dX12_lay_52 (Or.inl rfl) hpost
set_option maxHeartbeats 4000000 in
set_option maxRecDepth 100000 in
theorem r_newly (l : Launch) (G : va_G) (cA : zCA) (h0 : Nat) (m_status : Int32) (m_thrown : Int32) (m_above : Int64) (m_under : Int64) (a_traySort : Nat) (a_trayMany : Nat) (a_numbers : Nat) (a_tape : Nat) (m_taped : Int32) (m_textEnd : Int32) (m_faultKind : Int32) (m_faultAt : Int32) (m_bad : Int32) (m_badAt : Int32) (m_token : Int32) (m_at : Int32) (m_behind : Int32) (m_number : Int32) (m_letters : Int32) (m_word : Int64) (a_c : Nat) (a_words : Nat) (m_markMany : Int32) (a_there : Nat) (a_tried : Nat) (a_best : Nat) (a_found : Nat) (m_thereMany : Int32) (m_foundMany : Int32) (m_orderHow : Int32) (m_orderRing : Int32) (m_orderMany : Int32) (m_hasBest : Int32) (m_bestTop : Int64) (m_bestBy : Int64) (a_weights : Nat) (a_shared : Nat) (m_random : Int32) (m_truePlace : Int32) (m_trueWay : Int32) (m_seconds : Int32) (m_done : Int32) (m_feelings : Int32) (m_tries : Int32) (m_leftOver : Int32) (m_playDoor : Int32) (m_playRing : Int32) (m_isOpen : Int32) (m_isOver : Int32) (m_wasTried : Int32) (m_hasPlayed : Int32) (a_feltNow : Nat) (a_last : Nat) (a_kept : Nat) (m_hasSeconds : Int32) (m_hasTurned : Int32) (m_hasRound : Int32) (a_hasFeels : Nat) (a_isOn : Nat) (m_firstAct : Int32) (m_meanTop : Int64) (m_meanBy : Int64) (a_order : Nat) (m_rowMany : Int32) (m_newSteps : Int32) (g_c : Nat → Int32) (g_there : Nat → Int32) (k : Int32) (r : Int32) (d : Int32) (hr_m_thereMany : 0 ≤ m_thereMany.toInt ∧ m_thereMany.toInt ≤ 10) (hr_m_hasBest : 0 ≤ m_hasBest.toInt ∧ m_hasBest.toInt ≤ 1) (hz_m_hasBest : m_hasBest = 0 ∨ m_hasBest = 1) (hC_g_c : zC g_c) (hC_g_there : zRg 10 0 9 g_there) : zCi l yX12_newly cX12_newly 9 (some .int) ({ frames := 3, cells := 0, slots := 0, locals := 69 }) G cA [.ref h0, .int k, .int r, .int d] [(h0, .inr (12, [.int m_status, .int m_thrown, .long m_above, .long m_under, .ref a_traySort, .ref a_trayMany, .ref a_numbers, .ref a_tape, .int m_taped, .int m_textEnd, .int m_faultKind, .int m_faultAt, .int m_bad, .int m_badAt, .int m_token, .int m_at, .int m_behind, .int m_number, .int m_letters, .long m_word, .ref a_c, .ref a_words, .int m_markMany, .ref a_there, .ref a_tried, .ref a_best, .ref a_found, .int m_thereMany, .int m_foundMany, .int m_orderHow, .int m_orderRing, .int m_orderMany, .int m_hasBest, .long m_bestTop, .long m_bestBy, .ref a_weights, .ref a_shared, .int m_random, .int m_truePlace, .int m_trueWay, .int m_seconds, .int m_done, .int m_feelings, .int m_tries, .int m_leftOver, .int m_playDoor, .int m_playRing, .int m_isOpen, .int m_isOver, .int m_wasTried, .int m_hasPlayed, .ref a_feltNow, .ref a_last, .ref a_kept, .int m_hasSeconds, .int m_hasTurned, .int m_hasRound, .ref a_hasFeels, .ref a_isOn, .int m_firstAct, .long m_meanTop, .long m_meanBy, .ref a_order, .int m_rowMany, .int m_newSteps])), (a_c, .inl (cA.1 0, 1825, .inl g_c)), (a_there, .inl (cA.1 0, 10, .inl g_there))] (S := Int32 × Int32 × Int32 × (Nat → Int32) × Int64 × Int64 × Int32 × Int64 × Int64 × (Nat → Int32)) (fun (r : Int32) (u : Int32 × Int32 × Int32 × (Nat → Int32) × Int64 × Int64 × Int32 × Int64 × Int64 × (Nat → Int32)) => ((-1) ≤ r.toInt ∧ r.toInt ≤ 9) ∧ (0 ≤ u.2.1.toInt ∧ u.2.1.toInt ≤ 0) ∧ (0 ≤ u.2.2.1.toInt ∧ u.2.2.1.toInt ≤ 10) ∧ (zRg 10 0 9 u.2.2.2.1) ∧ (u.2.2.2.2.2.2.1 = 0 ∨ u.2.2.2.2.2.2.1 = 1) ∧ (0 ≤ u.2.2.2.2.2.2.1.toInt ∧ u.2.2.2.2.2.2.1.toInt ≤ 1) ∧ (zC u.2.2.2.2.2.2.2.2.2) ∧ (zHF g_c u.2.2.2.2.2.2.2.2.2) ∧ (zPm g_c u.2.2.2.2.2.2.2.2.2)) (fun (u : Int32 × Int32 × Int32 × (Nat → Int32) × Int64 × Int64 × Int32 × Int64 × Int64 × (Nat → Int32)) => [(h0, .inr (12, [.int u.1, .int u.2.1, .long u.2.2.2.2.1, .long u.2.2.2.2.2.1, .ref a_traySort, .ref a_trayMany, .ref a_numbers, .ref a_tape, .int m_taped, .int m_textEnd, .int m_faultKind, .int m_faultAt, .int m_bad, .int m_badAt, .int m_token, .int m_at, .int m_behind, .int m_number, .int m_letters, .long m_word, .ref a_c, .ref a_words, .int m_markMany, .ref a_there, .ref a_tried, .ref a_best, .ref a_found, .int u.2.2.1, .int m_foundMany, .int m_orderHow, .int m_orderRing, .int m_orderMany, .int u.2.2.2.2.2.2.1, .long u.2.2.2.2.2.2.2.1, .long u.2.2.2.2.2.2.2.2.1, .ref a_weights, .ref a_shared, .int m_random, .int m_truePlace, .int m_trueWay, .int m_seconds, .int m_done, .int m_feelings, .int m_tries, .int m_leftOver, .int m_playDoor, .int m_playRing, .int m_isOpen, .int m_isOver, .int m_wasTried, .int m_hasPlayed, .ref a_feltNow, .ref a_last, .ref a_kept, .int m_hasSeconds, .int m_hasTurned, .int m_hasRound, .ref a_hasFeels, .ref a_isOn, .int m_firstAct, .long m_meanTop, .long m_meanBy, .ref a_order, .int m_rowMany, .int m_newSteps])), (a_c, .inl (cA.1 0, 1825, .inl u.2.2.2.2.2.2.2.2.2)), (a_there, .inl (cA.1 0, 10, .inl u.2.2.2.1))]) 0 0 := by
  have hk_0 : (0 : Int32).toInt = 0 := by decide +kernel
  have hk_1 : (1 : Int32).toInt = 1 := by decide +kernel
  have hk_2 : (2 : Int32).toInt = 2 := by decide +kernel
  have hk_8 : (8 : Int32).toInt = 8 := by decide +kernel
  have hk_9 : (9 : Int32).toInt = 9 := by decide +kernel
  have hk_16 : (16 : Int32).toInt = 16 := by decide +kernel
  have hk_95 : (95 : Int32).toInt = 95 := by decide +kernel
  have hk_150 : (150 : Int32).toInt = 150 := by decide +kernel
  have hkl_0 : (0 : Int64).toInt = 0 := by decide +kernel
  have hkl_16 : (16 : Int64).toInt = 16 := by decide +kernel
  refine z_start2i (own := RX12) (by decide) (Nat.le_of_ble_eq_true rfl) rfl ?_
  intro p e s m args below meth c A ls Q hx hb hml hts hown hK hE hT hP hD hS hA hl hret
  have hl : lv_has ls 9 [(0, .ref h0), (1, .int k), (2, .int r), (3, .int d)] := hl
  refine lv_aload_n hx hb dX12_newly_0 rfl (lv_at hl 0 rfl) ?_
  refine lv_iconst (v := 0) hx hb dX12_newly_1 (by decide) ?_
  refine va_put (D := G) (ci := 12) (v := .int 0) (ty := .int) (C := RX12) (T := TX12) (N := 65) hx hb hts inT12 tyX12 tyX12_ok nmX12 hown hK hP hD hS 0 rfl rfl 1 (by decide) (hts _ tw_1886) (fun _ h9 => h9) rfl (tyX12_ok 1 (by decide)) rfl rfl (Nat.le_of_ble_eq_true rfl) dX12_newly_2 (fun H locs hP hD hS => ?_)
  refine lv_aload_n hx hb dX12_newly_5 rfl (lv_at hl 0 rfl) ?_
  refine lv_iconst (v := 0) hx hb dX12_newly_6 (by decide) ?_
  refine va_put (D := G) (ci := 12) (v := .int 0) (ty := .int) (C := RX12) (T := TX12) (N := 65) hx hb hts inT12 tyX12 tyX12_ok nmX12 hown hK hP hD hS 0 rfl rfl 0 (by decide) (hts _ tw_1885) (fun _ h9 => h9) rfl (tyX12_ok 0 (by decide)) rfl rfl (Nat.le_of_ble_eq_true rfl) dX12_newly_7 (fun H locs hP hD hS => ?_)
  refine lv_aload_n hx hb dX12_newly_10 rfl (lv_at hl 0 rfl) ?_
  refine lv_iload_n hx hb dX12_newly_11 rfl (lv_at hl 1 rfl) ?_
  refine lv_i2l (v := (k).toInt64) hx hb dX12_newly_12 rfl ?_
  refine lv_topl (fun x_1 he_x_1 => ?_)
  have hq_x_1 := z_i2l he_x_1
  have hL_k := z_full k
  refine z_callVi (As := [.long x_1]) (rest := []) (wr := [(a_there, .inl (cA.1 0, 10, .inl g_there))]) ⟨hx, hb, hml, hown, hts⟩ hK hE hT hP hD hS hA (r_isKey l G cA h0 0 0 m_above m_under a_traySort a_trayMany a_numbers a_tape m_taped m_textEnd m_faultKind m_faultAt m_bad m_badAt m_token m_at m_behind m_number m_letters m_word a_c a_words m_markMany a_there a_tried a_best a_found m_thereMany m_foundMany m_orderHow m_orderRing m_orderMany m_hasBest m_bestTop m_bestBy a_weights a_shared m_random m_truePlace m_trueWay m_seconds m_done m_feelings m_tries m_leftOver m_playDoor m_playRing m_isOpen m_isOver m_wasTried m_hasPlayed a_feltNow a_last a_kept m_hasSeconds m_hasTurned m_hasRound a_hasFeels a_isOn m_firstAct m_meanTop m_meanBy a_order m_rowMany m_newSteps g_c x_1 hC_g_c) lk_RX12_275 ⟨rfl, rfl⟩ ⟨Nat.le_of_ble_eq_true rfl, Nat.le_of_ble_eq_true rfl⟩ 12 rfl rfl rfl [0, 1] [2] rfl rfl (by decide) rfl hl.1 rfl (lv_room (Nat.le_of_ble_eq_true rfl)) dX12_newly_13 ⟨Nat.le_of_ble_eq_true rfl, Nat.le_of_ble_eq_true rfl⟩ (fun r_2 u_3 H locs hw hP hD hS => ?_)
  obtain ⟨he_r_2, hw⟩ := hw
  rcases hw with ⟨rfl, -⟩ | ⟨rfl, hf_4, hf_5⟩
  · skip
    refine lv_if_eq (tgt := 35) hx hb dX12_newly_16 (by decide) (fun _ => ?_) (fun h9 => absurd (by decide +kernel) h9)
    refine lv_aload_n hx hb dX12_newly_35 rfl (lv_at hl 0 rfl) ?_
    refine lv_iconst (v := 2) hx hb dX12_newly_36 (by decide) ?_
    refine z_callVi (As := [.int 2]) (rest := []) (wr := [(a_there, .inl (cA.1 0, 10, .inl g_there)), (a_c, .inl (cA.1 0, 1825, .inl g_c))]) ⟨hx, hb, hml, hown, hts⟩ hK hE hT hP hD hS hA (r_refuse l G cA h0 0 0 m_above m_under a_traySort a_trayMany a_numbers a_tape m_taped m_textEnd m_faultKind m_faultAt m_bad m_badAt m_token m_at m_behind m_number m_letters m_word a_c a_words m_markMany a_there a_tried a_best a_found m_thereMany m_foundMany m_orderHow m_orderRing m_orderMany m_hasBest m_bestTop m_bestBy a_weights a_shared m_random m_truePlace m_trueWay m_seconds m_done m_feelings m_tries m_leftOver m_playDoor m_playRing m_isOpen m_isOver m_wasTried m_hasPlayed a_feltNow a_last a_kept m_hasSeconds m_hasTurned m_hasRound a_hasFeels a_isOn m_firstAct m_meanTop m_meanBy a_order m_rowMany m_newSteps 2) lk_RX12_269 ⟨rfl, rfl⟩ ⟨Nat.le_of_ble_eq_true rfl, Nat.le_of_ble_eq_true rfl⟩ 12 rfl rfl rfl [1] [0, 2] rfl rfl (by decide) rfl hl.1 rfl (lv_room (Nat.le_of_ble_eq_true rfl)) dX12_newly_37 ⟨Nat.le_of_ble_eq_true rfl, Nat.le_of_ble_eq_true rfl⟩ (fun r_7 u_8 H locs hw hP hD hS => ?_)
    obtain ⟨n_6, rfl⟩ : ∃ z, z = u_8 := ⟨_, rfl⟩
    obtain ⟨he_r_7, he_n_6, hw⟩ := hw
    have hr_r_7 := hw
    have hpost : ((-1) ≤ r_7.toInt ∧ r_7.toInt ≤ 9) ∧ (0 ≤ (0 : Int32).toInt ∧ (0 : Int32).toInt ≤ 0) ∧ (0 ≤ m_thereMany.toInt ∧ m_thereMany.toInt ≤ 10) ∧ (zRg 10 0 9 g_there) ∧ (m_hasBest = 0 ∨ m_hasBest = 1) ∧ (0 ≤ m_hasBest.toInt ∧ m_hasBest.toInt ≤ 1) ∧ (zC g_c) ∧ (zHF g_c g_c) ∧ (zPm g_c g_c) := ⟨(z_rgw hr_r_7 (by decide) (by decide)), (by decide +kernel), hr_m_thereMany, hC_g_there, hz_m_hasBest, hr_m_hasBest, hC_g_c, (zHF_refl g_c), (zPm_refl _)⟩
    exact hret _ _ _ _ _ _ (n_6, 0, m_thereMany, g_there, m_above, m_under, m_hasBest, m_bestTop, m_bestBy, g_c) [2, 1, 0] hP hD hS rfl (by decide) dX12_newly_40 hpost
  · skip
    refine lv_if_eq (tgt := 35) hx hb dX12_newly_16 (by decide) (fun h9 => absurd h9 (by decide +kernel)) (fun _ => ?_)
    refine lv_aload_n hx hb dX12_newly_19 rfl (lv_at hl 0 rfl) ?_
    refine lv_iload_n hx hb dX12_newly_20 rfl (lv_at hl 2 rfl) ?_
    refine z_callVi (As := [.int r]) (rest := []) (wr := [(a_there, .inl (cA.1 0, 10, .inl g_there))]) ⟨hx, hb, hml, hown, hts⟩ hK hE hT hP hD hS hA (r_isRing l G cA h0 0 0 m_above m_under a_traySort a_trayMany a_numbers a_tape m_taped m_textEnd m_faultKind m_faultAt m_bad m_badAt m_token m_at m_behind m_number m_letters m_word a_c a_words m_markMany a_there a_tried a_best a_found m_thereMany m_foundMany m_orderHow m_orderRing m_orderMany m_hasBest m_bestTop m_bestBy a_weights a_shared m_random m_truePlace m_trueWay m_seconds m_done m_feelings m_tries m_leftOver m_playDoor m_playRing m_isOpen m_isOver m_wasTried m_hasPlayed a_feltNow a_last a_kept m_hasSeconds m_hasTurned m_hasRound a_hasFeels a_isOn m_firstAct m_meanTop m_meanBy a_order m_rowMany m_newSteps g_c r hC_g_c) lk_RX12_289 ⟨rfl, rfl⟩ ⟨Nat.le_of_ble_eq_true rfl, Nat.le_of_ble_eq_true rfl⟩ 12 rfl rfl rfl [1, 2] [0] rfl rfl (by decide) rfl hl.1 rfl (lv_room (Nat.le_of_ble_eq_true rfl)) dX12_newly_21 ⟨Nat.le_of_ble_eq_true rfl, Nat.le_of_ble_eq_true rfl⟩ (fun r_9 u_10 H locs hw hP hD hS => ?_)
    obtain ⟨he_r_9, hw⟩ := hw
    rcases hw with ⟨rfl, -⟩ | ⟨rfl, hf_11, hf_12⟩
    · skip
      refine lv_if_eq (tgt := 35) hx hb dX12_newly_24 (by decide) (fun _ => ?_) (fun h9 => absurd (by decide +kernel) h9)
      refine lv_aload_n hx hb dX12_newly_35 rfl (lv_at hl 0 rfl) ?_
      refine lv_iconst (v := 2) hx hb dX12_newly_36 (by decide) ?_
      refine z_callVi (As := [.int 2]) (rest := []) (wr := [(a_there, .inl (cA.1 0, 10, .inl g_there)), (a_c, .inl (cA.1 0, 1825, .inl g_c))]) ⟨hx, hb, hml, hown, hts⟩ hK hE hT hP hD hS hA (r_refuse l G cA h0 0 0 m_above m_under a_traySort a_trayMany a_numbers a_tape m_taped m_textEnd m_faultKind m_faultAt m_bad m_badAt m_token m_at m_behind m_number m_letters m_word a_c a_words m_markMany a_there a_tried a_best a_found m_thereMany m_foundMany m_orderHow m_orderRing m_orderMany m_hasBest m_bestTop m_bestBy a_weights a_shared m_random m_truePlace m_trueWay m_seconds m_done m_feelings m_tries m_leftOver m_playDoor m_playRing m_isOpen m_isOver m_wasTried m_hasPlayed a_feltNow a_last a_kept m_hasSeconds m_hasTurned m_hasRound a_hasFeels a_isOn m_firstAct m_meanTop m_meanBy a_order m_rowMany m_newSteps 2) lk_RX12_269 ⟨rfl, rfl⟩ ⟨Nat.le_of_ble_eq_true rfl, Nat.le_of_ble_eq_true rfl⟩ 12 rfl rfl rfl [1] [0, 2] rfl rfl (by decide) rfl hl.1 rfl (lv_room (Nat.le_of_ble_eq_true rfl)) dX12_newly_37 ⟨Nat.le_of_ble_eq_true rfl, Nat.le_of_ble_eq_true rfl⟩ (fun r_14 u_15 H locs hw hP hD hS => ?_)
      obtain ⟨n_13, rfl⟩ : ∃ z, z = u_15 := ⟨_, rfl⟩
      obtain ⟨he_r_14, he_n_13, hw⟩ := hw
      have hr_r_14 := hw
      have hpost : ((-1) ≤ r_14.toInt ∧ r_14.toInt ≤ 9) ∧ (0 ≤ (0 : Int32).toInt ∧ (0 : Int32).toInt ≤ 0) ∧ (0 ≤ m_thereMany.toInt ∧ m_thereMany.toInt ≤ 10) ∧ (zRg 10 0 9 g_there) ∧ (m_hasBest = 0 ∨ m_hasBest = 1) ∧ (0 ≤ m_hasBest.toInt ∧ m_hasBest.toInt ≤ 1) ∧ (zC g_c) ∧ (zHF g_c g_c) ∧ (zPm g_c g_c) := ⟨(z_rgw hr_r_14 (by decide) (by decide)), (by decide +kernel), hr_m_thereMany, hC_g_there, hz_m_hasBest, hr_m_hasBest, hC_g_c, (zHF_refl g_c), (zPm_refl _)⟩
      exact hret _ _ _ _ _ _ (n_13, 0, m_thereMany, g_there, m_above, m_under, m_hasBest, m_bestTop, m_bestBy, g_c) [2, 1, 0] hP hD hS rfl (by decide) dX12_newly_40 hpost
    · skip
      refine lv_if_eq (tgt := 35) hx hb dX12_newly_24 (by decide) (fun h9 => absurd h9 (by decide +kernel)) (fun _ => ?_)
      refine lv_aload_n hx hb dX12_newly_27 rfl (lv_at hl 0 rfl) ?_
      refine lv_iload_n hx hb dX12_newly_28 rfl (lv_at hl 3 rfl) ?_
      refine z_callVi (As := [.int d]) (rest := []) (wr := [(a_there, .inl (cA.1 0, 10, .inl g_there))]) ⟨hx, hb, hml, hown, hts⟩ hK hE hT hP hD hS hA (r_isDoor l G cA h0 0 0 m_above m_under a_traySort a_trayMany a_numbers a_tape m_taped m_textEnd m_faultKind m_faultAt m_bad m_badAt m_token m_at m_behind m_number m_letters m_word a_c a_words m_markMany a_there a_tried a_best a_found m_thereMany m_foundMany m_orderHow m_orderRing m_orderMany m_hasBest m_bestTop m_bestBy a_weights a_shared m_random m_truePlace m_trueWay m_seconds m_done m_feelings m_tries m_leftOver m_playDoor m_playRing m_isOpen m_isOver m_wasTried m_hasPlayed a_feltNow a_last a_kept m_hasSeconds m_hasTurned m_hasRound a_hasFeels a_isOn m_firstAct m_meanTop m_meanBy a_order m_rowMany m_newSteps g_c d hC_g_c) lk_RX12_295 ⟨rfl, rfl⟩ ⟨Nat.le_of_ble_eq_true rfl, Nat.le_of_ble_eq_true rfl⟩ 12 rfl rfl rfl [1, 2] [0] rfl rfl (by decide) rfl hl.1 rfl (lv_room (Nat.le_of_ble_eq_true rfl)) dX12_newly_29 ⟨Nat.le_of_ble_eq_true rfl, Nat.le_of_ble_eq_true rfl⟩ (fun r_16 u_17 H locs hw hP hD hS => ?_)
      obtain ⟨he_r_16, hw⟩ := hw
      rcases hw with ⟨rfl, -⟩ | ⟨rfl, hf_18, hf_19⟩
      · skip
        refine lv_if_ne (tgt := 41) hx hb dX12_newly_32 (by decide) (fun h9 => absurd (by decide +kernel) h9) (fun _ => ?_)
        refine lv_aload_n hx hb dX12_newly_35 rfl (lv_at hl 0 rfl) ?_
        refine lv_iconst (v := 2) hx hb dX12_newly_36 (by decide) ?_
        refine z_callVi (As := [.int 2]) (rest := []) (wr := [(a_there, .inl (cA.1 0, 10, .inl g_there)), (a_c, .inl (cA.1 0, 1825, .inl g_c))]) ⟨hx, hb, hml, hown, hts⟩ hK hE hT hP hD hS hA (r_refuse l G cA h0 0 0 m_above m_under a_traySort a_trayMany a_numbers a_tape m_taped m_textEnd m_faultKind m_faultAt m_bad m_badAt m_token m_at m_behind m_number m_letters m_word a_c a_words m_markMany a_there a_tried a_best a_found m_thereMany m_foundMany m_orderHow m_orderRing m_orderMany m_hasBest m_bestTop m_bestBy a_weights a_shared m_random m_truePlace m_trueWay m_seconds m_done m_feelings m_tries m_leftOver m_playDoor m_playRing m_isOpen m_isOver m_wasTried m_hasPlayed a_feltNow a_last a_kept m_hasSeconds m_hasTurned m_hasRound a_hasFeels a_isOn m_firstAct m_meanTop m_meanBy a_order m_rowMany m_newSteps 2) lk_RX12_269 ⟨rfl, rfl⟩ ⟨Nat.le_of_ble_eq_true rfl, Nat.le_of_ble_eq_true rfl⟩ 12 rfl rfl rfl [1] [0, 2] rfl rfl (by decide) rfl hl.1 rfl (lv_room (Nat.le_of_ble_eq_true rfl)) dX12_newly_37 ⟨Nat.le_of_ble_eq_true rfl, Nat.le_of_ble_eq_true rfl⟩ (fun r_21 u_22 H locs hw hP hD hS => ?_)
        obtain ⟨n_20, rfl⟩ : ∃ z, z = u_22 := ⟨_, rfl⟩
        obtain ⟨he_r_21, he_n_20, hw⟩ := hw
        have hr_r_21 := hw
        have hpost : ((-1) ≤ r_21.toInt ∧ r_21.toInt ≤ 9) ∧ (0 ≤ (0 : Int32).toInt ∧ (0 : Int32).toInt ≤ 0) ∧ (0 ≤ m_thereMany.toInt ∧ m_thereMany.toInt ≤ 10) ∧ (zRg 10 0 9 g_there) ∧ (m_hasBest = 0 ∨ m_hasBest = 1) ∧ (0 ≤ m_hasBest.toInt ∧ m_hasBest.toInt ≤ 1) ∧ (zC g_c) ∧ (zHF g_c g_c) ∧ (zPm g_c g_c) := ⟨(z_rgw hr_r_21 (by decide) (by decide)), (by decide +kernel), hr_m_thereMany, hC_g_there, hz_m_hasBest, hr_m_hasBest, hC_g_c, (zHF_refl g_c), (zPm_refl _)⟩
        exact hret _ _ _ _ _ _ (n_20, 0, m_thereMany, g_there, m_above, m_under, m_hasBest, m_bestTop, m_bestBy, g_c) [2, 1, 0] hP hD hS rfl (by decide) dX12_newly_40 hpost
      · skip
        refine lv_if_ne (tgt := 41) hx hb dX12_newly_32 (by decide) (fun _ => ?_) (fun h9 => absurd h9 (by decide +kernel))
        refine lv_aload_n hx hb dX12_newly_41 rfl (lv_at hl 0 rfl) ?_
        refine lv_iload_n hx hb dX12_newly_42 rfl (lv_at hl 1 rfl) ?_
        refine z_callVi (As := [.int k]) (rest := []) (wr := [(a_there, .inl (cA.1 0, 10, .inl g_there))]) ⟨hx, hb, hml, hown, hts⟩ hK hE hT hP hD hS hA (r_ringOf l G cA h0 0 0 m_above m_under a_traySort a_trayMany a_numbers a_tape m_taped m_textEnd m_faultKind m_faultAt m_bad m_badAt m_token m_at m_behind m_number m_letters m_word a_c a_words m_markMany a_there a_tried a_best a_found m_thereMany m_foundMany m_orderHow m_orderRing m_orderMany m_hasBest m_bestTop m_bestBy a_weights a_shared m_random m_truePlace m_trueWay m_seconds m_done m_feelings m_tries m_leftOver m_playDoor m_playRing m_isOpen m_isOver m_wasTried m_hasPlayed a_feltNow a_last a_kept m_hasSeconds m_hasTurned m_hasRound a_hasFeels a_isOn m_firstAct m_meanTop m_meanBy a_order m_rowMany m_newSteps g_c k (by omega) hC_g_c) lk_RX12_278 ⟨rfl, rfl⟩ ⟨Nat.le_of_ble_eq_true rfl, Nat.le_of_ble_eq_true rfl⟩ 12 rfl rfl rfl [1, 2] [0] rfl rfl (by decide) rfl hl.1 rfl (lv_room (Nat.le_of_ble_eq_true rfl)) dX12_newly_43 ⟨Nat.le_of_ble_eq_true rfl, Nat.le_of_ble_eq_true rfl⟩ (fun r_23 u_24 H locs hw hP hD hS => ?_)
        obtain ⟨he_r_23, hw⟩ := hw
        obtain ⟨hr_r_23, hf_25⟩ := hw
        refine lv_if_ge (tgt := 63) hx hb dX12_newly_46 (by decide) (fun c_26 => ?_) (fun c_26 => ?_)
        · have b_27 := z_fgeT c_26
          refine lv_aload_n hx hb dX12_newly_63 rfl (lv_at hl 0 rfl) ?_
          refine lv_bipush (v := 9) hx hb dX12_newly_64 (by decide) ?_
          refine z_callVi (As := [.int 9]) (rest := []) (wr := [(a_there, .inl (cA.1 0, 10, .inl g_there)), (a_c, .inl (cA.1 0, 1825, .inl g_c))]) ⟨hx, hb, hml, hown, hts⟩ hK hE hT hP hD hS hA (r_refuse l G cA h0 0 0 m_above m_under a_traySort a_trayMany a_numbers a_tape m_taped m_textEnd m_faultKind m_faultAt m_bad m_badAt m_token m_at m_behind m_number m_letters m_word a_c a_words m_markMany a_there a_tried a_best a_found m_thereMany m_foundMany m_orderHow m_orderRing m_orderMany m_hasBest m_bestTop m_bestBy a_weights a_shared m_random m_truePlace m_trueWay m_seconds m_done m_feelings m_tries m_leftOver m_playDoor m_playRing m_isOpen m_isOver m_wasTried m_hasPlayed a_feltNow a_last a_kept m_hasSeconds m_hasTurned m_hasRound a_hasFeels a_isOn m_firstAct m_meanTop m_meanBy a_order m_rowMany m_newSteps 9) lk_RX12_269 ⟨rfl, rfl⟩ ⟨Nat.le_of_ble_eq_true rfl, Nat.le_of_ble_eq_true rfl⟩ 12 rfl rfl rfl [1] [0, 2] rfl rfl (by decide) rfl hl.1 rfl (lv_room (Nat.le_of_ble_eq_true rfl)) dX12_newly_66 ⟨Nat.le_of_ble_eq_true rfl, Nat.le_of_ble_eq_true rfl⟩ (fun r_29 u_30 H locs hw hP hD hS => ?_)
          obtain ⟨n_28, rfl⟩ : ∃ z, z = u_30 := ⟨_, rfl⟩
          obtain ⟨he_r_29, he_n_28, hw⟩ := hw
          have hr_r_29 := hw
          have hpost : ((-1) ≤ r_29.toInt ∧ r_29.toInt ≤ 9) ∧ (0 ≤ (0 : Int32).toInt ∧ (0 : Int32).toInt ≤ 0) ∧ (0 ≤ m_thereMany.toInt ∧ m_thereMany.toInt ≤ 10) ∧ (zRg 10 0 9 g_there) ∧ (m_hasBest = 0 ∨ m_hasBest = 1) ∧ (0 ≤ m_hasBest.toInt ∧ m_hasBest.toInt ≤ 1) ∧ (zC g_c) ∧ (zHF g_c g_c) ∧ (zPm g_c g_c) := ⟨(z_rgw hr_r_29 (by decide) (by decide)), (by decide +kernel), hr_m_thereMany, hC_g_there, hz_m_hasBest, hr_m_hasBest, hC_g_c, (zHF_refl g_c), (zPm_refl _)⟩
          exact hret _ _ _ _ _ _ (n_28, 0, m_thereMany, g_there, m_above, m_under, m_hasBest, m_bestTop, m_bestBy, g_c) [2, 1, 0] hP hD hS rfl (by decide) dX12_newly_69 hpost
        · have b_31 := z_fltF c_26
          refine lv_aload_n hx hb dX12_newly_49 rfl (lv_at hl 0 rfl) ?_
          refine va_get (D := G) (ci := 12) (v := .ref a_c) (C := RX12) (T := TX12) (N := 65) hx hb hts inT12 hown hK hP 1 rfl rfl 20 (by decide) (hts _ tw_1905) (fun _ h9 => h9) rfl dX12_newly_50 ?_
          refine lv_sipush (v := 150) hx hb dX12_newly_53 (by decide) ?_
          refine lv_iload_n hx hb dX12_newly_56 rfl (lv_at hl 1 rfl) ?_
          refine lv_iadd hx hb dX12_newly_57 ?_
          refine lv_topi (fun x_32 he_x_32 => ?_)
          have hq_x_32 := z_addq he_x_32 hk_150 (rfl : k.toInt = _) (by omega) (by omega)
          refine va_iald hx hb hK hP 2 0 rfl rfl (z_inN (by omega) (by omega)) dX12_newly_58 ?_
          refine lv_topi (fun x_33 he_x_33 => ?_)
          have hr_x_33 := z_ct hC_g_c he_x_33 (a := 150) (b := 159) (lo := 0) (hi := 1) (by decide +kernel) (by decide) (by omega) (by omega)
          have hlen_x_33 := z_at he_x_33 (a := 150 + k.toInt.toNat) (by omega)
          refine lv_iconst (v := 1) hx hb dX12_newly_59 (by decide) ?_
          refine lv_icmp_ne (tgt := 70) hx hb dX12_newly_60 (by decide) (fun c_34 => ?_) (fun c_34 => ?_)
          · have b_35 := z_fneT c_34
            refine lv_aload_n hx hb dX12_newly_70 rfl (lv_at hl 0 rfl) ?_
            refine lv_iload_n hx hb dX12_newly_71 rfl (lv_at hl 2 rfl) ?_
            refine z_callVv (As := [.int r]) (rest := []) (wr := []) ⟨hx, hb, hml, hown, hts⟩ hK hE hT hP hD hS hA (r_gather l G cA h0 0 0 m_above m_under a_traySort a_trayMany a_numbers a_tape m_taped m_textEnd m_faultKind m_faultAt m_bad m_badAt m_token m_at m_behind m_number m_letters m_word a_c a_words m_markMany a_there a_tried a_best a_found m_thereMany m_foundMany m_orderHow m_orderRing m_orderMany m_hasBest m_bestTop m_bestBy a_weights a_shared m_random m_truePlace m_trueWay m_seconds m_done m_feelings m_tries m_leftOver m_playDoor m_playRing m_isOpen m_isOver m_wasTried m_hasPlayed a_feltNow a_last a_kept m_hasSeconds m_hasTurned m_hasRound a_hasFeels a_isOn m_firstAct m_meanTop m_meanBy a_order m_rowMany m_newSteps g_c g_there r (by omega) hr_m_thereMany hC_g_c hC_g_there) lk_RX12_292 ⟨rfl, rfl⟩ ⟨Nat.le_of_ble_eq_true rfl, Nat.le_of_ble_eq_true rfl⟩ 12 rfl rfl rfl [1, 2, 0] [] rfl rfl (by decide) rfl hl.1 rfl (lv_room (Nat.le_of_ble_eq_true rfl)) dX12_newly_72 ⟨Nat.le_of_ble_eq_true rfl, Nat.le_of_ble_eq_true rfl⟩ (fun u_39 H locs hw hP hD hS => ?_)
            obtain ⟨n_36, n_37⟩ := u_39
            try dsimp only at hw
            obtain ⟨he_n_36, he_n_37, hw⟩ := hw
            obtain ⟨hr_n_36, hC_n_37, hf_40, hf_41⟩ := hw
            refine lv_aload_n hx hb dX12_newly_75 rfl (lv_at hl 0 rfl) ?_
            refine lv_iload_n hx hb dX12_newly_76 rfl (lv_at hl 3 rfl) ?_
            refine z_callVi (As := [.int d]) (rest := []) (wr := []) ⟨hx, hb, hml, hown, hts⟩ hK hE hT hP hD hS hA (r_hasOpener l G cA h0 0 0 m_above m_under a_traySort a_trayMany a_numbers a_tape m_taped m_textEnd m_faultKind m_faultAt m_bad m_badAt m_token m_at m_behind m_number m_letters m_word a_c a_words m_markMany a_there a_tried a_best a_found n_36 m_foundMany m_orderHow m_orderRing m_orderMany m_hasBest m_bestTop m_bestBy a_weights a_shared m_random m_truePlace m_trueWay m_seconds m_done m_feelings m_tries m_leftOver m_playDoor m_playRing m_isOpen m_isOver m_wasTried m_hasPlayed a_feltNow a_last a_kept m_hasSeconds m_hasTurned m_hasRound a_hasFeels a_isOn m_firstAct m_meanTop m_meanBy a_order m_rowMany m_newSteps g_c n_37 d (by omega) hr_n_36 hC_g_c hC_n_37) lk_RX12_438 ⟨rfl, rfl⟩ ⟨Nat.le_of_ble_eq_true rfl, Nat.le_of_ble_eq_true rfl⟩ 12 rfl rfl rfl [0, 1, 2] [] rfl rfl (by decide) rfl hl.1 rfl (lv_room (Nat.le_of_ble_eq_true rfl)) dX12_newly_77 ⟨Nat.le_of_ble_eq_true rfl, Nat.le_of_ble_eq_true rfl⟩ (fun r_42 u_43 H locs hw hP hD hS => ?_)
            rcases hw with ⟨rfl, -⟩ | ⟨rfl, -⟩
            · skip
              refine lv_if_ne (tgt := 99) hx hb dX12_newly_80 (by decide) (fun h9 => absurd (by decide +kernel) h9) (fun _ => ?_)
              refine lv_aload_n hx hb dX12_newly_83 rfl (lv_at hl 0 rfl) ?_
              refine lv_iload_n hx hb dX12_newly_84 rfl (lv_at hl 1 rfl) ?_
              refine lv_iload_n hx hb dX12_newly_85 rfl (lv_at hl 3 rfl) ?_
              refine z_callVi (As := [.int k, .int d]) (rest := []) (wr := [(a_there, .inl (cA.1 0, 10, .inl n_37))]) ⟨hx, hb, hml, hown, hts⟩ hK hE hT hP hD hS hA (r_canOpen l G cA h0 0 0 m_above m_under a_traySort a_trayMany a_numbers a_tape m_taped m_textEnd m_faultKind m_faultAt m_bad m_badAt m_token m_at m_behind m_number m_letters m_word a_c a_words m_markMany a_there a_tried a_best a_found n_36 m_foundMany m_orderHow m_orderRing m_orderMany m_hasBest m_bestTop m_bestBy a_weights a_shared m_random m_truePlace m_trueWay m_seconds m_done m_feelings m_tries m_leftOver m_playDoor m_playRing m_isOpen m_isOver m_wasTried m_hasPlayed a_feltNow a_last a_kept m_hasSeconds m_hasTurned m_hasRound a_hasFeels a_isOn m_firstAct m_meanTop m_meanBy a_order m_rowMany m_newSteps g_c k d (by omega) (by omega) hC_g_c) lk_RX12_345 ⟨rfl, rfl⟩ ⟨Nat.le_of_ble_eq_true rfl, Nat.le_of_ble_eq_true rfl⟩ 12 rfl rfl rfl [0, 1] [2] rfl rfl (by decide) rfl hl.1 rfl (lv_room (Nat.le_of_ble_eq_true rfl)) dX12_newly_86 ⟨Nat.le_of_ble_eq_true rfl, Nat.le_of_ble_eq_true rfl⟩ (fun r_44 u_45 H locs hw hP hD hS => ?_)
              obtain ⟨he_r_44, hw⟩ := hw
              rcases hw with ⟨rfl, hf_46⟩ | ⟨rfl, hf_47⟩
              · skip
                refine lv_if_ne (tgt := 99) hx hb dX12_newly_89 (by decide) (fun h9 => absurd (by decide +kernel) h9) (fun _ => ?_)
                refine lv_aload_n hx hb dX12_newly_92 rfl (lv_at hl 0 rfl) ?_
                refine lv_bipush (v := 8) hx hb dX12_newly_93 (by decide) ?_
                refine z_callVi (As := [.int 8]) (rest := []) (wr := [(a_there, .inl (cA.1 0, 10, .inl n_37)), (a_c, .inl (cA.1 0, 1825, .inl g_c))]) ⟨hx, hb, hml, hown, hts⟩ hK hE hT hP hD hS hA (r_refuse l G cA h0 0 0 m_above m_under a_traySort a_trayMany a_numbers a_tape m_taped m_textEnd m_faultKind m_faultAt m_bad m_badAt m_token m_at m_behind m_number m_letters m_word a_c a_words m_markMany a_there a_tried a_best a_found n_36 m_foundMany m_orderHow m_orderRing m_orderMany m_hasBest m_bestTop m_bestBy a_weights a_shared m_random m_truePlace m_trueWay m_seconds m_done m_feelings m_tries m_leftOver m_playDoor m_playRing m_isOpen m_isOver m_wasTried m_hasPlayed a_feltNow a_last a_kept m_hasSeconds m_hasTurned m_hasRound a_hasFeels a_isOn m_firstAct m_meanTop m_meanBy a_order m_rowMany m_newSteps 8) lk_RX12_269 ⟨rfl, rfl⟩ ⟨Nat.le_of_ble_eq_true rfl, Nat.le_of_ble_eq_true rfl⟩ 12 rfl rfl rfl [1] [0, 2] rfl rfl (by decide) rfl hl.1 rfl (lv_room (Nat.le_of_ble_eq_true rfl)) dX12_newly_95 ⟨Nat.le_of_ble_eq_true rfl, Nat.le_of_ble_eq_true rfl⟩ (fun r_49 u_50 H locs hw hP hD hS => ?_)
                obtain ⟨n_48, rfl⟩ : ∃ z, z = u_50 := ⟨_, rfl⟩
                obtain ⟨he_r_49, he_n_48, hw⟩ := hw
                have hr_r_49 := hw
                have hpost : ((-1) ≤ r_49.toInt ∧ r_49.toInt ≤ 9) ∧ (0 ≤ (0 : Int32).toInt ∧ (0 : Int32).toInt ≤ 0) ∧ (0 ≤ n_36.toInt ∧ n_36.toInt ≤ 10) ∧ (zRg 10 0 9 n_37) ∧ (m_hasBest = 0 ∨ m_hasBest = 1) ∧ (0 ≤ m_hasBest.toInt ∧ m_hasBest.toInt ≤ 1) ∧ (zC g_c) ∧ (zHF g_c g_c) ∧ (zPm g_c g_c) := ⟨(z_rgw hr_r_49 (by decide) (by decide)), (by decide +kernel), hr_n_36, hC_n_37, hz_m_hasBest, hr_m_hasBest, hC_g_c, (zHF_refl g_c), (zPm_refl _)⟩
                exact hret _ _ _ _ _ _ (n_48, 0, n_36, n_37, m_above, m_under, m_hasBest, m_bestTop, m_bestBy, g_c) [2, 1, 0] hP hD hS rfl (by decide) dX12_newly_98 hpost
              · skip
                refine lv_if_ne (tgt := 99) hx hb dX12_newly_89 (by decide) (fun _ => ?_) (fun h9 => absurd h9 (by decide +kernel))
                refine lv_iconst (v := 0) hx hb dX12_newly_99 (by decide) ?_
                refine lv_istore (lv' := [(4, .int 0), (0, .ref h0), (1, .int k), (2, .int r), (3, .int d)]) hx hb dX12_newly_100 hl (by decide) rfl (fun ls hl => ?_)
                refine lv_aload_n hx hb dX12_newly_102 rfl (lv_at hl 1 rfl) ?_
                refine lv_iconst (v := 0) hx hb dX12_newly_103 (by decide) ?_
                refine va_put (D := G) (ci := 12) (v := .int 0) (ty := .boolean) (C := RX12) (T := TX12) (N := 65) hx hb hts inT12 tyX12 tyX12_ok nmX12 hown hK hP hD hS 1 rfl rfl 32 (by decide) (hts _ tw_1916) (fun _ h9 => h9) rfl (tyX12_ok 32 (by decide)) rfl rfl (Nat.le_of_ble_eq_true rfl) dX12_newly_104 (fun H locs hP hD hS => ?_)
                have hro := zRO_neg hf_25 (by omega)
                have hS9 : (g_c (95 + r.toInt.toNat)).toInt ≤ 9 := zRoom hC_g_c (by omega) (by omega) (by omega) (by omega) (by omega) (zRO_noring hro (by omega) (by omega))
                have hln : (g_c (150 + k.toInt.toNat)).toInt ≠ 1 := by rw [← hlen_x_33]; omega
                refine lv_iconst (v := 0) hx hb dX12_newly_107 (by decide) ?_
                refine lv_istore (lv' := [(5, .int 0), (4, .int 0), (0, .ref h0), (1, .int k), (2, .int r), (3, .int d)]) hx hb dX12_newly_108 hl (by decide) rfl (fun ls hl => ?_)
                have hlp_3234 : ∀ (n : Nat) (v_2427 : Int32) (v_2428 : Int32) (g_2429 : Nat → Int32) (v_2430 : Int32) (v_2431 : Int32) (v_2432 : Int64) (v_2433 : Int64) (g_2434 : Nat → Int32) (H : Heap) (locs : List Loc) (ls : Array Slot), (2147483647 - v_2428.toInt).toNat < n → (0 ≤ v_2427.toInt ∧ v_2427.toInt ≤ 9) → (0 ≤ v_2428.toInt ∧ v_2428.toInt ≤ 10) → (zRg 10 0 9 g_2429) → (0 ≤ v_2430.toInt ∧ v_2430.toInt ≤ 10) → (v_2431 = 0 ∨ v_2431 = 1) → (0 ≤ v_2431.toInt ∧ v_2431.toInt ≤ 1) → (zC g_2434) → (zHF g_c g_2434) → (zLike g_c g_2434 r.toInt) → (v_2428.toInt ≤ 0 ∨ v_2431.toInt = 1) → (v_2431.toInt ≤ 0 ∨ 1 ≤ v_2433.toInt) → va_P G vwCl [(a_there, .inl (cA.1 0, 10, .inl g_2429)), (h0, .inr (12, [.int 0, .int 0, .long m_above, .long m_under, .ref a_traySort, .ref a_trayMany, .ref a_numbers, .ref a_tape, .int m_taped, .int m_textEnd, .int m_faultKind, .int m_faultAt, .int m_bad, .int m_badAt, .int m_token, .int m_at, .int m_behind, .int m_number, .int m_letters, .long m_word, .ref a_c, .ref a_words, .int m_markMany, .ref a_there, .ref a_tried, .ref a_best, .ref a_found, .int v_2430, .int m_foundMany, .int m_orderHow, .int m_orderRing, .int m_orderMany, .int v_2431, .long v_2432, .long v_2433, .ref a_weights, .ref a_shared, .int m_random, .int m_truePlace, .int m_trueWay, .int m_seconds, .int m_done, .int m_feelings, .int m_tries, .int m_leftOver, .int m_playDoor, .int m_playRing, .int m_isOpen, .int m_isOver, .int m_wasTried, .int m_hasPlayed, .ref a_feltNow, .ref a_last, .ref a_kept, .int m_hasSeconds, .int m_hasTurned, .int m_hasRound, .ref a_hasFeels, .ref a_isOn, .int m_firstAct, .long m_meanTop, .long m_meanBy, .ref a_order, .int m_rowMany, .int m_newSteps])), (a_c, .inl (cA.1 0, 1825, .inl g_2434))] H → va_D A [(a_there, .inl (cA.1 0, 10, .inl g_2429)), (h0, .inr (12, [.int 0, .int 0, .long m_above, .long m_under, .ref a_traySort, .ref a_trayMany, .ref a_numbers, .ref a_tape, .int m_taped, .int m_textEnd, .int m_faultKind, .int m_faultAt, .int m_bad, .int m_badAt, .int m_token, .int m_at, .int m_behind, .int m_number, .int m_letters, .long m_word, .ref a_c, .ref a_words, .int m_markMany, .ref a_there, .ref a_tried, .ref a_best, .ref a_found, .int v_2430, .int m_foundMany, .int m_orderHow, .int m_orderRing, .int m_orderMany, .int v_2431, .long v_2432, .long v_2433, .ref a_weights, .ref a_shared, .int m_random, .int m_truePlace, .int m_trueWay, .int m_seconds, .int m_done, .int m_feelings, .int m_tries, .int m_leftOver, .int m_playDoor, .int m_playRing, .int m_isOpen, .int m_isOver, .int m_wasTried, .int m_hasPlayed, .ref a_feltNow, .ref a_last, .ref a_kept, .int m_hasSeconds, .int m_hasTurned, .int m_hasRound, .ref a_hasFeels, .ref a_isOn, .int m_firstAct, .long m_meanTop, .long m_meanBy, .ref a_order, .int m_rowMany, .int m_newSteps])), (a_c, .inl (cA.1 0, 1825, .inl g_2434))] → va_S A s.heap H locs → lv_has ls 9 [(0, .ref h0), (1, .int k), (2, .int r), (3, .int d), (4, .int v_2427), (5, .int v_2428)] → W p l e ({ frames := 3, cells := 0, slots := 0, locals := 69 }) s m args below meth c H locs 0 0 Q (F0 m 110 ls []) := by
                  intro n
                  induction n with
                  | zero =>
                    intro v_2427 v_2428 g_2429 v_2430 v_2431 v_2432 v_2433 g_2434 H locs ls hmu_hlp_3234 hr_v_2427 hr_v_2428 hC_g_2429 hr_v_2430 hz_v_2431 hr_v_2431 hC_g_2434 hs_3230 hi_3231 hi_3232 hi_3233 hP hD hS hl
                    exact absurd hmu_hlp_3234 (Nat.not_lt_zero _)
                  | succ n ih_3235 =>
                    intro v_2427 v_2428 g_2429 v_2430 v_2431 v_2432 v_2433 g_2434 H locs ls hmu_hlp_3234 hr_v_2427 hr_v_2428 hC_g_2429 hr_v_2430 hz_v_2431 hr_v_2431 hC_g_2434 hs_3230 hi_3231 hi_3232 hi_3233 hP hD hS hl
                    refine lv_iload hx hb dX12_newly_110 (lv_at hl 5 rfl) ?_
                    refine lv_aload_n hx hb dX12_newly_112 rfl (lv_at hl 0 rfl) ?_
                    refine va_get (D := G) (ci := 12) (v := .ref a_c) (C := RX12) (T := TX12) (N := 65) hx hb hts inT12 hown hK hP 1 rfl rfl 20 (by decide) (hts _ tw_1905) (fun _ h9 => h9) rfl dX12_newly_113 ?_
                    refine lv_bipush (v := 95) hx hb dX12_newly_116 (by decide) ?_
                    refine lv_iload_n hx hb dX12_newly_118 rfl (lv_at hl 2 rfl) ?_
                    refine lv_iadd hx hb dX12_newly_119 ?_
                    refine lv_topi (fun x_3236 he_x_3236 => ?_)
                    have hq_x_3236 := z_addq he_x_3236 hk_95 (rfl : r.toInt = _) (by omega) (by omega)
                    refine va_iald hx hb hK hP 2 0 rfl rfl (z_inN (by omega) (by omega)) dX12_newly_120 ?_
                    refine lv_topi (fun x_3237 he_x_3237 => ?_)
                    have hr_x_3237 := z_ct hC_g_2434 he_x_3237 (a := 95) (b := 97) (lo := 0) (hi := 10) (by decide +kernel) (by decide) (by omega) (by omega)
                    have hlk := zLike_sz hi_3231 (by omega) (by omega) hC_g_c.1
                    have hyS : x_3237.toInt = (g_c (95 + r.toInt.toNat)).toInt := by rw [z_at he_x_3237 (a := 95 + r.toInt.toNat) (by omega), hlk.1]
                    have hy9 : 0 ≤ x_3237.toInt ∧ x_3237.toInt ≤ 9 := by omega
                    refine lv_icmp_gt (tgt := 264) hx hb dX12_newly_121 (by decide) (fun c_3238 => ?_) (fun c_3238 => ?_)
                    · have b_3239 := z_fgtT c_3238
                      refine lv_aload_n hx hb dX12_newly_264 rfl (lv_at hl 0 rfl) ?_
                      refine lv_aload_n hx hb dX12_newly_265 rfl (lv_at hl 0 rfl) ?_
                      refine va_get (D := G) (ci := 12) (v := .long v_2432) (C := RX12) (T := TX12) (N := 65) hx hb hts inT12 hown hK hP 1 rfl rfl 33 (by decide) (hts _ tw_1917) (fun _ h9 => h9) rfl dX12_newly_266 ?_
                      refine lv_aload_n hx hb dX12_newly_269 rfl (lv_at hl 0 rfl) ?_
                      refine va_get (D := G) (ci := 12) (v := .long v_2433) (C := RX12) (T := TX12) (N := 65) hx hb hts inT12 hown hK hP 1 rfl rfl 34 (by decide) (hts _ tw_1918) (fun _ h9 => h9) rfl dX12_newly_270 ?_
                      refine z_callVi (As := [.long v_2432, .long v_2433]) (rest := []) (wr := [(a_there, .inl (cA.1 0, 10, .inl g_2429)), (a_c, .inl (cA.1 0, 1825, .inl g_2434))]) ⟨hx, hb, hml, hown, hts⟩ hK hE hT hP hD hS hA (r_fraction l G cA h0 0 0 m_above m_under a_traySort a_trayMany a_numbers a_tape m_taped m_textEnd m_faultKind m_faultAt m_bad m_badAt m_token m_at m_behind m_number m_letters m_word a_c a_words m_markMany a_there a_tried a_best a_found v_2430 m_foundMany m_orderHow m_orderRing m_orderMany v_2431 v_2432 v_2433 a_weights a_shared m_random m_truePlace m_trueWay m_seconds m_done m_feelings m_tries m_leftOver m_playDoor m_playRing m_isOpen m_isOver m_wasTried m_hasPlayed a_feltNow a_last a_kept m_hasSeconds m_hasTurned m_hasRound a_hasFeels a_isOn m_firstAct m_meanTop m_meanBy a_order m_rowMany m_newSteps v_2432 v_2433 (by omega)) lk_RX12_352 ⟨rfl, rfl⟩ ⟨Nat.le_of_ble_eq_true rfl, Nat.le_of_ble_eq_true rfl⟩ 12 rfl rfl rfl [1] [0, 2] rfl rfl (by decide) rfl hl.1 rfl (lv_room (Nat.le_of_ble_eq_true rfl)) dX12_newly_273 ⟨Nat.le_of_ble_eq_true rfl, Nat.le_of_ble_eq_true rfl⟩ (fun r_3242 u_3243 H locs hw hP hD hS => ?_)
                      obtain ⟨n_3240, n_3241⟩ := u_3243
                      try dsimp only at hw
                      obtain ⟨rfl, -⟩ := hw
                      refine lv_pop hx hb dX12_newly_276 rfl ?_
                      refine lv_iload hx hb dX12_newly_277 (lv_at hl 4 rfl) ?_
                      have hpost : ((-1) ≤ v_2427.toInt ∧ v_2427.toInt ≤ 9) ∧ (0 ≤ (0 : Int32).toInt ∧ (0 : Int32).toInt ≤ 0) ∧ (0 ≤ v_2430.toInt ∧ v_2430.toInt ≤ 10) ∧ (zRg 10 0 9 g_2429) ∧ (v_2431 = 0 ∨ v_2431 = 1) ∧ (0 ≤ v_2431.toInt ∧ v_2431.toInt ≤ 1) ∧ (zC g_2434) ∧ (zHF g_c g_2434) ∧ (zPm g_c g_2434) := ⟨(z_rgw hr_v_2427 (by decide) (by decide)), (by decide +kernel), hr_v_2430, hC_g_2429, hz_v_2431, hr_v_2431, hC_g_2434, hs_3230, (zPm_like hi_3231 (by omega) (by omega) hC_g_c.1)⟩
                      exact hret _ _ _ _ _ _ (0, 0, v_2430, g_2429, n_3240, n_3241, v_2431, v_2432, v_2433, g_2434) [2, 1, 0] hP hD hS rfl (by decide) dX12_newly_279 hpost
                    · have b_3244 := z_fleF c_3238
                      refine lv_aload_n hx hb dX12_newly_124 rfl (lv_at hl 0 rfl) ?_
                      refine lv_iload_n hx hb dX12_newly_125 rfl (lv_at hl 1 rfl) ?_
                      refine lv_iload_n hx hb dX12_newly_126 rfl (lv_at hl 2 rfl) ?_
                      refine lv_iload hx hb dX12_newly_127 (lv_at hl 5 rfl) ?_
                      refine z_callVv (As := [.int k, .int r, .int v_2428]) (rest := []) (wr := [(a_there, .inl (cA.1 0, 10, .inl g_2429))]) ⟨hx, hb, hml, hown, hts⟩ hK hE hT hP hD hS hA (r_insert l G cA h0 0 0 m_above m_under a_traySort a_trayMany a_numbers a_tape m_taped m_textEnd m_faultKind m_faultAt m_bad m_badAt m_token m_at m_behind m_number m_letters m_word a_c a_words m_markMany a_there a_tried a_best a_found v_2430 m_foundMany m_orderHow m_orderRing m_orderMany v_2431 v_2432 v_2433 a_weights a_shared m_random m_truePlace m_trueWay m_seconds m_done m_feelings m_tries m_leftOver m_playDoor m_playRing m_isOpen m_isOver m_wasTried m_hasPlayed a_feltNow a_last a_kept m_hasSeconds m_hasTurned m_hasRound a_hasFeels a_isOn m_firstAct m_meanTop m_meanBy a_order m_rowMany m_newSteps g_2434 k r v_2428 (by omega) (by omega) hr_v_2428 hC_g_2434 (by first | (rw [hlk.2.1]; omega) | (rw [hlk.2.2]; omega) | (rw [hlk.1]; omega)) (by first | (rw [hlk.2.1]; omega) | (rw [hlk.2.2]; omega) | (rw [hlk.1]; omega)) (by first | (rw [hlk.2.1]; omega) | (rw [hlk.2.2]; omega) | (rw [hlk.1]; omega)) (zLike_RO hi_3231 (by omega) (by omega) hC_g_c.1 hro)) lk_RX12_308 ⟨rfl, rfl⟩ ⟨Nat.le_of_ble_eq_true rfl, Nat.le_of_ble_eq_true rfl⟩ 12 rfl rfl rfl [1, 2] [0] rfl rfl (by decide) rfl hl.1 rfl (lv_room (Nat.le_of_ble_eq_true rfl)) dX12_newly_129 ⟨Nat.le_of_ble_eq_true rfl, Nat.le_of_ble_eq_true rfl⟩ (fun u_3247 H locs hw hP hD hS => ?_)
                      obtain ⟨n_3245, rfl⟩ : ∃ z, z = u_3247 := ⟨_, rfl⟩
                      obtain ⟨he_n_3245, hw⟩ := hw
                      obtain ⟨hC_n_3245, hf_3248, hf_3249⟩ := hw
                      have hs_3250 : zHF g_c n_3245 := (zHF_trans hs_3230 hf_3248)
                      have hone := zIn_there hf_3249 (by omega) (by omega) (by omega) (by rw [hlk.1]; omega) (by rw [hlk.1]; omega) (by omega) (by rw [hi_3231 (150 + k.toInt.toNat) (by omega)]; exact hln)
                      refine lv_aload_n hx hb dX12_newly_132 rfl (lv_at hl 0 rfl) ?_
                      refine lv_iload_n hx hb dX12_newly_133 rfl (lv_at hl 2 rfl) ?_
                      refine z_callVv (As := [.int r]) (rest := []) (wr := []) ⟨hx, hb, hml, hown, hts⟩ hK hE hT hP hD hS hA (r_gather l G cA h0 0 0 m_above m_under a_traySort a_trayMany a_numbers a_tape m_taped m_textEnd m_faultKind m_faultAt m_bad m_badAt m_token m_at m_behind m_number m_letters m_word a_c a_words m_markMany a_there a_tried a_best a_found v_2430 m_foundMany m_orderHow m_orderRing m_orderMany v_2431 v_2432 v_2433 a_weights a_shared m_random m_truePlace m_trueWay m_seconds m_done m_feelings m_tries m_leftOver m_playDoor m_playRing m_isOpen m_isOver m_wasTried m_hasPlayed a_feltNow a_last a_kept m_hasSeconds m_hasTurned m_hasRound a_hasFeels a_isOn m_firstAct m_meanTop m_meanBy a_order m_rowMany m_newSteps n_3245 g_2429 r (by omega) hr_v_2430 hC_n_3245 hC_g_2429) lk_RX12_292 ⟨rfl, rfl⟩ ⟨Nat.le_of_ble_eq_true rfl, Nat.le_of_ble_eq_true rfl⟩ 12 rfl rfl rfl [1, 2, 0] [] rfl rfl (by decide) rfl hl.1 rfl (lv_room (Nat.le_of_ble_eq_true rfl)) dX12_newly_134 ⟨Nat.le_of_ble_eq_true rfl, Nat.le_of_ble_eq_true rfl⟩ (fun u_3254 H locs hw hP hD hS => ?_)
                      obtain ⟨n_3251, n_3252⟩ := u_3254
                      try dsimp only at hw
                      obtain ⟨he_n_3251, he_n_3252, hw⟩ := hw
                      obtain ⟨hr_n_3251, hC_n_3252, hf_3255, hf_3256⟩ := hw
                      have hn_k_3257 : 1 ≤ n_3251.toInt ∧ n_3251.toInt ≤ 10 := by omega
                      refine lv_lconst (v := 0) hx hb dX12_newly_137 (by decide) ?_
                      refine lv_lstore (lv' := [(6, .long 0), (0, .ref h0), (1, .int k), (2, .int r), (3, .int d), (4, .int v_2427), (5, .int v_2428)]) hx hb dX12_newly_138 hl (by decide) rfl (fun ls hl => ?_)
                      refine lv_iconst (v := 0) hx hb dX12_newly_140 (by decide) ?_
                      refine lv_istore (lv' := [(8, .int 0), (6, .long 0), (0, .ref h0), (1, .int k), (2, .int r), (3, .int d), (4, .int v_2427), (5, .int v_2428)]) hx hb dX12_newly_141 hl (by decide) rfl (fun ls hl => ?_)
                      have hlp_3970 : ∀ (n : Nat) (v_3935 : Int64) (v_3936 : Int32) (H : Heap) (locs : List Loc) (ls : Array Slot), (2147483647 - v_3936.toInt).toNat < n → (0 ≤ v_3936.toInt ∧ v_3936.toInt ≤ 20) → va_P G vwCl [(h0, .inr (12, [.int 0, .int 0, .long m_above, .long m_under, .ref a_traySort, .ref a_trayMany, .ref a_numbers, .ref a_tape, .int m_taped, .int m_textEnd, .int m_faultKind, .int m_faultAt, .int m_bad, .int m_badAt, .int m_token, .int m_at, .int m_behind, .int m_number, .int m_letters, .long m_word, .ref a_c, .ref a_words, .int m_markMany, .ref a_there, .ref a_tried, .ref a_best, .ref a_found, .int n_3251, .int m_foundMany, .int m_orderHow, .int m_orderRing, .int m_orderMany, .int v_2431, .long v_2432, .long v_2433, .ref a_weights, .ref a_shared, .int m_random, .int m_truePlace, .int m_trueWay, .int m_seconds, .int m_done, .int m_feelings, .int m_tries, .int m_leftOver, .int m_playDoor, .int m_playRing, .int m_isOpen, .int m_isOver, .int m_wasTried, .int m_hasPlayed, .ref a_feltNow, .ref a_last, .ref a_kept, .int m_hasSeconds, .int m_hasTurned, .int m_hasRound, .ref a_hasFeels, .ref a_isOn, .int m_firstAct, .long m_meanTop, .long m_meanBy, .ref a_order, .int m_rowMany, .int m_newSteps])), (a_c, .inl (cA.1 0, 1825, .inl n_3245)), (a_there, .inl (cA.1 0, 10, .inl n_3252))] H → va_D A [(h0, .inr (12, [.int 0, .int 0, .long m_above, .long m_under, .ref a_traySort, .ref a_trayMany, .ref a_numbers, .ref a_tape, .int m_taped, .int m_textEnd, .int m_faultKind, .int m_faultAt, .int m_bad, .int m_badAt, .int m_token, .int m_at, .int m_behind, .int m_number, .int m_letters, .long m_word, .ref a_c, .ref a_words, .int m_markMany, .ref a_there, .ref a_tried, .ref a_best, .ref a_found, .int n_3251, .int m_foundMany, .int m_orderHow, .int m_orderRing, .int m_orderMany, .int v_2431, .long v_2432, .long v_2433, .ref a_weights, .ref a_shared, .int m_random, .int m_truePlace, .int m_trueWay, .int m_seconds, .int m_done, .int m_feelings, .int m_tries, .int m_leftOver, .int m_playDoor, .int m_playRing, .int m_isOpen, .int m_isOver, .int m_wasTried, .int m_hasPlayed, .ref a_feltNow, .ref a_last, .ref a_kept, .int m_hasSeconds, .int m_hasTurned, .int m_hasRound, .ref a_hasFeels, .ref a_isOn, .int m_firstAct, .long m_meanTop, .long m_meanBy, .ref a_order, .int m_rowMany, .int m_newSteps])), (a_c, .inl (cA.1 0, 1825, .inl n_3245)), (a_there, .inl (cA.1 0, 10, .inl n_3252))] → va_S A s.heap H locs → lv_has ls 9 [(0, .ref h0), (1, .int k), (2, .int r), (3, .int d), (4, .int v_2427), (5, .int v_2428), (6, .long v_3935), (8, .int v_3936)] → W p l e ({ frames := 3, cells := 0, slots := 0, locals := 69 }) s m args below meth c H locs 0 0 Q (F0 m 143 ls []) := by
                        intro n
                        induction n with
                        | zero =>
                          intro v_3935 v_3936 H locs ls hmu_hlp_3970 hr_v_3936 hP hD hS hl
                          exact absurd hmu_hlp_3970 (Nat.not_lt_zero _)
                        | succ n ih_3971 =>
                          intro v_3935 v_3936 H locs ls hmu_hlp_3970 hr_v_3936 hP hD hS hl
                          refine lv_iload hx hb dX12_newly_143 (lv_at hl 7 rfl) ?_
                          refine lv_iconst (v := 2) hx hb dX12_newly_145 (by decide) ?_
                          refine lv_aload_n hx hb dX12_newly_146 rfl (lv_at hl 0 rfl) ?_
                          refine va_get (D := G) (ci := 12) (v := .int n_3251) (C := RX12) (T := TX12) (N := 65) hx hb hts inT12 hown hK hP 0 rfl rfl 27 (by decide) (hts _ tw_1912) (fun _ h9 => h9) rfl dX12_newly_147 ?_
                          refine lv_imul hx hb dX12_newly_150 ?_
                          refine lv_topi (fun x_3972 he_x_3972 => ?_)
                          have hq_x_3972 := z_mulq he_x_3972 hk_2 (rfl : n_3251.toInt = _) (by omega) (by omega)
                          refine lv_icmp_ge (tgt := 208) hx hb dX12_newly_151 (by decide) (fun c_3973 => ?_) (fun c_3973 => ?_)
                          · have b_3974 := z_fgeT c_3973
                            refine lv_aload_n hx hb dX12_newly_208 rfl (lv_at hl 0 rfl) ?_
                            refine va_get (D := G) (ci := 12) (v := .int v_2431) (C := RX12) (T := TX12) (N := 65) hx hb hts inT12 hown hK hP 0 rfl rfl 32 (by decide) (hts _ tw_1916) (fun _ h9 => h9) rfl dX12_newly_209 ?_
                            refine lv_if_eq (tgt := 225) hx hb dX12_newly_212 (by decide) (fun c_3975 => ?_) (fun c_3975 => ?_)
                            · have b_3976 := z_feqT c_3975
                              refine lv_iload hx hb dX12_newly_225 (lv_at hl 5 rfl) ?_
                              refine lv_istore (lv' := [(4, .int v_2428), (0, .ref h0), (1, .int k), (2, .int r), (3, .int d), (5, .int v_2428), (6, .long v_3935), (8, .int v_3936)]) hx hb dX12_newly_227 hl (by decide) rfl (fun ls hl => ?_)
                              refine lv_aload_n hx hb dX12_newly_229 rfl (lv_at hl 1 rfl) ?_
                              refine lv_lload hx hb dX12_newly_230 (lv_at hl 6 rfl) ?_
                              refine va_put (D := G) (ci := 12) (v := .long v_3935) (ty := .long) (C := RX12) (T := TX12) (N := 65) hx hb hts inT12 tyX12 tyX12_ok nmX12 hown hK hP hD hS 0 rfl rfl 33 (by decide) (hts _ tw_1917) (fun _ h9 => h9) rfl (tyX12_ok 33 (by decide)) rfl rfl (Nat.le_of_ble_eq_true rfl) dX12_newly_232 (fun H locs hP hD hS => ?_)
                              refine lv_aload_n hx hb dX12_newly_235 rfl (lv_at hl 1 rfl) ?_
                              refine lv_ldc2 (v := 16) hx hb hown (hts _ tw_2470) dX12_newly_236 ?_
                              refine lv_aload_n hx hb dX12_newly_239 rfl (lv_at hl 1 rfl) ?_
                              refine va_get (D := G) (ci := 12) (v := .int n_3251) (C := RX12) (T := TX12) (N := 65) hx hb hts inT12 hown hK hP 0 rfl rfl 27 (by decide) (hts _ tw_1912) (fun _ h9 => h9) rfl dX12_newly_240 ?_
                              refine lv_i2l (v := (n_3251).toInt64) hx hb dX12_newly_243 rfl ?_
                              refine lv_topl (fun x_3977 he_x_3977 => ?_)
                              have hq_x_3977 := z_i2l he_x_3977
                              refine lv_lmul hx hb dX12_newly_244 ?_
                              refine lv_topl (fun x_3978 he_x_3978 => ?_)
                              have hq_x_3978 := z_mulql he_x_3978 hkl_16 (rfl : x_3977.toInt = _) (by omega) (by omega)
                              refine va_put (D := G) (ci := 12) (v := .long x_3978) (ty := .long) (C := RX12) (T := TX12) (N := 65) hx hb hts inT12 tyX12 tyX12_ok nmX12 hown hK hP hD hS 0 rfl rfl 34 (by decide) (hts _ tw_1918) (fun _ h9 => h9) rfl (tyX12_ok 34 (by decide)) rfl rfl (Nat.le_of_ble_eq_true rfl) dX12_newly_245 (fun H locs hP hD hS => ?_)
                              refine lv_aload_n hx hb dX12_newly_248 rfl (lv_at hl 1 rfl) ?_
                              refine lv_iconst (v := 1) hx hb dX12_newly_249 (by decide) ?_
                              refine va_put (D := G) (ci := 12) (v := .int 1) (ty := .boolean) (C := RX12) (T := TX12) (N := 65) hx hb hts inT12 tyX12 tyX12_ok nmX12 hown hK hP hD hS 0 rfl rfl 32 (by decide) (hts _ tw_1916) (fun _ h9 => h9) rfl (tyX12_ok 32 (by decide)) rfl rfl (Nat.le_of_ble_eq_true rfl) dX12_newly_250 (fun H locs hP hD hS => ?_)
                              refine lv_aload_n hx hb dX12_newly_253 rfl (lv_at hl 1 rfl) ?_
                              refine lv_iload_n hx hb dX12_newly_254 rfl (lv_at hl 2 rfl) ?_
                              refine z_callVv (As := [.int k]) (rest := []) (wr := [(a_there, .inl (cA.1 0, 10, .inl n_3252))]) ⟨hx, hb, hml, hown, hts⟩ hK hE hT hP hD hS hA (r_take2 l G cA h0 0 0 m_above m_under a_traySort a_trayMany a_numbers a_tape m_taped m_textEnd m_faultKind m_faultAt m_bad m_badAt m_token m_at m_behind m_number m_letters m_word a_c a_words m_markMany a_there a_tried a_best a_found n_3251 m_foundMany m_orderHow m_orderRing m_orderMany 1 v_3935 x_3978 a_weights a_shared m_random m_truePlace m_trueWay m_seconds m_done m_feelings m_tries m_leftOver m_playDoor m_playRing m_isOpen m_isOver m_wasTried m_hasPlayed a_feltNow a_last a_kept m_hasSeconds m_hasTurned m_hasRound a_hasFeels a_isOn m_firstAct m_meanTop m_meanBy a_order m_rowMany m_newSteps n_3245 k (by omega) hC_n_3245 ⟨r.toInt, (by omega), zIn_RO hC_g_2434.1 hf_3249 (by omega) (by omega) (by rw [hlk.2.1]; omega) (by omega) (by rw [hlk.1]; omega) (by rw [hlk.1]; omega) (zLike_RO hi_3231 (by omega) (by omega) hC_g_c.1 hro)⟩) lk_RX12_312 ⟨rfl, rfl⟩ ⟨Nat.le_of_ble_eq_true rfl, Nat.le_of_ble_eq_true rfl⟩ 12 rfl rfl rfl [0, 1] [2] rfl rfl (by decide) rfl hl.1 rfl (lv_room (Nat.le_of_ble_eq_true rfl)) dX12_newly_255 ⟨Nat.le_of_ble_eq_true rfl, Nat.le_of_ble_eq_true rfl⟩ (fun u_3981 H locs hw hP hD hS => ?_)
                              obtain ⟨n_3979, rfl⟩ : ∃ z, z = u_3981 := ⟨_, rfl⟩
                              obtain ⟨he_n_3979, hw⟩ := hw
                              obtain ⟨hC_n_3979, hf_3982, hf_3983⟩ := hw
                              have hs_3984 : zHF g_c n_3979 := (zHF_trans hs_3250 hf_3982)
                              have hnl := zLike_trans hi_3231 (zIn_take hC_g_2434 hC_n_3245 hf_3249 (by omega) (by omega) (by rw [hlk.2.1]; omega) (by omega) (by rw [hlk.1]; omega) (by rw [hlk.1]; omega) (zLike_RO hi_3231 (by omega) (by omega) hC_g_c.1 hro) hf_3983) (by omega) (by omega) hC_g_c.1
                              obtain ⟨x_3985, he_x_3985⟩ : ∃ z : Int32, z = v_2428 + 1 := ⟨_, rfl⟩
                              have hq_x_3985 := z_addq he_x_3985 (rfl : v_2428.toInt = _) hk_1 (by omega) (by omega)
                              refine lv_iinc (v := x_3985) (lv' := [(5, .int x_3985), (4, .int v_2428), (0, .ref h0), (1, .int k), (2, .int r), (3, .int d), (6, .long v_3935), (8, .int v_3936)]) hx hb dX12_newly_258 hl (k := 5) rfl ((z_ofi (by decide +kernel)).trans he_x_3985.symm) (by decide) rfl (fun ls hl => ?_)
                              refine lv_goto (tgt := 110) hx hb dX12_newly_261 (by decide) ?_
                              exact ih_3235 v_2428 x_3985 n_3252 n_3251 1 v_3935 x_3978 n_3979 H locs ls (by omega) (by omega) (by omega) hC_n_3252 hr_n_3251 (Or.inr rfl) (by decide +kernel) hC_n_3979 hs_3984 hnl (by omega) (by omega) hP hD hS (lv_sub hl [2, 3, 4, 5, 1, 0] rfl)
                            · have b_3986 := z_fneF c_3975
                              refine lv_lload hx hb dX12_newly_215 (lv_at hl 6 rfl) ?_
                              refine lv_aload_n hx hb dX12_newly_217 rfl (lv_at hl 0 rfl) ?_
                              refine va_get (D := G) (ci := 12) (v := .long v_2432) (C := RX12) (T := TX12) (N := 65) hx hb hts inT12 hown hK hP 0 rfl rfl 33 (by decide) (hts _ tw_1917) (fun _ h9 => h9) rfl dX12_newly_218 ?_
                              refine W.lcmp hx hb dX12_newly_221 ?_
                              refine lv_if_ge (tgt := 248) hx hb dX12_newly_222 (by decide) (fun c_3987 => ?_) (fun c_3987 => ?_)
                              · have b_3988 := z_fgeTl c_3987
                                refine lv_aload_n hx hb dX12_newly_248 rfl (lv_at hl 0 rfl) ?_
                                refine lv_iconst (v := 1) hx hb dX12_newly_249 (by decide) ?_
                                refine va_put (D := G) (ci := 12) (v := .int 1) (ty := .boolean) (C := RX12) (T := TX12) (N := 65) hx hb hts inT12 tyX12 tyX12_ok nmX12 hown hK hP hD hS 0 rfl rfl 32 (by decide) (hts _ tw_1916) (fun _ h9 => h9) rfl (tyX12_ok 32 (by decide)) rfl rfl (Nat.le_of_ble_eq_true rfl) dX12_newly_250 (fun H locs hP hD hS => ?_)
                                refine lv_aload_n hx hb dX12_newly_253 rfl (lv_at hl 0 rfl) ?_
                                refine lv_iload_n hx hb dX12_newly_254 rfl (lv_at hl 1 rfl) ?_
                                refine z_callVv (As := [.int k]) (rest := []) (wr := [(a_there, .inl (cA.1 0, 10, .inl n_3252))]) ⟨hx, hb, hml, hown, hts⟩ hK hE hT hP hD hS hA (r_take2 l G cA h0 0 0 m_above m_under a_traySort a_trayMany a_numbers a_tape m_taped m_textEnd m_faultKind m_faultAt m_bad m_badAt m_token m_at m_behind m_number m_letters m_word a_c a_words m_markMany a_there a_tried a_best a_found n_3251 m_foundMany m_orderHow m_orderRing m_orderMany 1 v_2432 v_2433 a_weights a_shared m_random m_truePlace m_trueWay m_seconds m_done m_feelings m_tries m_leftOver m_playDoor m_playRing m_isOpen m_isOver m_wasTried m_hasPlayed a_feltNow a_last a_kept m_hasSeconds m_hasTurned m_hasRound a_hasFeels a_isOn m_firstAct m_meanTop m_meanBy a_order m_rowMany m_newSteps n_3245 k (by omega) hC_n_3245 ⟨r.toInt, (by omega), zIn_RO hC_g_2434.1 hf_3249 (by omega) (by omega) (by rw [hlk.2.1]; omega) (by omega) (by rw [hlk.1]; omega) (by rw [hlk.1]; omega) (zLike_RO hi_3231 (by omega) (by omega) hC_g_c.1 hro)⟩) lk_RX12_312 ⟨rfl, rfl⟩ ⟨Nat.le_of_ble_eq_true rfl, Nat.le_of_ble_eq_true rfl⟩ 12 rfl rfl rfl [0, 1] [2] rfl rfl (by decide) rfl hl.1 rfl (lv_room (Nat.le_of_ble_eq_true rfl)) dX12_newly_255 ⟨Nat.le_of_ble_eq_true rfl, Nat.le_of_ble_eq_true rfl⟩ (fun u_3991 H locs hw hP hD hS => ?_)
                                obtain ⟨n_3989, rfl⟩ : ∃ z, z = u_3991 := ⟨_, rfl⟩
                                obtain ⟨he_n_3989, hw⟩ := hw
                                obtain ⟨hC_n_3989, hf_3992, hf_3993⟩ := hw
                                have hs_3994 : zHF g_c n_3989 := (zHF_trans hs_3250 hf_3992)
                                have hnl := zLike_trans hi_3231 (zIn_take hC_g_2434 hC_n_3245 hf_3249 (by omega) (by omega) (by rw [hlk.2.1]; omega) (by omega) (by rw [hlk.1]; omega) (by rw [hlk.1]; omega) (zLike_RO hi_3231 (by omega) (by omega) hC_g_c.1 hro) hf_3993) (by omega) (by omega) hC_g_c.1
                                obtain ⟨x_3995, he_x_3995⟩ : ∃ z : Int32, z = v_2428 + 1 := ⟨_, rfl⟩
                                have hq_x_3995 := z_addq he_x_3995 (rfl : v_2428.toInt = _) hk_1 (by omega) (by omega)
                                refine lv_iinc (v := x_3995) (lv' := [(5, .int x_3995), (0, .ref h0), (1, .int k), (2, .int r), (3, .int d), (4, .int v_2427), (6, .long v_3935), (8, .int v_3936)]) hx hb dX12_newly_258 hl (k := 5) rfl ((z_ofi (by decide +kernel)).trans he_x_3995.symm) (by decide) rfl (fun ls hl => ?_)
                                refine lv_goto (tgt := 110) hx hb dX12_newly_261 (by decide) ?_
                                exact ih_3235 v_2427 x_3995 n_3252 n_3251 1 v_2432 v_2433 n_3989 H locs ls (by omega) hr_v_2427 (by omega) hC_n_3252 hr_n_3251 (Or.inr rfl) (by decide +kernel) hC_n_3989 hs_3994 hnl (by omega) (by omega) hP hD hS (lv_sub hl [1, 2, 3, 4, 5, 0] rfl)
                              · have b_3996 := z_fltFl c_3987
                                refine lv_iload hx hb dX12_newly_225 (lv_at hl 5 rfl) ?_
                                refine lv_istore (lv' := [(4, .int v_2428), (0, .ref h0), (1, .int k), (2, .int r), (3, .int d), (5, .int v_2428), (6, .long v_3935), (8, .int v_3936)]) hx hb dX12_newly_227 hl (by decide) rfl (fun ls hl => ?_)
                                refine lv_aload_n hx hb dX12_newly_229 rfl (lv_at hl 1 rfl) ?_
                                refine lv_lload hx hb dX12_newly_230 (lv_at hl 6 rfl) ?_
                                refine va_put (D := G) (ci := 12) (v := .long v_3935) (ty := .long) (C := RX12) (T := TX12) (N := 65) hx hb hts inT12 tyX12 tyX12_ok nmX12 hown hK hP hD hS 0 rfl rfl 33 (by decide) (hts _ tw_1917) (fun _ h9 => h9) rfl (tyX12_ok 33 (by decide)) rfl rfl (Nat.le_of_ble_eq_true rfl) dX12_newly_232 (fun H locs hP hD hS => ?_)
                                refine lv_aload_n hx hb dX12_newly_235 rfl (lv_at hl 1 rfl) ?_
                                refine lv_ldc2 (v := 16) hx hb hown (hts _ tw_2470) dX12_newly_236 ?_
                                refine lv_aload_n hx hb dX12_newly_239 rfl (lv_at hl 1 rfl) ?_
                                refine va_get (D := G) (ci := 12) (v := .int n_3251) (C := RX12) (T := TX12) (N := 65) hx hb hts inT12 hown hK hP 0 rfl rfl 27 (by decide) (hts _ tw_1912) (fun _ h9 => h9) rfl dX12_newly_240 ?_
                                refine lv_i2l (v := (n_3251).toInt64) hx hb dX12_newly_243 rfl ?_
                                refine lv_topl (fun x_3997 he_x_3997 => ?_)
                                have hq_x_3997 := z_i2l he_x_3997
                                refine lv_lmul hx hb dX12_newly_244 ?_
                                refine lv_topl (fun x_3998 he_x_3998 => ?_)
                                have hq_x_3998 := z_mulql he_x_3998 hkl_16 (rfl : x_3997.toInt = _) (by omega) (by omega)
                                refine va_put (D := G) (ci := 12) (v := .long x_3998) (ty := .long) (C := RX12) (T := TX12) (N := 65) hx hb hts inT12 tyX12 tyX12_ok nmX12 hown hK hP hD hS 0 rfl rfl 34 (by decide) (hts _ tw_1918) (fun _ h9 => h9) rfl (tyX12_ok 34 (by decide)) rfl rfl (Nat.le_of_ble_eq_true rfl) dX12_newly_245 (fun H locs hP hD hS => ?_)
                                refine lv_aload_n hx hb dX12_newly_248 rfl (lv_at hl 1 rfl) ?_
                                refine lv_iconst (v := 1) hx hb dX12_newly_249 (by decide) ?_
                                refine va_put (D := G) (ci := 12) (v := .int 1) (ty := .boolean) (C := RX12) (T := TX12) (N := 65) hx hb hts inT12 tyX12 tyX12_ok nmX12 hown hK hP hD hS 0 rfl rfl 32 (by decide) (hts _ tw_1916) (fun _ h9 => h9) rfl (tyX12_ok 32 (by decide)) rfl rfl (Nat.le_of_ble_eq_true rfl) dX12_newly_250 (fun H locs hP hD hS => ?_)
                                refine lv_aload_n hx hb dX12_newly_253 rfl (lv_at hl 1 rfl) ?_
                                refine lv_iload_n hx hb dX12_newly_254 rfl (lv_at hl 2 rfl) ?_
                                refine z_callVv (As := [.int k]) (rest := []) (wr := [(a_there, .inl (cA.1 0, 10, .inl n_3252))]) ⟨hx, hb, hml, hown, hts⟩ hK hE hT hP hD hS hA (r_take2 l G cA h0 0 0 m_above m_under a_traySort a_trayMany a_numbers a_tape m_taped m_textEnd m_faultKind m_faultAt m_bad m_badAt m_token m_at m_behind m_number m_letters m_word a_c a_words m_markMany a_there a_tried a_best a_found n_3251 m_foundMany m_orderHow m_orderRing m_orderMany 1 v_3935 x_3998 a_weights a_shared m_random m_truePlace m_trueWay m_seconds m_done m_feelings m_tries m_leftOver m_playDoor m_playRing m_isOpen m_isOver m_wasTried m_hasPlayed a_feltNow a_last a_kept m_hasSeconds m_hasTurned m_hasRound a_hasFeels a_isOn m_firstAct m_meanTop m_meanBy a_order m_rowMany m_newSteps n_3245 k (by omega) hC_n_3245 ⟨r.toInt, (by omega), zIn_RO hC_g_2434.1 hf_3249 (by omega) (by omega) (by rw [hlk.2.1]; omega) (by omega) (by rw [hlk.1]; omega) (by rw [hlk.1]; omega) (zLike_RO hi_3231 (by omega) (by omega) hC_g_c.1 hro)⟩) lk_RX12_312 ⟨rfl, rfl⟩ ⟨Nat.le_of_ble_eq_true rfl, Nat.le_of_ble_eq_true rfl⟩ 12 rfl rfl rfl [0, 1] [2] rfl rfl (by decide) rfl hl.1 rfl (lv_room (Nat.le_of_ble_eq_true rfl)) dX12_newly_255 ⟨Nat.le_of_ble_eq_true rfl, Nat.le_of_ble_eq_true rfl⟩ (fun u_4001 H locs hw hP hD hS => ?_)
                                obtain ⟨n_3999, rfl⟩ : ∃ z, z = u_4001 := ⟨_, rfl⟩
                                obtain ⟨he_n_3999, hw⟩ := hw
                                obtain ⟨hC_n_3999, hf_4002, hf_4003⟩ := hw
                                have hs_4004 : zHF g_c n_3999 := (zHF_trans hs_3250 hf_4002)
                                have hnl := zLike_trans hi_3231 (zIn_take hC_g_2434 hC_n_3245 hf_3249 (by omega) (by omega) (by rw [hlk.2.1]; omega) (by omega) (by rw [hlk.1]; omega) (by rw [hlk.1]; omega) (zLike_RO hi_3231 (by omega) (by omega) hC_g_c.1 hro) hf_4003) (by omega) (by omega) hC_g_c.1
                                obtain ⟨x_4005, he_x_4005⟩ : ∃ z : Int32, z = v_2428 + 1 := ⟨_, rfl⟩
                                have hq_x_4005 := z_addq he_x_4005 (rfl : v_2428.toInt = _) hk_1 (by omega) (by omega)
                                refine lv_iinc (v := x_4005) (lv' := [(5, .int x_4005), (4, .int v_2428), (0, .ref h0), (1, .int k), (2, .int r), (3, .int d), (6, .long v_3935), (8, .int v_3936)]) hx hb dX12_newly_258 hl (k := 5) rfl ((z_ofi (by decide +kernel)).trans he_x_4005.symm) (by decide) rfl (fun ls hl => ?_)
                                refine lv_goto (tgt := 110) hx hb dX12_newly_261 (by decide) ?_
                                exact ih_3235 v_2428 x_4005 n_3252 n_3251 1 v_3935 x_3998 n_3999 H locs ls (by omega) (by omega) (by omega) hC_n_3252 hr_n_3251 (Or.inr rfl) (by decide +kernel) hC_n_3999 hs_4004 hnl (by omega) (by omega) hP hD hS (lv_sub hl [2, 3, 4, 5, 1, 0] rfl)
                          · have b_4006 := z_fltF c_3973
                            refine lv_lload hx hb dX12_newly_154 (lv_at hl 6 rfl) ?_
                            refine lv_iload hx hb dX12_newly_156 (lv_at hl 7 rfl) ?_
                            refine lv_iconst (v := 2) hx hb dX12_newly_158 (by decide) ?_
                            refine lv_irem hx hb dX12_newly_159 (by decide +kernel) ?_
                            refine lv_topi (fun x_4007 he_x_4007 => ?_)
                            have hq_x_4007 := z_remq he_x_4007 (rfl : v_3936.toInt = _) hk_2 (by omega) (by decide)
                            refine lv_if_ne (tgt := 176) hx hb dX12_newly_160 (by decide) (fun c_4008 => ?_) (fun c_4008 => ?_)
                            · have b_4009 := z_fneT c_4008
                              refine lv_aload_n hx hb dX12_newly_176 rfl (lv_at hl 0 rfl) ?_
                              refine va_get (D := G) (ci := 12) (v := .ref a_c) (C := RX12) (T := TX12) (N := 65) hx hb hts inT12 hown hK hP 0 rfl rfl 20 (by decide) (hts _ tw_1905) (fun _ h9 => h9) rfl dX12_newly_177 ?_
                              refine lv_bipush (v := 9) hx hb dX12_newly_180 (by decide) ?_
                              refine va_iald hx hb hK hP 1 0 rfl rfl (z_in (i := 9) (n := 1825) (by decide +kernel) (by decide +kernel)) dX12_newly_182 ?_
                              refine lv_topi (fun x_4010 he_x_4010 => ?_)
                              have hr_x_4010 := z_ctk hC_n_3245 he_x_4010 (k := 9) (lo := 0) (hi := 16) (by decide +kernel) (by decide +kernel) (by decide +kernel)
                              refine lv_i2l (v := (x_4010).toInt64) hx hb dX12_newly_183 rfl ?_
                              refine lv_topl (fun x_4011 he_x_4011 => ?_)
                              have hq_x_4011 := z_i2l he_x_4011
                              refine lv_aload_n hx hb dX12_newly_184 rfl (lv_at hl 0 rfl) ?_
                              refine lv_iload_n hx hb dX12_newly_185 rfl (lv_at hl 3 rfl) ?_
                              refine lv_iload hx hb dX12_newly_186 (lv_at hl 7 rfl) ?_
                              refine lv_iconst (v := 2) hx hb dX12_newly_188 (by decide) ?_
                              refine lv_idiv hx hb dX12_newly_189 (by decide +kernel) ?_
                              refine lv_topi (fun x_4012 he_x_4012 => ?_)
                              have hq_x_4012 := z_divq he_x_4012 (rfl : v_3936.toInt = _) hk_2 (by omega) (by decide)
                              refine lv_iload hx hb dX12_newly_190 (lv_at hl 7 rfl) ?_
                              refine lv_iconst (v := 2) hx hb dX12_newly_192 (by decide) ?_
                              refine lv_irem hx hb dX12_newly_193 (by decide +kernel) ?_
                              refine lv_topi (fun x_4013 he_x_4013 => ?_)
                              have hq_x_4013 := z_remq he_x_4013 (rfl : v_3936.toInt = _) hk_2 (by omega) (by decide)
                              refine z_callVi (As := [.int d, .int x_4012, .int x_4013]) (rest := [.long x_4011, .long v_3935]) (wr := []) ⟨hx, hb, hml, hown, hts⟩ hK hE hT hP hD hS hA (r_search l G cA h0 0 0 m_above m_under a_traySort a_trayMany a_numbers a_tape m_taped m_textEnd m_faultKind m_faultAt m_bad m_badAt m_token m_at m_behind m_number m_letters m_word a_c a_words m_markMany a_there a_tried a_best a_found n_3251 m_foundMany m_orderHow m_orderRing m_orderMany v_2431 v_2432 v_2433 a_weights a_shared m_random m_truePlace m_trueWay m_seconds m_done m_feelings m_tries m_leftOver m_playDoor m_playRing m_isOpen m_isOver m_wasTried m_hasPlayed a_feltNow a_last a_kept m_hasSeconds m_hasTurned m_hasRound a_hasFeels a_isOn m_firstAct m_meanTop m_meanBy a_order m_rowMany m_newSteps n_3245 n_3252 d x_4012 x_4013 (by omega) (by omega) (by omega) hr_n_3251 hC_n_3245 hC_n_3252 (by omega)) lk_RX12_387 ⟨rfl, rfl⟩ ⟨Nat.le_of_ble_eq_true rfl, Nat.le_of_ble_eq_true rfl⟩ 12 rfl rfl rfl [0, 1, 2] [] rfl rfl (by decide) rfl hl.1 rfl (lv_room (Nat.le_of_ble_eq_true rfl)) dX12_newly_194 ⟨Nat.le_of_ble_eq_true rfl, Nat.le_of_ble_eq_true rfl⟩ (fun r_4014 u_4015 H locs hw hP hD hS => ?_)
                              obtain ⟨he_r_4014, hw⟩ := hw
                              obtain ⟨hr_r_4014, hf_4016, hf_4017⟩ := hw
                              refine lv_i2l (v := (r_4014).toInt64) hx hb dX12_newly_197 rfl ?_
                              refine lv_topl (fun x_4018 he_x_4018 => ?_)
                              have hq_x_4018 := z_i2l he_x_4018
                              refine lv_lmul hx hb dX12_newly_198 ?_
                              refine lv_topl (fun x_4019 he_x_4019 => ?_)
                              refine lv_ladd hx hb dX12_newly_199 ?_
                              have hL_v_3935 := z_fulll v_3935
                              have hL_x_4019 := z_fulll x_4019
                              refine lv_topl (fun x_4020 he_x_4020 => ?_)
                              refine lv_lstore (lv' := [(6, .long x_4020), (0, .ref h0), (1, .int k), (2, .int r), (3, .int d), (4, .int v_2427), (5, .int v_2428), (8, .int v_3936)]) hx hb dX12_newly_200 hl (by decide) rfl (fun ls hl => ?_)
                              obtain ⟨x_4021, he_x_4021⟩ : ∃ z : Int32, z = v_3936 + 1 := ⟨_, rfl⟩
                              have hq_x_4021 := z_addq he_x_4021 (rfl : v_3936.toInt = _) hk_1 (by omega) (by omega)
                              refine lv_iinc (v := x_4021) (lv' := [(8, .int x_4021), (6, .long x_4020), (0, .ref h0), (1, .int k), (2, .int r), (3, .int d), (4, .int v_2427), (5, .int v_2428)]) hx hb dX12_newly_202 hl (k := 7) rfl ((z_ofi (by decide +kernel)).trans he_x_4021.symm) (by decide) rfl (fun ls hl => ?_)
                              refine lv_goto (tgt := 143) hx hb dX12_newly_205 (by decide) ?_
                              exact ih_3971 x_4020 x_4021 H locs ls (by omega) (by omega) hP hD hS (lv_sub hl [2, 3, 4, 5, 6, 7, 1, 0] rfl)
                            · have b_4022 := z_feqF c_4008
                              refine lv_bipush (v := 16) hx hb dX12_newly_163 (by decide) ?_
                              refine lv_aload_n hx hb dX12_newly_165 rfl (lv_at hl 0 rfl) ?_
                              refine va_get (D := G) (ci := 12) (v := .ref a_c) (C := RX12) (T := TX12) (N := 65) hx hb hts inT12 hown hK hP 0 rfl rfl 20 (by decide) (hts _ tw_1905) (fun _ h9 => h9) rfl dX12_newly_166 ?_
                              refine lv_bipush (v := 9) hx hb dX12_newly_169 (by decide) ?_
                              refine va_iald hx hb hK hP 1 0 rfl rfl (z_in (i := 9) (n := 1825) (by decide +kernel) (by decide +kernel)) dX12_newly_171 ?_
                              refine lv_topi (fun x_4023 he_x_4023 => ?_)
                              have hr_x_4023 := z_ctk hC_n_3245 he_x_4023 (k := 9) (lo := 0) (hi := 16) (by decide +kernel) (by decide +kernel) (by decide +kernel)
                              refine lv_isub hx hb dX12_newly_172 ?_
                              refine lv_topi (fun x_4024 he_x_4024 => ?_)
                              have hq_x_4024 := z_subq he_x_4024 hk_16 (rfl : x_4023.toInt = _) (by omega) (by omega)
                              refine lv_goto (tgt := 183) hx hb dX12_newly_173 (by decide) ?_
                              refine lv_i2l (v := (x_4024).toInt64) hx hb dX12_newly_183 rfl ?_
                              refine lv_topl (fun x_4025 he_x_4025 => ?_)
                              have hq_x_4025 := z_i2l he_x_4025
                              refine lv_aload_n hx hb dX12_newly_184 rfl (lv_at hl 0 rfl) ?_
                              refine lv_iload_n hx hb dX12_newly_185 rfl (lv_at hl 3 rfl) ?_
                              refine lv_iload hx hb dX12_newly_186 (lv_at hl 7 rfl) ?_
                              refine lv_iconst (v := 2) hx hb dX12_newly_188 (by decide) ?_
                              refine lv_idiv hx hb dX12_newly_189 (by decide +kernel) ?_
                              refine lv_topi (fun x_4026 he_x_4026 => ?_)
                              have hq_x_4026 := z_divq he_x_4026 (rfl : v_3936.toInt = _) hk_2 (by omega) (by decide)
                              refine lv_iload hx hb dX12_newly_190 (lv_at hl 7 rfl) ?_
                              refine lv_iconst (v := 2) hx hb dX12_newly_192 (by decide) ?_
                              refine lv_irem hx hb dX12_newly_193 (by decide +kernel) ?_
                              refine lv_topi (fun x_4027 he_x_4027 => ?_)
                              have hq_x_4027 := z_remq he_x_4027 (rfl : v_3936.toInt = _) hk_2 (by omega) (by decide)
                              refine z_callVi (As := [.int d, .int x_4026, .int x_4027]) (rest := [.long x_4025, .long v_3935]) (wr := []) ⟨hx, hb, hml, hown, hts⟩ hK hE hT hP hD hS hA (r_search l G cA h0 0 0 m_above m_under a_traySort a_trayMany a_numbers a_tape m_taped m_textEnd m_faultKind m_faultAt m_bad m_badAt m_token m_at m_behind m_number m_letters m_word a_c a_words m_markMany a_there a_tried a_best a_found n_3251 m_foundMany m_orderHow m_orderRing m_orderMany v_2431 v_2432 v_2433 a_weights a_shared m_random m_truePlace m_trueWay m_seconds m_done m_feelings m_tries m_leftOver m_playDoor m_playRing m_isOpen m_isOver m_wasTried m_hasPlayed a_feltNow a_last a_kept m_hasSeconds m_hasTurned m_hasRound a_hasFeels a_isOn m_firstAct m_meanTop m_meanBy a_order m_rowMany m_newSteps n_3245 n_3252 d x_4026 x_4027 (by omega) (by omega) (by omega) hr_n_3251 hC_n_3245 hC_n_3252 (by omega)) lk_RX12_387 ⟨rfl, rfl⟩ ⟨Nat.le_of_ble_eq_true rfl, Nat.le_of_ble_eq_true rfl⟩ 12 rfl rfl rfl [0, 1, 2] [] rfl rfl (by decide) rfl hl.1 rfl (lv_room (Nat.le_of_ble_eq_true rfl)) dX12_newly_194 ⟨Nat.le_of_ble_eq_true rfl, Nat.le_of_ble_eq_true rfl⟩ (fun r_4028 u_4029 H locs hw hP hD hS => ?_)
                              obtain ⟨he_r_4028, hw⟩ := hw
                              obtain ⟨hr_r_4028, hf_4030, hf_4031⟩ := hw
                              refine lv_i2l (v := (r_4028).toInt64) hx hb dX12_newly_197 rfl ?_
                              refine lv_topl (fun x_4032 he_x_4032 => ?_)
                              have hq_x_4032 := z_i2l he_x_4032
                              refine lv_lmul hx hb dX12_newly_198 ?_
                              refine lv_topl (fun x_4033 he_x_4033 => ?_)
                              refine lv_ladd hx hb dX12_newly_199 ?_
                              have hL_v_3935 := z_fulll v_3935
                              have hL_x_4033 := z_fulll x_4033
                              refine lv_topl (fun x_4034 he_x_4034 => ?_)
                              refine lv_lstore (lv' := [(6, .long x_4034), (0, .ref h0), (1, .int k), (2, .int r), (3, .int d), (4, .int v_2427), (5, .int v_2428), (8, .int v_3936)]) hx hb dX12_newly_200 hl (by decide) rfl (fun ls hl => ?_)
                              obtain ⟨x_4035, he_x_4035⟩ : ∃ z : Int32, z = v_3936 + 1 := ⟨_, rfl⟩
                              have hq_x_4035 := z_addq he_x_4035 (rfl : v_3936.toInt = _) hk_1 (by omega) (by omega)
                              refine lv_iinc (v := x_4035) (lv' := [(8, .int x_4035), (6, .long x_4034), (0, .ref h0), (1, .int k), (2, .int r), (3, .int d), (4, .int v_2427), (5, .int v_2428)]) hx hb dX12_newly_202 hl (k := 7) rfl ((z_ofi (by decide +kernel)).trans he_x_4035.symm) (by decide) rfl (fun ls hl => ?_)
                              refine lv_goto (tgt := 143) hx hb dX12_newly_205 (by decide) ?_
                              exact ih_3971 x_4034 x_4035 H locs ls (by omega) (by omega) hP hD hS (lv_sub hl [2, 3, 4, 5, 6, 7, 1, 0] rfl)
                      exact hlp_3970 _ 0 0 _ _ _ (Nat.lt_succ_self _) (by decide +kernel) hP hD hS (lv_sub hl [2, 3, 4, 5, 6, 7, 1, 0] rfl)
                exact hlp_3234 _ 0 0 n_37 n_36 0 m_bestTop m_bestBy g_c _ _ _ (Nat.lt_succ_self _) (by decide +kernel) (by decide +kernel) hC_n_37 hr_n_36 (Or.inl rfl) (by decide +kernel) hC_g_c (zHF_refl g_c) (zLike_refl _) (by omega) (by omega) hP hD hS (lv_sub hl [2, 3, 4, 5, 1, 0] rfl)
            · skip
              refine lv_if_ne (tgt := 99) hx hb dX12_newly_80 (by decide) (fun _ => ?_) (fun h9 => absurd h9 (by decide +kernel))
              refine lv_iconst (v := 0) hx hb dX12_newly_99 (by decide) ?_
              refine lv_istore (lv' := [(4, .int 0), (0, .ref h0), (1, .int k), (2, .int r), (3, .int d)]) hx hb dX12_newly_100 hl (by decide) rfl (fun ls hl => ?_)
              refine lv_aload_n hx hb dX12_newly_102 rfl (lv_at hl 1 rfl) ?_
              refine lv_iconst (v := 0) hx hb dX12_newly_103 (by decide) ?_
              refine va_put (D := G) (ci := 12) (v := .int 0) (ty := .boolean) (C := RX12) (T := TX12) (N := 65) hx hb hts inT12 tyX12 tyX12_ok nmX12 hown hK hP hD hS 0 rfl rfl 32 (by decide) (hts _ tw_1916) (fun _ h9 => h9) rfl (tyX12_ok 32 (by decide)) rfl rfl (Nat.le_of_ble_eq_true rfl) dX12_newly_104 (fun H locs hP hD hS => ?_)
              have hro := zRO_neg hf_25 (by omega)
              have hS9 : (g_c (95 + r.toInt.toNat)).toInt ≤ 9 := zRoom hC_g_c (by omega) (by omega) (by omega) (by omega) (by omega) (zRO_noring hro (by omega) (by omega))
              have hln : (g_c (150 + k.toInt.toNat)).toInt ≠ 1 := by rw [← hlen_x_33]; omega
              refine lv_iconst (v := 0) hx hb dX12_newly_107 (by decide) ?_
              refine lv_istore (lv' := [(5, .int 0), (4, .int 0), (0, .ref h0), (1, .int k), (2, .int r), (3, .int d)]) hx hb dX12_newly_108 hl (by decide) rfl (fun ls hl => ?_)
              have hlp_7219 : ∀ (n : Nat) (v_6412 : Int32) (v_6413 : Int32) (v_6414 : Int32) (v_6415 : Int32) (v_6416 : Int64) (v_6417 : Int64) (g_6418 : Nat → Int32) (g_6419 : Nat → Int32) (H : Heap) (locs : List Loc) (ls : Array Slot), (2147483647 - v_6413.toInt).toNat < n → (0 ≤ v_6412.toInt ∧ v_6412.toInt ≤ 9) → (0 ≤ v_6413.toInt ∧ v_6413.toInt ≤ 10) → (0 ≤ v_6414.toInt ∧ v_6414.toInt ≤ 10) → (v_6415 = 0 ∨ v_6415 = 1) → (0 ≤ v_6415.toInt ∧ v_6415.toInt ≤ 1) → (zC g_6418) → (zRg 10 0 9 g_6419) → (zHF g_c g_6418) → (zLike g_c g_6418 r.toInt) → (v_6413.toInt ≤ 0 ∨ v_6415.toInt = 1) → (v_6415.toInt ≤ 0 ∨ 1 ≤ v_6417.toInt) → va_P G vwCl [(h0, .inr (12, [.int 0, .int 0, .long m_above, .long m_under, .ref a_traySort, .ref a_trayMany, .ref a_numbers, .ref a_tape, .int m_taped, .int m_textEnd, .int m_faultKind, .int m_faultAt, .int m_bad, .int m_badAt, .int m_token, .int m_at, .int m_behind, .int m_number, .int m_letters, .long m_word, .ref a_c, .ref a_words, .int m_markMany, .ref a_there, .ref a_tried, .ref a_best, .ref a_found, .int v_6414, .int m_foundMany, .int m_orderHow, .int m_orderRing, .int m_orderMany, .int v_6415, .long v_6416, .long v_6417, .ref a_weights, .ref a_shared, .int m_random, .int m_truePlace, .int m_trueWay, .int m_seconds, .int m_done, .int m_feelings, .int m_tries, .int m_leftOver, .int m_playDoor, .int m_playRing, .int m_isOpen, .int m_isOver, .int m_wasTried, .int m_hasPlayed, .ref a_feltNow, .ref a_last, .ref a_kept, .int m_hasSeconds, .int m_hasTurned, .int m_hasRound, .ref a_hasFeels, .ref a_isOn, .int m_firstAct, .long m_meanTop, .long m_meanBy, .ref a_order, .int m_rowMany, .int m_newSteps])), (a_c, .inl (cA.1 0, 1825, .inl g_6418)), (a_there, .inl (cA.1 0, 10, .inl g_6419))] H → va_D A [(h0, .inr (12, [.int 0, .int 0, .long m_above, .long m_under, .ref a_traySort, .ref a_trayMany, .ref a_numbers, .ref a_tape, .int m_taped, .int m_textEnd, .int m_faultKind, .int m_faultAt, .int m_bad, .int m_badAt, .int m_token, .int m_at, .int m_behind, .int m_number, .int m_letters, .long m_word, .ref a_c, .ref a_words, .int m_markMany, .ref a_there, .ref a_tried, .ref a_best, .ref a_found, .int v_6414, .int m_foundMany, .int m_orderHow, .int m_orderRing, .int m_orderMany, .int v_6415, .long v_6416, .long v_6417, .ref a_weights, .ref a_shared, .int m_random, .int m_truePlace, .int m_trueWay, .int m_seconds, .int m_done, .int m_feelings, .int m_tries, .int m_leftOver, .int m_playDoor, .int m_playRing, .int m_isOpen, .int m_isOver, .int m_wasTried, .int m_hasPlayed, .ref a_feltNow, .ref a_last, .ref a_kept, .int m_hasSeconds, .int m_hasTurned, .int m_hasRound, .ref a_hasFeels, .ref a_isOn, .int m_firstAct, .long m_meanTop, .long m_meanBy, .ref a_order, .int m_rowMany, .int m_newSteps])), (a_c, .inl (cA.1 0, 1825, .inl g_6418)), (a_there, .inl (cA.1 0, 10, .inl g_6419))] → va_S A s.heap H locs → lv_has ls 9 [(0, .ref h0), (1, .int k), (2, .int r), (3, .int d), (4, .int v_6412), (5, .int v_6413)] → W p l e ({ frames := 3, cells := 0, slots := 0, locals := 69 }) s m args below meth c H locs 0 0 Q (F0 m 110 ls []) := by
                intro n
                induction n with
                | zero =>
                  intro v_6412 v_6413 v_6414 v_6415 v_6416 v_6417 g_6418 g_6419 H locs ls hmu_hlp_7219 hr_v_6412 hr_v_6413 hr_v_6414 hz_v_6415 hr_v_6415 hC_g_6418 hC_g_6419 hs_7215 hi_7216 hi_7217 hi_7218 hP hD hS hl
                  exact absurd hmu_hlp_7219 (Nat.not_lt_zero _)
                | succ n ih_7220 =>
                  intro v_6412 v_6413 v_6414 v_6415 v_6416 v_6417 g_6418 g_6419 H locs ls hmu_hlp_7219 hr_v_6412 hr_v_6413 hr_v_6414 hz_v_6415 hr_v_6415 hC_g_6418 hC_g_6419 hs_7215 hi_7216 hi_7217 hi_7218 hP hD hS hl
                  refine lv_iload hx hb dX12_newly_110 (lv_at hl 5 rfl) ?_
                  refine lv_aload_n hx hb dX12_newly_112 rfl (lv_at hl 0 rfl) ?_
                  refine va_get (D := G) (ci := 12) (v := .ref a_c) (C := RX12) (T := TX12) (N := 65) hx hb hts inT12 hown hK hP 0 rfl rfl 20 (by decide) (hts _ tw_1905) (fun _ h9 => h9) rfl dX12_newly_113 ?_
                  refine lv_bipush (v := 95) hx hb dX12_newly_116 (by decide) ?_
                  refine lv_iload_n hx hb dX12_newly_118 rfl (lv_at hl 2 rfl) ?_
                  refine lv_iadd hx hb dX12_newly_119 ?_
                  refine lv_topi (fun x_7221 he_x_7221 => ?_)
                  have hq_x_7221 := z_addq he_x_7221 hk_95 (rfl : r.toInt = _) (by omega) (by omega)
                  refine va_iald hx hb hK hP 1 0 rfl rfl (z_inN (by omega) (by omega)) dX12_newly_120 ?_
                  refine lv_topi (fun x_7222 he_x_7222 => ?_)
                  have hr_x_7222 := z_ct hC_g_6418 he_x_7222 (a := 95) (b := 97) (lo := 0) (hi := 10) (by decide +kernel) (by decide) (by omega) (by omega)
                  have hlk := zLike_sz hi_7216 (by omega) (by omega) hC_g_c.1
                  have hyS : x_7222.toInt = (g_c (95 + r.toInt.toNat)).toInt := by rw [z_at he_x_7222 (a := 95 + r.toInt.toNat) (by omega), hlk.1]
                  have hy9 : 0 ≤ x_7222.toInt ∧ x_7222.toInt ≤ 9 := by omega
                  refine lv_icmp_gt (tgt := 264) hx hb dX12_newly_121 (by decide) (fun c_7223 => ?_) (fun c_7223 => ?_)
                  · have b_7224 := z_fgtT c_7223
                    refine lv_aload_n hx hb dX12_newly_264 rfl (lv_at hl 0 rfl) ?_
                    refine lv_aload_n hx hb dX12_newly_265 rfl (lv_at hl 0 rfl) ?_
                    refine va_get (D := G) (ci := 12) (v := .long v_6416) (C := RX12) (T := TX12) (N := 65) hx hb hts inT12 hown hK hP 0 rfl rfl 33 (by decide) (hts _ tw_1917) (fun _ h9 => h9) rfl dX12_newly_266 ?_
                    refine lv_aload_n hx hb dX12_newly_269 rfl (lv_at hl 0 rfl) ?_
                    refine va_get (D := G) (ci := 12) (v := .long v_6417) (C := RX12) (T := TX12) (N := 65) hx hb hts inT12 hown hK hP 0 rfl rfl 34 (by decide) (hts _ tw_1918) (fun _ h9 => h9) rfl dX12_newly_270 ?_
                    refine z_callVi (As := [.long v_6416, .long v_6417]) (rest := []) (wr := [(a_c, .inl (cA.1 0, 1825, .inl g_6418)), (a_there, .inl (cA.1 0, 10, .inl g_6419))]) ⟨hx, hb, hml, hown, hts⟩ hK hE hT hP hD hS hA (r_fraction l G cA h0 0 0 m_above m_under a_traySort a_trayMany a_numbers a_tape m_taped m_textEnd m_faultKind m_faultAt m_bad m_badAt m_token m_at m_behind m_number m_letters m_word a_c a_words m_markMany a_there a_tried a_best a_found v_6414 m_foundMany m_orderHow m_orderRing m_orderMany v_6415 v_6416 v_6417 a_weights a_shared m_random m_truePlace m_trueWay m_seconds m_done m_feelings m_tries m_leftOver m_playDoor m_playRing m_isOpen m_isOver m_wasTried m_hasPlayed a_feltNow a_last a_kept m_hasSeconds m_hasTurned m_hasRound a_hasFeels a_isOn m_firstAct m_meanTop m_meanBy a_order m_rowMany m_newSteps v_6416 v_6417 (by omega)) lk_RX12_352 ⟨rfl, rfl⟩ ⟨Nat.le_of_ble_eq_true rfl, Nat.le_of_ble_eq_true rfl⟩ 12 rfl rfl rfl [0] [1, 2] rfl rfl (by decide) rfl hl.1 rfl (lv_room (Nat.le_of_ble_eq_true rfl)) dX12_newly_273 ⟨Nat.le_of_ble_eq_true rfl, Nat.le_of_ble_eq_true rfl⟩ (fun r_7227 u_7228 H locs hw hP hD hS => ?_)
                    obtain ⟨n_7225, n_7226⟩ := u_7228
                    try dsimp only at hw
                    obtain ⟨rfl, -⟩ := hw
                    refine lv_pop hx hb dX12_newly_276 rfl ?_
                    refine lv_iload hx hb dX12_newly_277 (lv_at hl 4 rfl) ?_
                    have hpost : ((-1) ≤ v_6412.toInt ∧ v_6412.toInt ≤ 9) ∧ (0 ≤ (0 : Int32).toInt ∧ (0 : Int32).toInt ≤ 0) ∧ (0 ≤ v_6414.toInt ∧ v_6414.toInt ≤ 10) ∧ (zRg 10 0 9 g_6419) ∧ (v_6415 = 0 ∨ v_6415 = 1) ∧ (0 ≤ v_6415.toInt ∧ v_6415.toInt ≤ 1) ∧ (zC g_6418) ∧ (zHF g_c g_6418) ∧ (zPm g_c g_6418) := ⟨(z_rgw hr_v_6412 (by decide) (by decide)), (by decide +kernel), hr_v_6414, hC_g_6419, hz_v_6415, hr_v_6415, hC_g_6418, hs_7215, (zPm_like hi_7216 (by omega) (by omega) hC_g_c.1)⟩
                    exact hret _ _ _ _ _ _ (0, 0, v_6414, g_6419, n_7225, n_7226, v_6415, v_6416, v_6417, g_6418) [2, 0, 1] hP hD hS rfl (by decide) dX12_newly_279 hpost
                  · have b_7229 := z_fleF c_7223
                    refine lv_aload_n hx hb dX12_newly_124 rfl (lv_at hl 0 rfl) ?_
                    refine lv_iload_n hx hb dX12_newly_125 rfl (lv_at hl 1 rfl) ?_
                    refine lv_iload_n hx hb dX12_newly_126 rfl (lv_at hl 2 rfl) ?_
                    refine lv_iload hx hb dX12_newly_127 (lv_at hl 5 rfl) ?_
                    refine z_callVv (As := [.int k, .int r, .int v_6413]) (rest := []) (wr := [(a_there, .inl (cA.1 0, 10, .inl g_6419))]) ⟨hx, hb, hml, hown, hts⟩ hK hE hT hP hD hS hA (r_insert l G cA h0 0 0 m_above m_under a_traySort a_trayMany a_numbers a_tape m_taped m_textEnd m_faultKind m_faultAt m_bad m_badAt m_token m_at m_behind m_number m_letters m_word a_c a_words m_markMany a_there a_tried a_best a_found v_6414 m_foundMany m_orderHow m_orderRing m_orderMany v_6415 v_6416 v_6417 a_weights a_shared m_random m_truePlace m_trueWay m_seconds m_done m_feelings m_tries m_leftOver m_playDoor m_playRing m_isOpen m_isOver m_wasTried m_hasPlayed a_feltNow a_last a_kept m_hasSeconds m_hasTurned m_hasRound a_hasFeels a_isOn m_firstAct m_meanTop m_meanBy a_order m_rowMany m_newSteps g_6418 k r v_6413 (by omega) (by omega) hr_v_6413 hC_g_6418 (by first | (rw [hlk.2.1]; omega) | (rw [hlk.2.2]; omega) | (rw [hlk.1]; omega)) (by first | (rw [hlk.2.1]; omega) | (rw [hlk.2.2]; omega) | (rw [hlk.1]; omega)) (by first | (rw [hlk.2.1]; omega) | (rw [hlk.2.2]; omega) | (rw [hlk.1]; omega)) (zLike_RO hi_7216 (by omega) (by omega) hC_g_c.1 hro)) lk_RX12_308 ⟨rfl, rfl⟩ ⟨Nat.le_of_ble_eq_true rfl, Nat.le_of_ble_eq_true rfl⟩ 12 rfl rfl rfl [0, 1] [2] rfl rfl (by decide) rfl hl.1 rfl (lv_room (Nat.le_of_ble_eq_true rfl)) dX12_newly_129 ⟨Nat.le_of_ble_eq_true rfl, Nat.le_of_ble_eq_true rfl⟩ (fun u_7232 H locs hw hP hD hS => ?_)
                    obtain ⟨n_7230, rfl⟩ : ∃ z, z = u_7232 := ⟨_, rfl⟩
                    obtain ⟨he_n_7230, hw⟩ := hw
                    obtain ⟨hC_n_7230, hf_7233, hf_7234⟩ := hw
                    have hs_7235 : zHF g_c n_7230 := (zHF_trans hs_7215 hf_7233)
                    have hone := zIn_there hf_7234 (by omega) (by omega) (by omega) (by rw [hlk.1]; omega) (by rw [hlk.1]; omega) (by omega) (by rw [hi_7216 (150 + k.toInt.toNat) (by omega)]; exact hln)
                    refine lv_aload_n hx hb dX12_newly_132 rfl (lv_at hl 0 rfl) ?_
                    refine lv_iload_n hx hb dX12_newly_133 rfl (lv_at hl 2 rfl) ?_
                    refine z_callVv (As := [.int r]) (rest := []) (wr := []) ⟨hx, hb, hml, hown, hts⟩ hK hE hT hP hD hS hA (r_gather l G cA h0 0 0 m_above m_under a_traySort a_trayMany a_numbers a_tape m_taped m_textEnd m_faultKind m_faultAt m_bad m_badAt m_token m_at m_behind m_number m_letters m_word a_c a_words m_markMany a_there a_tried a_best a_found v_6414 m_foundMany m_orderHow m_orderRing m_orderMany v_6415 v_6416 v_6417 a_weights a_shared m_random m_truePlace m_trueWay m_seconds m_done m_feelings m_tries m_leftOver m_playDoor m_playRing m_isOpen m_isOver m_wasTried m_hasPlayed a_feltNow a_last a_kept m_hasSeconds m_hasTurned m_hasRound a_hasFeels a_isOn m_firstAct m_meanTop m_meanBy a_order m_rowMany m_newSteps n_7230 g_6419 r (by omega) hr_v_6414 hC_n_7230 hC_g_6419) lk_RX12_292 ⟨rfl, rfl⟩ ⟨Nat.le_of_ble_eq_true rfl, Nat.le_of_ble_eq_true rfl⟩ 12 rfl rfl rfl [1, 2, 0] [] rfl rfl (by decide) rfl hl.1 rfl (lv_room (Nat.le_of_ble_eq_true rfl)) dX12_newly_134 ⟨Nat.le_of_ble_eq_true rfl, Nat.le_of_ble_eq_true rfl⟩ (fun u_7239 H locs hw hP hD hS => ?_)
                    obtain ⟨n_7236, n_7237⟩ := u_7239
                    try dsimp only at hw
                    obtain ⟨he_n_7236, he_n_7237, hw⟩ := hw
                    obtain ⟨hr_n_7236, hC_n_7237, hf_7240, hf_7241⟩ := hw
                    have hn_k_7242 : 1 ≤ n_7236.toInt ∧ n_7236.toInt ≤ 10 := by omega
                    refine lv_lconst (v := 0) hx hb dX12_newly_137 (by decide) ?_
                    refine lv_lstore (lv' := [(6, .long 0), (0, .ref h0), (1, .int k), (2, .int r), (3, .int d), (4, .int v_6412), (5, .int v_6413)]) hx hb dX12_newly_138 hl (by decide) rfl (fun ls hl => ?_)
                    refine lv_iconst (v := 0) hx hb dX12_newly_140 (by decide) ?_
                    refine lv_istore (lv' := [(8, .int 0), (6, .long 0), (0, .ref h0), (1, .int k), (2, .int r), (3, .int d), (4, .int v_6412), (5, .int v_6413)]) hx hb dX12_newly_141 hl (by decide) rfl (fun ls hl => ?_)
                    have hlp_7955 : ∀ (n : Nat) (v_7920 : Int64) (v_7921 : Int32) (H : Heap) (locs : List Loc) (ls : Array Slot), (2147483647 - v_7921.toInt).toNat < n → (0 ≤ v_7921.toInt ∧ v_7921.toInt ≤ 20) → va_P G vwCl [(h0, .inr (12, [.int 0, .int 0, .long m_above, .long m_under, .ref a_traySort, .ref a_trayMany, .ref a_numbers, .ref a_tape, .int m_taped, .int m_textEnd, .int m_faultKind, .int m_faultAt, .int m_bad, .int m_badAt, .int m_token, .int m_at, .int m_behind, .int m_number, .int m_letters, .long m_word, .ref a_c, .ref a_words, .int m_markMany, .ref a_there, .ref a_tried, .ref a_best, .ref a_found, .int n_7236, .int m_foundMany, .int m_orderHow, .int m_orderRing, .int m_orderMany, .int v_6415, .long v_6416, .long v_6417, .ref a_weights, .ref a_shared, .int m_random, .int m_truePlace, .int m_trueWay, .int m_seconds, .int m_done, .int m_feelings, .int m_tries, .int m_leftOver, .int m_playDoor, .int m_playRing, .int m_isOpen, .int m_isOver, .int m_wasTried, .int m_hasPlayed, .ref a_feltNow, .ref a_last, .ref a_kept, .int m_hasSeconds, .int m_hasTurned, .int m_hasRound, .ref a_hasFeels, .ref a_isOn, .int m_firstAct, .long m_meanTop, .long m_meanBy, .ref a_order, .int m_rowMany, .int m_newSteps])), (a_c, .inl (cA.1 0, 1825, .inl n_7230)), (a_there, .inl (cA.1 0, 10, .inl n_7237))] H → va_D A [(h0, .inr (12, [.int 0, .int 0, .long m_above, .long m_under, .ref a_traySort, .ref a_trayMany, .ref a_numbers, .ref a_tape, .int m_taped, .int m_textEnd, .int m_faultKind, .int m_faultAt, .int m_bad, .int m_badAt, .int m_token, .int m_at, .int m_behind, .int m_number, .int m_letters, .long m_word, .ref a_c, .ref a_words, .int m_markMany, .ref a_there, .ref a_tried, .ref a_best, .ref a_found, .int n_7236, .int m_foundMany, .int m_orderHow, .int m_orderRing, .int m_orderMany, .int v_6415, .long v_6416, .long v_6417, .ref a_weights, .ref a_shared, .int m_random, .int m_truePlace, .int m_trueWay, .int m_seconds, .int m_done, .int m_feelings, .int m_tries, .int m_leftOver, .int m_playDoor, .int m_playRing, .int m_isOpen, .int m_isOver, .int m_wasTried, .int m_hasPlayed, .ref a_feltNow, .ref a_last, .ref a_kept, .int m_hasSeconds, .int m_hasTurned, .int m_hasRound, .ref a_hasFeels, .ref a_isOn, .int m_firstAct, .long m_meanTop, .long m_meanBy, .ref a_order, .int m_rowMany, .int m_newSteps])), (a_c, .inl (cA.1 0, 1825, .inl n_7230)), (a_there, .inl (cA.1 0, 10, .inl n_7237))] → va_S A s.heap H locs → lv_has ls 9 [(0, .ref h0), (1, .int k), (2, .int r), (3, .int d), (4, .int v_6412), (5, .int v_6413), (6, .long v_7920), (8, .int v_7921)] → W p l e ({ frames := 3, cells := 0, slots := 0, locals := 69 }) s m args below meth c H locs 0 0 Q (F0 m 143 ls []) := by
                      intro n
                      induction n with
                      | zero =>
                        intro v_7920 v_7921 H locs ls hmu_hlp_7955 hr_v_7921 hP hD hS hl
                        exact absurd hmu_hlp_7955 (Nat.not_lt_zero _)
                      | succ n ih_7956 =>
                        intro v_7920 v_7921 H locs ls hmu_hlp_7955 hr_v_7921 hP hD hS hl
                        refine lv_iload hx hb dX12_newly_143 (lv_at hl 7 rfl) ?_
                        refine lv_iconst (v := 2) hx hb dX12_newly_145 (by decide) ?_
                        refine lv_aload_n hx hb dX12_newly_146 rfl (lv_at hl 0 rfl) ?_
                        refine va_get (D := G) (ci := 12) (v := .int n_7236) (C := RX12) (T := TX12) (N := 65) hx hb hts inT12 hown hK hP 0 rfl rfl 27 (by decide) (hts _ tw_1912) (fun _ h9 => h9) rfl dX12_newly_147 ?_
                        refine lv_imul hx hb dX12_newly_150 ?_
                        refine lv_topi (fun x_7957 he_x_7957 => ?_)
                        have hq_x_7957 := z_mulq he_x_7957 hk_2 (rfl : n_7236.toInt = _) (by omega) (by omega)
                        refine lv_icmp_ge (tgt := 208) hx hb dX12_newly_151 (by decide) (fun c_7958 => ?_) (fun c_7958 => ?_)
                        · have b_7959 := z_fgeT c_7958
                          refine lv_aload_n hx hb dX12_newly_208 rfl (lv_at hl 0 rfl) ?_
                          refine va_get (D := G) (ci := 12) (v := .int v_6415) (C := RX12) (T := TX12) (N := 65) hx hb hts inT12 hown hK hP 0 rfl rfl 32 (by decide) (hts _ tw_1916) (fun _ h9 => h9) rfl dX12_newly_209 ?_
                          refine lv_if_eq (tgt := 225) hx hb dX12_newly_212 (by decide) (fun c_7960 => ?_) (fun c_7960 => ?_)
                          · have b_7961 := z_feqT c_7960
                            refine lv_iload hx hb dX12_newly_225 (lv_at hl 5 rfl) ?_
                            refine lv_istore (lv' := [(4, .int v_6413), (0, .ref h0), (1, .int k), (2, .int r), (3, .int d), (5, .int v_6413), (6, .long v_7920), (8, .int v_7921)]) hx hb dX12_newly_227 hl (by decide) rfl (fun ls hl => ?_)
                            refine lv_aload_n hx hb dX12_newly_229 rfl (lv_at hl 1 rfl) ?_
                            refine lv_lload hx hb dX12_newly_230 (lv_at hl 6 rfl) ?_
                            refine va_put (D := G) (ci := 12) (v := .long v_7920) (ty := .long) (C := RX12) (T := TX12) (N := 65) hx hb hts inT12 tyX12 tyX12_ok nmX12 hown hK hP hD hS 0 rfl rfl 33 (by decide) (hts _ tw_1917) (fun _ h9 => h9) rfl (tyX12_ok 33 (by decide)) rfl rfl (Nat.le_of_ble_eq_true rfl) dX12_newly_232 (fun H locs hP hD hS => ?_)
                            refine lv_aload_n hx hb dX12_newly_235 rfl (lv_at hl 1 rfl) ?_
                            refine lv_ldc2 (v := 16) hx hb hown (hts _ tw_2470) dX12_newly_236 ?_
                            refine lv_aload_n hx hb dX12_newly_239 rfl (lv_at hl 1 rfl) ?_
                            refine va_get (D := G) (ci := 12) (v := .int n_7236) (C := RX12) (T := TX12) (N := 65) hx hb hts inT12 hown hK hP 0 rfl rfl 27 (by decide) (hts _ tw_1912) (fun _ h9 => h9) rfl dX12_newly_240 ?_
                            refine lv_i2l (v := (n_7236).toInt64) hx hb dX12_newly_243 rfl ?_
                            refine lv_topl (fun x_7962 he_x_7962 => ?_)
                            have hq_x_7962 := z_i2l he_x_7962
                            refine lv_lmul hx hb dX12_newly_244 ?_
                            refine lv_topl (fun x_7963 he_x_7963 => ?_)
                            have hq_x_7963 := z_mulql he_x_7963 hkl_16 (rfl : x_7962.toInt = _) (by omega) (by omega)
                            refine va_put (D := G) (ci := 12) (v := .long x_7963) (ty := .long) (C := RX12) (T := TX12) (N := 65) hx hb hts inT12 tyX12 tyX12_ok nmX12 hown hK hP hD hS 0 rfl rfl 34 (by decide) (hts _ tw_1918) (fun _ h9 => h9) rfl (tyX12_ok 34 (by decide)) rfl rfl (Nat.le_of_ble_eq_true rfl) dX12_newly_245 (fun H locs hP hD hS => ?_)
                            refine lv_aload_n hx hb dX12_newly_248 rfl (lv_at hl 1 rfl) ?_
                            refine lv_iconst (v := 1) hx hb dX12_newly_249 (by decide) ?_
                            refine va_put (D := G) (ci := 12) (v := .int 1) (ty := .boolean) (C := RX12) (T := TX12) (N := 65) hx hb hts inT12 tyX12 tyX12_ok nmX12 hown hK hP hD hS 0 rfl rfl 32 (by decide) (hts _ tw_1916) (fun _ h9 => h9) rfl (tyX12_ok 32 (by decide)) rfl rfl (Nat.le_of_ble_eq_true rfl) dX12_newly_250 (fun H locs hP hD hS => ?_)
                            refine lv_aload_n hx hb dX12_newly_253 rfl (lv_at hl 1 rfl) ?_
                            refine lv_iload_n hx hb dX12_newly_254 rfl (lv_at hl 2 rfl) ?_
                            refine z_callVv (As := [.int k]) (rest := []) (wr := [(a_there, .inl (cA.1 0, 10, .inl n_7237))]) ⟨hx, hb, hml, hown, hts⟩ hK hE hT hP hD hS hA (r_take2 l G cA h0 0 0 m_above m_under a_traySort a_trayMany a_numbers a_tape m_taped m_textEnd m_faultKind m_faultAt m_bad m_badAt m_token m_at m_behind m_number m_letters m_word a_c a_words m_markMany a_there a_tried a_best a_found n_7236 m_foundMany m_orderHow m_orderRing m_orderMany 1 v_7920 x_7963 a_weights a_shared m_random m_truePlace m_trueWay m_seconds m_done m_feelings m_tries m_leftOver m_playDoor m_playRing m_isOpen m_isOver m_wasTried m_hasPlayed a_feltNow a_last a_kept m_hasSeconds m_hasTurned m_hasRound a_hasFeels a_isOn m_firstAct m_meanTop m_meanBy a_order m_rowMany m_newSteps n_7230 k (by omega) hC_n_7230 ⟨r.toInt, (by omega), zIn_RO hC_g_6418.1 hf_7234 (by omega) (by omega) (by rw [hlk.2.1]; omega) (by omega) (by rw [hlk.1]; omega) (by rw [hlk.1]; omega) (zLike_RO hi_7216 (by omega) (by omega) hC_g_c.1 hro)⟩) lk_RX12_312 ⟨rfl, rfl⟩ ⟨Nat.le_of_ble_eq_true rfl, Nat.le_of_ble_eq_true rfl⟩ 12 rfl rfl rfl [0, 1] [2] rfl rfl (by decide) rfl hl.1 rfl (lv_room (Nat.le_of_ble_eq_true rfl)) dX12_newly_255 ⟨Nat.le_of_ble_eq_true rfl, Nat.le_of_ble_eq_true rfl⟩ (fun u_7966 H locs hw hP hD hS => ?_)
                            obtain ⟨n_7964, rfl⟩ : ∃ z, z = u_7966 := ⟨_, rfl⟩
                            obtain ⟨he_n_7964, hw⟩ := hw
                            obtain ⟨hC_n_7964, hf_7967, hf_7968⟩ := hw
                            have hs_7969 : zHF g_c n_7964 := (zHF_trans hs_7235 hf_7967)
                            have hnl := zLike_trans hi_7216 (zIn_take hC_g_6418 hC_n_7230 hf_7234 (by omega) (by omega) (by rw [hlk.2.1]; omega) (by omega) (by rw [hlk.1]; omega) (by rw [hlk.1]; omega) (zLike_RO hi_7216 (by omega) (by omega) hC_g_c.1 hro) hf_7968) (by omega) (by omega) hC_g_c.1
                            obtain ⟨x_7970, he_x_7970⟩ : ∃ z : Int32, z = v_6413 + 1 := ⟨_, rfl⟩
                            have hq_x_7970 := z_addq he_x_7970 (rfl : v_6413.toInt = _) hk_1 (by omega) (by omega)
                            refine lv_iinc (v := x_7970) (lv' := [(5, .int x_7970), (4, .int v_6413), (0, .ref h0), (1, .int k), (2, .int r), (3, .int d), (6, .long v_7920), (8, .int v_7921)]) hx hb dX12_newly_258 hl (k := 5) rfl ((z_ofi (by decide +kernel)).trans he_x_7970.symm) (by decide) rfl (fun ls hl => ?_)
                            refine lv_goto (tgt := 110) hx hb dX12_newly_261 (by decide) ?_
                            have hP := hP.sub (ws' := [(h0, .inr (12, [.int 0, .int 0, .long m_above, .long m_under, .ref a_traySort, .ref a_trayMany, .ref a_numbers, .ref a_tape, .int m_taped, .int m_textEnd, .int m_faultKind, .int m_faultAt, .int m_bad, .int m_badAt, .int m_token, .int m_at, .int m_behind, .int m_number, .int m_letters, .long m_word, .ref a_c, .ref a_words, .int m_markMany, .ref a_there, .ref a_tried, .ref a_best, .ref a_found, .int n_7236, .int m_foundMany, .int m_orderHow, .int m_orderRing, .int m_orderMany, .int 1, .long v_7920, .long x_7963, .ref a_weights, .ref a_shared, .int m_random, .int m_truePlace, .int m_trueWay, .int m_seconds, .int m_done, .int m_feelings, .int m_tries, .int m_leftOver, .int m_playDoor, .int m_playRing, .int m_isOpen, .int m_isOver, .int m_wasTried, .int m_hasPlayed, .ref a_feltNow, .ref a_last, .ref a_kept, .int m_hasSeconds, .int m_hasTurned, .int m_hasRound, .ref a_hasFeels, .ref a_isOn, .int m_firstAct, .long m_meanTop, .long m_meanBy, .ref a_order, .int m_rowMany, .int m_newSteps])), (a_c, .inl (cA.1 0, 1825, .inl n_7964)), (a_there, .inl (cA.1 0, 10, .inl n_7237))]) [1, 2, 0] rfl
                            have hD := hD.sub (ws' := [(h0, .inr (12, [.int 0, .int 0, .long m_above, .long m_under, .ref a_traySort, .ref a_trayMany, .ref a_numbers, .ref a_tape, .int m_taped, .int m_textEnd, .int m_faultKind, .int m_faultAt, .int m_bad, .int m_badAt, .int m_token, .int m_at, .int m_behind, .int m_number, .int m_letters, .long m_word, .ref a_c, .ref a_words, .int m_markMany, .ref a_there, .ref a_tried, .ref a_best, .ref a_found, .int n_7236, .int m_foundMany, .int m_orderHow, .int m_orderRing, .int m_orderMany, .int 1, .long v_7920, .long x_7963, .ref a_weights, .ref a_shared, .int m_random, .int m_truePlace, .int m_trueWay, .int m_seconds, .int m_done, .int m_feelings, .int m_tries, .int m_leftOver, .int m_playDoor, .int m_playRing, .int m_isOpen, .int m_isOver, .int m_wasTried, .int m_hasPlayed, .ref a_feltNow, .ref a_last, .ref a_kept, .int m_hasSeconds, .int m_hasTurned, .int m_hasRound, .ref a_hasFeels, .ref a_isOn, .int m_firstAct, .long m_meanTop, .long m_meanBy, .ref a_order, .int m_rowMany, .int m_newSteps])), (a_c, .inl (cA.1 0, 1825, .inl n_7964)), (a_there, .inl (cA.1 0, 10, .inl n_7237))]) [1, 2, 0] (by decide) rfl
                            exact ih_7220 v_6413 x_7970 n_7236 1 v_7920 x_7963 n_7964 n_7237 H locs ls (by omega) (by omega) (by omega) hr_n_7236 (Or.inr rfl) (by decide +kernel) hC_n_7964 hC_n_7237 hs_7969 hnl (by omega) (by omega) hP hD hS (lv_sub hl [2, 3, 4, 5, 1, 0] rfl)
                          · have b_7971 := z_fneF c_7960
                            refine lv_lload hx hb dX12_newly_215 (lv_at hl 6 rfl) ?_
                            refine lv_aload_n hx hb dX12_newly_217 rfl (lv_at hl 0 rfl) ?_
                            refine va_get (D := G) (ci := 12) (v := .long v_6416) (C := RX12) (T := TX12) (N := 65) hx hb hts inT12 hown hK hP 0 rfl rfl 33 (by decide) (hts _ tw_1917) (fun _ h9 => h9) rfl dX12_newly_218 ?_
                            refine W.lcmp hx hb dX12_newly_221 ?_
                            refine lv_if_ge (tgt := 248) hx hb dX12_newly_222 (by decide) (fun c_7972 => ?_) (fun c_7972 => ?_)
                            · have b_7973 := z_fgeTl c_7972
                              refine lv_aload_n hx hb dX12_newly_248 rfl (lv_at hl 0 rfl) ?_
                              refine lv_iconst (v := 1) hx hb dX12_newly_249 (by decide) ?_
                              refine va_put (D := G) (ci := 12) (v := .int 1) (ty := .boolean) (C := RX12) (T := TX12) (N := 65) hx hb hts inT12 tyX12 tyX12_ok nmX12 hown hK hP hD hS 0 rfl rfl 32 (by decide) (hts _ tw_1916) (fun _ h9 => h9) rfl (tyX12_ok 32 (by decide)) rfl rfl (Nat.le_of_ble_eq_true rfl) dX12_newly_250 (fun H locs hP hD hS => ?_)
                              refine lv_aload_n hx hb dX12_newly_253 rfl (lv_at hl 0 rfl) ?_
                              refine lv_iload_n hx hb dX12_newly_254 rfl (lv_at hl 1 rfl) ?_
                              refine z_callVv (As := [.int k]) (rest := []) (wr := [(a_there, .inl (cA.1 0, 10, .inl n_7237))]) ⟨hx, hb, hml, hown, hts⟩ hK hE hT hP hD hS hA (r_take2 l G cA h0 0 0 m_above m_under a_traySort a_trayMany a_numbers a_tape m_taped m_textEnd m_faultKind m_faultAt m_bad m_badAt m_token m_at m_behind m_number m_letters m_word a_c a_words m_markMany a_there a_tried a_best a_found n_7236 m_foundMany m_orderHow m_orderRing m_orderMany 1 v_6416 v_6417 a_weights a_shared m_random m_truePlace m_trueWay m_seconds m_done m_feelings m_tries m_leftOver m_playDoor m_playRing m_isOpen m_isOver m_wasTried m_hasPlayed a_feltNow a_last a_kept m_hasSeconds m_hasTurned m_hasRound a_hasFeels a_isOn m_firstAct m_meanTop m_meanBy a_order m_rowMany m_newSteps n_7230 k (by omega) hC_n_7230 ⟨r.toInt, (by omega), zIn_RO hC_g_6418.1 hf_7234 (by omega) (by omega) (by rw [hlk.2.1]; omega) (by omega) (by rw [hlk.1]; omega) (by rw [hlk.1]; omega) (zLike_RO hi_7216 (by omega) (by omega) hC_g_c.1 hro)⟩) lk_RX12_312 ⟨rfl, rfl⟩ ⟨Nat.le_of_ble_eq_true rfl, Nat.le_of_ble_eq_true rfl⟩ 12 rfl rfl rfl [0, 1] [2] rfl rfl (by decide) rfl hl.1 rfl (lv_room (Nat.le_of_ble_eq_true rfl)) dX12_newly_255 ⟨Nat.le_of_ble_eq_true rfl, Nat.le_of_ble_eq_true rfl⟩ (fun u_7976 H locs hw hP hD hS => ?_)
                              obtain ⟨n_7974, rfl⟩ : ∃ z, z = u_7976 := ⟨_, rfl⟩
                              obtain ⟨he_n_7974, hw⟩ := hw
                              obtain ⟨hC_n_7974, hf_7977, hf_7978⟩ := hw
                              have hs_7979 : zHF g_c n_7974 := (zHF_trans hs_7235 hf_7977)
                              have hnl := zLike_trans hi_7216 (zIn_take hC_g_6418 hC_n_7230 hf_7234 (by omega) (by omega) (by rw [hlk.2.1]; omega) (by omega) (by rw [hlk.1]; omega) (by rw [hlk.1]; omega) (zLike_RO hi_7216 (by omega) (by omega) hC_g_c.1 hro) hf_7978) (by omega) (by omega) hC_g_c.1
                              obtain ⟨x_7980, he_x_7980⟩ : ∃ z : Int32, z = v_6413 + 1 := ⟨_, rfl⟩
                              have hq_x_7980 := z_addq he_x_7980 (rfl : v_6413.toInt = _) hk_1 (by omega) (by omega)
                              refine lv_iinc (v := x_7980) (lv' := [(5, .int x_7980), (0, .ref h0), (1, .int k), (2, .int r), (3, .int d), (4, .int v_6412), (6, .long v_7920), (8, .int v_7921)]) hx hb dX12_newly_258 hl (k := 5) rfl ((z_ofi (by decide +kernel)).trans he_x_7980.symm) (by decide) rfl (fun ls hl => ?_)
                              refine lv_goto (tgt := 110) hx hb dX12_newly_261 (by decide) ?_
                              have hP := hP.sub (ws' := [(h0, .inr (12, [.int 0, .int 0, .long m_above, .long m_under, .ref a_traySort, .ref a_trayMany, .ref a_numbers, .ref a_tape, .int m_taped, .int m_textEnd, .int m_faultKind, .int m_faultAt, .int m_bad, .int m_badAt, .int m_token, .int m_at, .int m_behind, .int m_number, .int m_letters, .long m_word, .ref a_c, .ref a_words, .int m_markMany, .ref a_there, .ref a_tried, .ref a_best, .ref a_found, .int n_7236, .int m_foundMany, .int m_orderHow, .int m_orderRing, .int m_orderMany, .int 1, .long v_6416, .long v_6417, .ref a_weights, .ref a_shared, .int m_random, .int m_truePlace, .int m_trueWay, .int m_seconds, .int m_done, .int m_feelings, .int m_tries, .int m_leftOver, .int m_playDoor, .int m_playRing, .int m_isOpen, .int m_isOver, .int m_wasTried, .int m_hasPlayed, .ref a_feltNow, .ref a_last, .ref a_kept, .int m_hasSeconds, .int m_hasTurned, .int m_hasRound, .ref a_hasFeels, .ref a_isOn, .int m_firstAct, .long m_meanTop, .long m_meanBy, .ref a_order, .int m_rowMany, .int m_newSteps])), (a_c, .inl (cA.1 0, 1825, .inl n_7974)), (a_there, .inl (cA.1 0, 10, .inl n_7237))]) [1, 2, 0] rfl
                              have hD := hD.sub (ws' := [(h0, .inr (12, [.int 0, .int 0, .long m_above, .long m_under, .ref a_traySort, .ref a_trayMany, .ref a_numbers, .ref a_tape, .int m_taped, .int m_textEnd, .int m_faultKind, .int m_faultAt, .int m_bad, .int m_badAt, .int m_token, .int m_at, .int m_behind, .int m_number, .int m_letters, .long m_word, .ref a_c, .ref a_words, .int m_markMany, .ref a_there, .ref a_tried, .ref a_best, .ref a_found, .int n_7236, .int m_foundMany, .int m_orderHow, .int m_orderRing, .int m_orderMany, .int 1, .long v_6416, .long v_6417, .ref a_weights, .ref a_shared, .int m_random, .int m_truePlace, .int m_trueWay, .int m_seconds, .int m_done, .int m_feelings, .int m_tries, .int m_leftOver, .int m_playDoor, .int m_playRing, .int m_isOpen, .int m_isOver, .int m_wasTried, .int m_hasPlayed, .ref a_feltNow, .ref a_last, .ref a_kept, .int m_hasSeconds, .int m_hasTurned, .int m_hasRound, .ref a_hasFeels, .ref a_isOn, .int m_firstAct, .long m_meanTop, .long m_meanBy, .ref a_order, .int m_rowMany, .int m_newSteps])), (a_c, .inl (cA.1 0, 1825, .inl n_7974)), (a_there, .inl (cA.1 0, 10, .inl n_7237))]) [1, 2, 0] (by decide) rfl
                              exact ih_7220 v_6412 x_7980 n_7236 1 v_6416 v_6417 n_7974 n_7237 H locs ls (by omega) hr_v_6412 (by omega) hr_n_7236 (Or.inr rfl) (by decide +kernel) hC_n_7974 hC_n_7237 hs_7979 hnl (by omega) (by omega) hP hD hS (lv_sub hl [1, 2, 3, 4, 5, 0] rfl)
                            · have b_7981 := z_fltFl c_7972
                              refine lv_iload hx hb dX12_newly_225 (lv_at hl 5 rfl) ?_
                              refine lv_istore (lv' := [(4, .int v_6413), (0, .ref h0), (1, .int k), (2, .int r), (3, .int d), (5, .int v_6413), (6, .long v_7920), (8, .int v_7921)]) hx hb dX12_newly_227 hl (by decide) rfl (fun ls hl => ?_)
                              refine lv_aload_n hx hb dX12_newly_229 rfl (lv_at hl 1 rfl) ?_
                              refine lv_lload hx hb dX12_newly_230 (lv_at hl 6 rfl) ?_
                              refine va_put (D := G) (ci := 12) (v := .long v_7920) (ty := .long) (C := RX12) (T := TX12) (N := 65) hx hb hts inT12 tyX12 tyX12_ok nmX12 hown hK hP hD hS 0 rfl rfl 33 (by decide) (hts _ tw_1917) (fun _ h9 => h9) rfl (tyX12_ok 33 (by decide)) rfl rfl (Nat.le_of_ble_eq_true rfl) dX12_newly_232 (fun H locs hP hD hS => ?_)
                              refine lv_aload_n hx hb dX12_newly_235 rfl (lv_at hl 1 rfl) ?_
                              refine lv_ldc2 (v := 16) hx hb hown (hts _ tw_2470) dX12_newly_236 ?_
                              refine lv_aload_n hx hb dX12_newly_239 rfl (lv_at hl 1 rfl) ?_
                              refine va_get (D := G) (ci := 12) (v := .int n_7236) (C := RX12) (T := TX12) (N := 65) hx hb hts inT12 hown hK hP 0 rfl rfl 27 (by decide) (hts _ tw_1912) (fun _ h9 => h9) rfl dX12_newly_240 ?_
                              refine lv_i2l (v := (n_7236).toInt64) hx hb dX12_newly_243 rfl ?_
                              refine lv_topl (fun x_7982 he_x_7982 => ?_)
                              have hq_x_7982 := z_i2l he_x_7982
                              refine lv_lmul hx hb dX12_newly_244 ?_
                              refine lv_topl (fun x_7983 he_x_7983 => ?_)
                              have hq_x_7983 := z_mulql he_x_7983 hkl_16 (rfl : x_7982.toInt = _) (by omega) (by omega)
                              refine va_put (D := G) (ci := 12) (v := .long x_7983) (ty := .long) (C := RX12) (T := TX12) (N := 65) hx hb hts inT12 tyX12 tyX12_ok nmX12 hown hK hP hD hS 0 rfl rfl 34 (by decide) (hts _ tw_1918) (fun _ h9 => h9) rfl (tyX12_ok 34 (by decide)) rfl rfl (Nat.le_of_ble_eq_true rfl) dX12_newly_245 (fun H locs hP hD hS => ?_)
                              refine lv_aload_n hx hb dX12_newly_248 rfl (lv_at hl 1 rfl) ?_
                              refine lv_iconst (v := 1) hx hb dX12_newly_249 (by decide) ?_
                              refine va_put (D := G) (ci := 12) (v := .int 1) (ty := .boolean) (C := RX12) (T := TX12) (N := 65) hx hb hts inT12 tyX12 tyX12_ok nmX12 hown hK hP hD hS 0 rfl rfl 32 (by decide) (hts _ tw_1916) (fun _ h9 => h9) rfl (tyX12_ok 32 (by decide)) rfl rfl (Nat.le_of_ble_eq_true rfl) dX12_newly_250 (fun H locs hP hD hS => ?_)
                              refine lv_aload_n hx hb dX12_newly_253 rfl (lv_at hl 1 rfl) ?_
                              refine lv_iload_n hx hb dX12_newly_254 rfl (lv_at hl 2 rfl) ?_
                              refine z_callVv (As := [.int k]) (rest := []) (wr := [(a_there, .inl (cA.1 0, 10, .inl n_7237))]) ⟨hx, hb, hml, hown, hts⟩ hK hE hT hP hD hS hA (r_take2 l G cA h0 0 0 m_above m_under a_traySort a_trayMany a_numbers a_tape m_taped m_textEnd m_faultKind m_faultAt m_bad m_badAt m_token m_at m_behind m_number m_letters m_word a_c a_words m_markMany a_there a_tried a_best a_found n_7236 m_foundMany m_orderHow m_orderRing m_orderMany 1 v_7920 x_7983 a_weights a_shared m_random m_truePlace m_trueWay m_seconds m_done m_feelings m_tries m_leftOver m_playDoor m_playRing m_isOpen m_isOver m_wasTried m_hasPlayed a_feltNow a_last a_kept m_hasSeconds m_hasTurned m_hasRound a_hasFeels a_isOn m_firstAct m_meanTop m_meanBy a_order m_rowMany m_newSteps n_7230 k (by omega) hC_n_7230 ⟨r.toInt, (by omega), zIn_RO hC_g_6418.1 hf_7234 (by omega) (by omega) (by rw [hlk.2.1]; omega) (by omega) (by rw [hlk.1]; omega) (by rw [hlk.1]; omega) (zLike_RO hi_7216 (by omega) (by omega) hC_g_c.1 hro)⟩) lk_RX12_312 ⟨rfl, rfl⟩ ⟨Nat.le_of_ble_eq_true rfl, Nat.le_of_ble_eq_true rfl⟩ 12 rfl rfl rfl [0, 1] [2] rfl rfl (by decide) rfl hl.1 rfl (lv_room (Nat.le_of_ble_eq_true rfl)) dX12_newly_255 ⟨Nat.le_of_ble_eq_true rfl, Nat.le_of_ble_eq_true rfl⟩ (fun u_7986 H locs hw hP hD hS => ?_)
                              obtain ⟨n_7984, rfl⟩ : ∃ z, z = u_7986 := ⟨_, rfl⟩
                              obtain ⟨he_n_7984, hw⟩ := hw
                              obtain ⟨hC_n_7984, hf_7987, hf_7988⟩ := hw
                              have hs_7989 : zHF g_c n_7984 := (zHF_trans hs_7235 hf_7987)
                              have hnl := zLike_trans hi_7216 (zIn_take hC_g_6418 hC_n_7230 hf_7234 (by omega) (by omega) (by rw [hlk.2.1]; omega) (by omega) (by rw [hlk.1]; omega) (by rw [hlk.1]; omega) (zLike_RO hi_7216 (by omega) (by omega) hC_g_c.1 hro) hf_7988) (by omega) (by omega) hC_g_c.1
                              obtain ⟨x_7990, he_x_7990⟩ : ∃ z : Int32, z = v_6413 + 1 := ⟨_, rfl⟩
                              have hq_x_7990 := z_addq he_x_7990 (rfl : v_6413.toInt = _) hk_1 (by omega) (by omega)
                              refine lv_iinc (v := x_7990) (lv' := [(5, .int x_7990), (4, .int v_6413), (0, .ref h0), (1, .int k), (2, .int r), (3, .int d), (6, .long v_7920), (8, .int v_7921)]) hx hb dX12_newly_258 hl (k := 5) rfl ((z_ofi (by decide +kernel)).trans he_x_7990.symm) (by decide) rfl (fun ls hl => ?_)
                              refine lv_goto (tgt := 110) hx hb dX12_newly_261 (by decide) ?_
                              have hP := hP.sub (ws' := [(h0, .inr (12, [.int 0, .int 0, .long m_above, .long m_under, .ref a_traySort, .ref a_trayMany, .ref a_numbers, .ref a_tape, .int m_taped, .int m_textEnd, .int m_faultKind, .int m_faultAt, .int m_bad, .int m_badAt, .int m_token, .int m_at, .int m_behind, .int m_number, .int m_letters, .long m_word, .ref a_c, .ref a_words, .int m_markMany, .ref a_there, .ref a_tried, .ref a_best, .ref a_found, .int n_7236, .int m_foundMany, .int m_orderHow, .int m_orderRing, .int m_orderMany, .int 1, .long v_7920, .long x_7983, .ref a_weights, .ref a_shared, .int m_random, .int m_truePlace, .int m_trueWay, .int m_seconds, .int m_done, .int m_feelings, .int m_tries, .int m_leftOver, .int m_playDoor, .int m_playRing, .int m_isOpen, .int m_isOver, .int m_wasTried, .int m_hasPlayed, .ref a_feltNow, .ref a_last, .ref a_kept, .int m_hasSeconds, .int m_hasTurned, .int m_hasRound, .ref a_hasFeels, .ref a_isOn, .int m_firstAct, .long m_meanTop, .long m_meanBy, .ref a_order, .int m_rowMany, .int m_newSteps])), (a_c, .inl (cA.1 0, 1825, .inl n_7984)), (a_there, .inl (cA.1 0, 10, .inl n_7237))]) [1, 2, 0] rfl
                              have hD := hD.sub (ws' := [(h0, .inr (12, [.int 0, .int 0, .long m_above, .long m_under, .ref a_traySort, .ref a_trayMany, .ref a_numbers, .ref a_tape, .int m_taped, .int m_textEnd, .int m_faultKind, .int m_faultAt, .int m_bad, .int m_badAt, .int m_token, .int m_at, .int m_behind, .int m_number, .int m_letters, .long m_word, .ref a_c, .ref a_words, .int m_markMany, .ref a_there, .ref a_tried, .ref a_best, .ref a_found, .int n_7236, .int m_foundMany, .int m_orderHow, .int m_orderRing, .int m_orderMany, .int 1, .long v_7920, .long x_7983, .ref a_weights, .ref a_shared, .int m_random, .int m_truePlace, .int m_trueWay, .int m_seconds, .int m_done, .int m_feelings, .int m_tries, .int m_leftOver, .int m_playDoor, .int m_playRing, .int m_isOpen, .int m_isOver, .int m_wasTried, .int m_hasPlayed, .ref a_feltNow, .ref a_last, .ref a_kept, .int m_hasSeconds, .int m_hasTurned, .int m_hasRound, .ref a_hasFeels, .ref a_isOn, .int m_firstAct, .long m_meanTop, .long m_meanBy, .ref a_order, .int m_rowMany, .int m_newSteps])), (a_c, .inl (cA.1 0, 1825, .inl n_7984)), (a_there, .inl (cA.1 0, 10, .inl n_7237))]) [1, 2, 0] (by decide) rfl
                              exact ih_7220 v_6413 x_7990 n_7236 1 v_7920 x_7983 n_7984 n_7237 H locs ls (by omega) (by omega) (by omega) hr_n_7236 (Or.inr rfl) (by decide +kernel) hC_n_7984 hC_n_7237 hs_7989 hnl (by omega) (by omega) hP hD hS (lv_sub hl [2, 3, 4, 5, 1, 0] rfl)
                        · have b_7991 := z_fltF c_7958
                          refine lv_lload hx hb dX12_newly_154 (lv_at hl 6 rfl) ?_
                          refine lv_iload hx hb dX12_newly_156 (lv_at hl 7 rfl) ?_
                          refine lv_iconst (v := 2) hx hb dX12_newly_158 (by decide) ?_
                          refine lv_irem hx hb dX12_newly_159 (by decide +kernel) ?_
                          refine lv_topi (fun x_7992 he_x_7992 => ?_)
                          have hq_x_7992 := z_remq he_x_7992 (rfl : v_7921.toInt = _) hk_2 (by omega) (by decide)
                          refine lv_if_ne (tgt := 176) hx hb dX12_newly_160 (by decide) (fun c_7993 => ?_) (fun c_7993 => ?_)
                          · have b_7994 := z_fneT c_7993
                            refine lv_aload_n hx hb dX12_newly_176 rfl (lv_at hl 0 rfl) ?_
                            refine va_get (D := G) (ci := 12) (v := .ref a_c) (C := RX12) (T := TX12) (N := 65) hx hb hts inT12 hown hK hP 0 rfl rfl 20 (by decide) (hts _ tw_1905) (fun _ h9 => h9) rfl dX12_newly_177 ?_
                            refine lv_bipush (v := 9) hx hb dX12_newly_180 (by decide) ?_
                            refine va_iald hx hb hK hP 1 0 rfl rfl (z_in (i := 9) (n := 1825) (by decide +kernel) (by decide +kernel)) dX12_newly_182 ?_
                            refine lv_topi (fun x_7995 he_x_7995 => ?_)
                            have hr_x_7995 := z_ctk hC_n_7230 he_x_7995 (k := 9) (lo := 0) (hi := 16) (by decide +kernel) (by decide +kernel) (by decide +kernel)
                            refine lv_i2l (v := (x_7995).toInt64) hx hb dX12_newly_183 rfl ?_
                            refine lv_topl (fun x_7996 he_x_7996 => ?_)
                            have hq_x_7996 := z_i2l he_x_7996
                            refine lv_aload_n hx hb dX12_newly_184 rfl (lv_at hl 0 rfl) ?_
                            refine lv_iload_n hx hb dX12_newly_185 rfl (lv_at hl 3 rfl) ?_
                            refine lv_iload hx hb dX12_newly_186 (lv_at hl 7 rfl) ?_
                            refine lv_iconst (v := 2) hx hb dX12_newly_188 (by decide) ?_
                            refine lv_idiv hx hb dX12_newly_189 (by decide +kernel) ?_
                            refine lv_topi (fun x_7997 he_x_7997 => ?_)
                            have hq_x_7997 := z_divq he_x_7997 (rfl : v_7921.toInt = _) hk_2 (by omega) (by decide)
                            refine lv_iload hx hb dX12_newly_190 (lv_at hl 7 rfl) ?_
                            refine lv_iconst (v := 2) hx hb dX12_newly_192 (by decide) ?_
                            refine lv_irem hx hb dX12_newly_193 (by decide +kernel) ?_
                            refine lv_topi (fun x_7998 he_x_7998 => ?_)
                            have hq_x_7998 := z_remq he_x_7998 (rfl : v_7921.toInt = _) hk_2 (by omega) (by decide)
                            refine z_callVi (As := [.int d, .int x_7997, .int x_7998]) (rest := [.long x_7996, .long v_7920]) (wr := []) ⟨hx, hb, hml, hown, hts⟩ hK hE hT hP hD hS hA (r_search l G cA h0 0 0 m_above m_under a_traySort a_trayMany a_numbers a_tape m_taped m_textEnd m_faultKind m_faultAt m_bad m_badAt m_token m_at m_behind m_number m_letters m_word a_c a_words m_markMany a_there a_tried a_best a_found n_7236 m_foundMany m_orderHow m_orderRing m_orderMany v_6415 v_6416 v_6417 a_weights a_shared m_random m_truePlace m_trueWay m_seconds m_done m_feelings m_tries m_leftOver m_playDoor m_playRing m_isOpen m_isOver m_wasTried m_hasPlayed a_feltNow a_last a_kept m_hasSeconds m_hasTurned m_hasRound a_hasFeels a_isOn m_firstAct m_meanTop m_meanBy a_order m_rowMany m_newSteps n_7230 n_7237 d x_7997 x_7998 (by omega) (by omega) (by omega) hr_n_7236 hC_n_7230 hC_n_7237 (by omega)) lk_RX12_387 ⟨rfl, rfl⟩ ⟨Nat.le_of_ble_eq_true rfl, Nat.le_of_ble_eq_true rfl⟩ 12 rfl rfl rfl [0, 1, 2] [] rfl rfl (by decide) rfl hl.1 rfl (lv_room (Nat.le_of_ble_eq_true rfl)) dX12_newly_194 ⟨Nat.le_of_ble_eq_true rfl, Nat.le_of_ble_eq_true rfl⟩ (fun r_7999 u_8000 H locs hw hP hD hS => ?_)
                            obtain ⟨he_r_7999, hw⟩ := hw
                            obtain ⟨hr_r_7999, hf_8001, hf_8002⟩ := hw
                            refine lv_i2l (v := (r_7999).toInt64) hx hb dX12_newly_197 rfl ?_
                            refine lv_topl (fun x_8003 he_x_8003 => ?_)
                            have hq_x_8003 := z_i2l he_x_8003
                            refine lv_lmul hx hb dX12_newly_198 ?_
                            refine lv_topl (fun x_8004 he_x_8004 => ?_)
                            refine lv_ladd hx hb dX12_newly_199 ?_
                            have hL_v_7920 := z_fulll v_7920
                            have hL_x_8004 := z_fulll x_8004
                            refine lv_topl (fun x_8005 he_x_8005 => ?_)
                            refine lv_lstore (lv' := [(6, .long x_8005), (0, .ref h0), (1, .int k), (2, .int r), (3, .int d), (4, .int v_6412), (5, .int v_6413), (8, .int v_7921)]) hx hb dX12_newly_200 hl (by decide) rfl (fun ls hl => ?_)
                            obtain ⟨x_8006, he_x_8006⟩ : ∃ z : Int32, z = v_7921 + 1 := ⟨_, rfl⟩
                            have hq_x_8006 := z_addq he_x_8006 (rfl : v_7921.toInt = _) hk_1 (by omega) (by omega)
                            refine lv_iinc (v := x_8006) (lv' := [(8, .int x_8006), (6, .long x_8005), (0, .ref h0), (1, .int k), (2, .int r), (3, .int d), (4, .int v_6412), (5, .int v_6413)]) hx hb dX12_newly_202 hl (k := 7) rfl ((z_ofi (by decide +kernel)).trans he_x_8006.symm) (by decide) rfl (fun ls hl => ?_)
                            refine lv_goto (tgt := 143) hx hb dX12_newly_205 (by decide) ?_
                            exact ih_7956 x_8005 x_8006 H locs ls (by omega) (by omega) hP hD hS (lv_sub hl [2, 3, 4, 5, 6, 7, 1, 0] rfl)
                          · have b_8007 := z_feqF c_7993
                            refine lv_bipush (v := 16) hx hb dX12_newly_163 (by decide) ?_
                            refine lv_aload_n hx hb dX12_newly_165 rfl (lv_at hl 0 rfl) ?_
                            refine va_get (D := G) (ci := 12) (v := .ref a_c) (C := RX12) (T := TX12) (N := 65) hx hb hts inT12 hown hK hP 0 rfl rfl 20 (by decide) (hts _ tw_1905) (fun _ h9 => h9) rfl dX12_newly_166 ?_
                            refine lv_bipush (v := 9) hx hb dX12_newly_169 (by decide) ?_
                            refine va_iald hx hb hK hP 1 0 rfl rfl (z_in (i := 9) (n := 1825) (by decide +kernel) (by decide +kernel)) dX12_newly_171 ?_
                            refine lv_topi (fun x_8008 he_x_8008 => ?_)
                            have hr_x_8008 := z_ctk hC_n_7230 he_x_8008 (k := 9) (lo := 0) (hi := 16) (by decide +kernel) (by decide +kernel) (by decide +kernel)
                            refine lv_isub hx hb dX12_newly_172 ?_
                            refine lv_topi (fun x_8009 he_x_8009 => ?_)
                            have hq_x_8009 := z_subq he_x_8009 hk_16 (rfl : x_8008.toInt = _) (by omega) (by omega)
                            refine lv_goto (tgt := 183) hx hb dX12_newly_173 (by decide) ?_
                            refine lv_i2l (v := (x_8009).toInt64) hx hb dX12_newly_183 rfl ?_
                            refine lv_topl (fun x_8010 he_x_8010 => ?_)
                            have hq_x_8010 := z_i2l he_x_8010
                            refine lv_aload_n hx hb dX12_newly_184 rfl (lv_at hl 0 rfl) ?_
                            refine lv_iload_n hx hb dX12_newly_185 rfl (lv_at hl 3 rfl) ?_
                            refine lv_iload hx hb dX12_newly_186 (lv_at hl 7 rfl) ?_
                            refine lv_iconst (v := 2) hx hb dX12_newly_188 (by decide) ?_
                            refine lv_idiv hx hb dX12_newly_189 (by decide +kernel) ?_
                            refine lv_topi (fun x_8011 he_x_8011 => ?_)
                            have hq_x_8011 := z_divq he_x_8011 (rfl : v_7921.toInt = _) hk_2 (by omega) (by decide)
                            refine lv_iload hx hb dX12_newly_190 (lv_at hl 7 rfl) ?_
                            refine lv_iconst (v := 2) hx hb dX12_newly_192 (by decide) ?_
                            refine lv_irem hx hb dX12_newly_193 (by decide +kernel) ?_
                            refine lv_topi (fun x_8012 he_x_8012 => ?_)
                            have hq_x_8012 := z_remq he_x_8012 (rfl : v_7921.toInt = _) hk_2 (by omega) (by decide)
                            refine z_callVi (As := [.int d, .int x_8011, .int x_8012]) (rest := [.long x_8010, .long v_7920]) (wr := []) ⟨hx, hb, hml, hown, hts⟩ hK hE hT hP hD hS hA (r_search l G cA h0 0 0 m_above m_under a_traySort a_trayMany a_numbers a_tape m_taped m_textEnd m_faultKind m_faultAt m_bad m_badAt m_token m_at m_behind m_number m_letters m_word a_c a_words m_markMany a_there a_tried a_best a_found n_7236 m_foundMany m_orderHow m_orderRing m_orderMany v_6415 v_6416 v_6417 a_weights a_shared m_random m_truePlace m_trueWay m_seconds m_done m_feelings m_tries m_leftOver m_playDoor m_playRing m_isOpen m_isOver m_wasTried m_hasPlayed a_feltNow a_last a_kept m_hasSeconds m_hasTurned m_hasRound a_hasFeels a_isOn m_firstAct m_meanTop m_meanBy a_order m_rowMany m_newSteps n_7230 n_7237 d x_8011 x_8012 (by omega) (by omega) (by omega) hr_n_7236 hC_n_7230 hC_n_7237 (by omega)) lk_RX12_387 ⟨rfl, rfl⟩ ⟨Nat.le_of_ble_eq_true rfl, Nat.le_of_ble_eq_true rfl⟩ 12 rfl rfl rfl [0, 1, 2] [] rfl rfl (by decide) rfl hl.1 rfl (lv_room (Nat.le_of_ble_eq_true rfl)) dX12_newly_194 ⟨Nat.le_of_ble_eq_true rfl, Nat.le_of_ble_eq_true rfl⟩ (fun r_8013 u_8014 H locs hw hP hD hS => ?_)
                            obtain ⟨he_r_8013, hw⟩ := hw
                            obtain ⟨hr_r_8013, hf_8015, hf_8016⟩ := hw
                            refine lv_i2l (v := (r_8013).toInt64) hx hb dX12_newly_197 rfl ?_
                            refine lv_topl (fun x_8017 he_x_8017 => ?_)
                            have hq_x_8017 := z_i2l he_x_8017
                            refine lv_lmul hx hb dX12_newly_198 ?_
                            refine lv_topl (fun x_8018 he_x_8018 => ?_)
                            refine lv_ladd hx hb dX12_newly_199 ?_
                            have hL_v_7920 := z_fulll v_7920
                            have hL_x_8018 := z_fulll x_8018
                            refine lv_topl (fun x_8019 he_x_8019 => ?_)
                            refine lv_lstore (lv' := [(6, .long x_8019), (0, .ref h0), (1, .int k), (2, .int r), (3, .int d), (4, .int v_6412), (5, .int v_6413), (8, .int v_7921)]) hx hb dX12_newly_200 hl (by decide) rfl (fun ls hl => ?_)
                            obtain ⟨x_8020, he_x_8020⟩ : ∃ z : Int32, z = v_7921 + 1 := ⟨_, rfl⟩
                            have hq_x_8020 := z_addq he_x_8020 (rfl : v_7921.toInt = _) hk_1 (by omega) (by omega)
                            refine lv_iinc (v := x_8020) (lv' := [(8, .int x_8020), (6, .long x_8019), (0, .ref h0), (1, .int k), (2, .int r), (3, .int d), (4, .int v_6412), (5, .int v_6413)]) hx hb dX12_newly_202 hl (k := 7) rfl ((z_ofi (by decide +kernel)).trans he_x_8020.symm) (by decide) rfl (fun ls hl => ?_)
                            refine lv_goto (tgt := 143) hx hb dX12_newly_205 (by decide) ?_
                            exact ih_7956 x_8019 x_8020 H locs ls (by omega) (by omega) hP hD hS (lv_sub hl [2, 3, 4, 5, 6, 7, 1, 0] rfl)
                    exact hlp_7955 _ 0 0 _ _ _ (Nat.lt_succ_self _) (by decide +kernel) hP hD hS (lv_sub hl [2, 3, 4, 5, 6, 7, 1, 0] rfl)
              exact hlp_7219 _ 0 0 n_36 0 m_bestTop m_bestBy g_c n_37 _ _ _ (Nat.lt_succ_self _) (by decide +kernel) (by decide +kernel) hr_n_36 (Or.inl rfl) (by decide +kernel) hC_g_c hC_n_37 (zHF_refl g_c) (zLike_refl _) (by omega) (by omega) hP hD hS (lv_sub hl [2, 3, 4, 5, 1, 0] rfl)
          · have b_8021 := z_feqF c_34
            refine lv_aload_n hx hb dX12_newly_63 rfl (lv_at hl 0 rfl) ?_
            refine lv_bipush (v := 9) hx hb dX12_newly_64 (by decide) ?_
            refine z_callVi (As := [.int 9]) (rest := []) (wr := [(a_there, .inl (cA.1 0, 10, .inl g_there)), (a_c, .inl (cA.1 0, 1825, .inl g_c))]) ⟨hx, hb, hml, hown, hts⟩ hK hE hT hP hD hS hA (r_refuse l G cA h0 0 0 m_above m_under a_traySort a_trayMany a_numbers a_tape m_taped m_textEnd m_faultKind m_faultAt m_bad m_badAt m_token m_at m_behind m_number m_letters m_word a_c a_words m_markMany a_there a_tried a_best a_found m_thereMany m_foundMany m_orderHow m_orderRing m_orderMany m_hasBest m_bestTop m_bestBy a_weights a_shared m_random m_truePlace m_trueWay m_seconds m_done m_feelings m_tries m_leftOver m_playDoor m_playRing m_isOpen m_isOver m_wasTried m_hasPlayed a_feltNow a_last a_kept m_hasSeconds m_hasTurned m_hasRound a_hasFeels a_isOn m_firstAct m_meanTop m_meanBy a_order m_rowMany m_newSteps 9) lk_RX12_269 ⟨rfl, rfl⟩ ⟨Nat.le_of_ble_eq_true rfl, Nat.le_of_ble_eq_true rfl⟩ 12 rfl rfl rfl [1] [0, 2] rfl rfl (by decide) rfl hl.1 rfl (lv_room (Nat.le_of_ble_eq_true rfl)) dX12_newly_66 ⟨Nat.le_of_ble_eq_true rfl, Nat.le_of_ble_eq_true rfl⟩ (fun r_8023 u_8024 H locs hw hP hD hS => ?_)
            obtain ⟨n_8022, rfl⟩ : ∃ z, z = u_8024 := ⟨_, rfl⟩
            obtain ⟨he_r_8023, he_n_8022, hw⟩ := hw
            have hr_r_8023 := hw
            have hpost : ((-1) ≤ r_8023.toInt ∧ r_8023.toInt ≤ 9) ∧ (0 ≤ (0 : Int32).toInt ∧ (0 : Int32).toInt ≤ 0) ∧ (0 ≤ m_thereMany.toInt ∧ m_thereMany.toInt ≤ 10) ∧ (zRg 10 0 9 g_there) ∧ (m_hasBest = 0 ∨ m_hasBest = 1) ∧ (0 ≤ m_hasBest.toInt ∧ m_hasBest.toInt ≤ 1) ∧ (zC g_c) ∧ (zHF g_c g_c) ∧ (zPm g_c g_c) := ⟨(z_rgw hr_r_8023 (by decide) (by decide)), (by decide +kernel), hr_m_thereMany, hC_g_there, hz_m_hasBest, hr_m_hasBest, hC_g_c, (zHF_refl g_c), (zPm_refl _)⟩
            exact hret _ _ _ _ _ _ (n_8022, 0, m_thereMany, g_there, m_above, m_under, m_hasBest, m_bestTop, m_bestBy, g_c) [2, 1, 0] hP hD hS rfl (by decide) dX12_newly_69 hpost
set_option maxHeartbeats 4000000 in
set_option maxRecDepth 100000 in
theorem r_draw (l : Launch) (G : va_G) (cA : zCA) (h0 : Nat) (m_status : Int32) (m_thrown : Int32) (m_above : Int64) (m_under : Int64) (a_traySort : Nat) (a_trayMany : Nat) (a_numbers : Nat) (a_tape : Nat) (m_taped : Int32) (m_textEnd : Int32) (m_faultKind : Int32) (m_faultAt : Int32) (m_bad : Int32) (m_badAt : Int32) (m_token : Int32) (m_at : Int32) (m_behind : Int32) (m_number : Int32) (m_letters : Int32) (m_word : Int64) (a_c : Nat) (a_words : Nat) (m_markMany : Int32) (a_there : Nat) (a_tried : Nat) (a_best : Nat) (a_found : Nat) (m_thereMany : Int32) (m_foundMany : Int32) (m_orderHow : Int32) (m_orderRing : Int32) (m_orderMany : Int32) (m_hasBest : Int32) (m_bestTop : Int64) (m_bestBy : Int64) (a_weights : Nat) (a_shared : Nat) (m_random : Int32) (m_truePlace : Int32) (m_trueWay : Int32) (m_seconds : Int32) (m_done : Int32) (m_feelings : Int32) (m_tries : Int32) (m_leftOver : Int32) (m_playDoor : Int32) (m_playRing : Int32) (m_isOpen : Int32) (m_isOver : Int32) (m_wasTried : Int32) (m_hasPlayed : Int32) (a_feltNow : Nat) (a_last : Nat) (a_kept : Nat) (m_hasSeconds : Int32) (m_hasTurned : Int32) (m_hasRound : Int32) (a_hasFeels : Nat) (a_isOn : Nat) (m_firstAct : Int32) (m_meanTop : Int64) (m_meanBy : Int64) (a_order : Nat) (m_rowMany : Int32) (m_newSteps : Int32) (nn : Int32) (hr_nn : 1 ≤ nn.toInt ∧ nn.toInt ≤ 16) (hr_m_random : 0 ≤ m_random.toInt ∧ m_random.toInt ≤ 65535) : zCi l yX12_draw cX12_draw 2 (some .int) ({ frames := 0, cells := 0, slots := 0, locals := 0 }) G cA [.ref h0, .int nn] [(h0, .inr (12, [.int m_status, .int m_thrown, .long m_above, .long m_under, .ref a_traySort, .ref a_trayMany, .ref a_numbers, .ref a_tape, .int m_taped, .int m_textEnd, .int m_faultKind, .int m_faultAt, .int m_bad, .int m_badAt, .int m_token, .int m_at, .int m_behind, .int m_number, .int m_letters, .long m_word, .ref a_c, .ref a_words, .int m_markMany, .ref a_there, .ref a_tried, .ref a_best, .ref a_found, .int m_thereMany, .int m_foundMany, .int m_orderHow, .int m_orderRing, .int m_orderMany, .int m_hasBest, .long m_bestTop, .long m_bestBy, .ref a_weights, .ref a_shared, .int m_random, .int m_truePlace, .int m_trueWay, .int m_seconds, .int m_done, .int m_feelings, .int m_tries, .int m_leftOver, .int m_playDoor, .int m_playRing, .int m_isOpen, .int m_isOver, .int m_wasTried, .int m_hasPlayed, .ref a_feltNow, .ref a_last, .ref a_kept, .int m_hasSeconds, .int m_hasTurned, .int m_hasRound, .ref a_hasFeels, .ref a_isOn, .int m_firstAct, .long m_meanTop, .long m_meanBy, .ref a_order, .int m_rowMany, .int m_newSteps]))] (S := Int32) (fun (r : Int32) (u : Int32) => (0 ≤ r.toInt ∧ r.toInt ≤ 15) ∧ (0 ≤ u.toInt ∧ u.toInt ≤ 65535) ∧ (r.toInt < nn.toInt)) (fun (u : Int32) => [(h0, .inr (12, [.int m_status, .int m_thrown, .long m_above, .long m_under, .ref a_traySort, .ref a_trayMany, .ref a_numbers, .ref a_tape, .int m_taped, .int m_textEnd, .int m_faultKind, .int m_faultAt, .int m_bad, .int m_badAt, .int m_token, .int m_at, .int m_behind, .int m_number, .int m_letters, .long m_word, .ref a_c, .ref a_words, .int m_markMany, .ref a_there, .ref a_tried, .ref a_best, .ref a_found, .int m_thereMany, .int m_foundMany, .int m_orderHow, .int m_orderRing, .int m_orderMany, .int m_hasBest, .long m_bestTop, .long m_bestBy, .ref a_weights, .ref a_shared, .int u, .int m_truePlace, .int m_trueWay, .int m_seconds, .int m_done, .int m_feelings, .int m_tries, .int m_leftOver, .int m_playDoor, .int m_playRing, .int m_isOpen, .int m_isOver, .int m_wasTried, .int m_hasPlayed, .ref a_feltNow, .ref a_last, .ref a_kept, .int m_hasSeconds, .int m_hasTurned, .int m_hasRound, .ref a_hasFeels, .ref a_isOn, .int m_firstAct, .long m_meanTop, .long m_meanBy, .ref a_order, .int m_rowMany, .int m_newSteps]))]) 0 0 := by
  have hk_8 : (8 : Int32).toInt = 8 := by decide +kernel
  have hk_2749 : (2749 : Int32).toInt = 2749 := by decide +kernel
  have hk_15013 : (15013 : Int32).toInt = 15013 := by decide +kernel
  have hk_65536 : (65536 : Int32).toInt = 65536 := by decide +kernel
  refine z_start2i (own := RX12) (by decide) (Nat.le_of_ble_eq_true rfl) rfl ?_
  intro p e s m args below meth c A ls Q hx hb hml hts hown hK hE hT hP hD hS hA hl hret
  have hl : lv_has ls 2 [(0, .ref h0), (1, .int nn)] := hl
  refine lv_aload_n hx hb dX12_draw_0 rfl (lv_at hl 0 rfl) ?_
  refine lv_aload_n hx hb dX12_draw_1 rfl (lv_at hl 0 rfl) ?_
  refine va_get (D := G) (ci := 12) (v := .int m_random) (C := RX12) (T := TX12) (N := 65) hx hb hts inT12 hown hK hP 0 rfl rfl 37 (by decide) (hts _ tw_1921) (fun _ h9 => h9) rfl dX12_draw_2 ?_
  refine lv_sipush (v := 2749) hx hb dX12_draw_5 (by decide) ?_
  refine lv_imul hx hb dX12_draw_8 ?_
  refine lv_topi (fun x_1 he_x_1 => ?_)
  have hq_x_1 := z_mulq he_x_1 (rfl : m_random.toInt = _) hk_2749 (by omega) (by omega)
  refine lv_sipush (v := 15013) hx hb dX12_draw_9 (by decide) ?_
  refine lv_iadd hx hb dX12_draw_12 ?_
  refine lv_topi (fun x_2 he_x_2 => ?_)
  have hq_x_2 := z_addq he_x_2 (rfl : x_1.toInt = _) hk_15013 (by omega) (by omega)
  refine lv_ldcw (v := 65536) hx hb hown (hts _ tw_2694) dX12_draw_13 ?_
  refine lv_irem hx hb dX12_draw_16 (by decide +kernel) ?_
  refine lv_topi (fun x_3 he_x_3 => ?_)
  have hq_x_3 := z_remq he_x_3 (rfl : x_2.toInt = _) hk_65536 (by omega) (by decide)
  refine va_put (D := G) (ci := 12) (v := .int x_3) (ty := .int) (C := RX12) (T := TX12) (N := 65) hx hb hts inT12 tyX12 tyX12_ok nmX12 hown hK hP hD hS 0 rfl rfl 37 (by decide) (hts _ tw_1921) (fun _ h9 => h9) rfl (tyX12_ok 37 (by decide)) rfl rfl (Nat.le_of_ble_eq_true rfl) dX12_draw_17 (fun H locs hP hD hS => ?_)
  refine lv_aload_n hx hb dX12_draw_20 rfl (lv_at hl 0 rfl) ?_
  refine va_get (D := G) (ci := 12) (v := .int x_3) (C := RX12) (T := TX12) (N := 65) hx hb hts inT12 hown hK hP 0 rfl rfl 37 (by decide) (hts _ tw_1921) (fun _ h9 => h9) rfl dX12_draw_21 ?_
  refine lv_bipush (v := 8) hx hb dX12_draw_24 (by decide) ?_
  refine lv_idiv hx hb dX12_draw_26 (by decide +kernel) ?_
  refine lv_topi (fun x_4 he_x_4 => ?_)
  have hq_x_4 := z_divq he_x_4 (rfl : x_3.toInt = _) hk_8 (by omega) (by decide)
  refine lv_iload_n hx hb dX12_draw_27 rfl (lv_at hl 1 rfl) ?_
  refine lv_irem hx hb dX12_draw_28 (z_nz (by omega)) ?_
  refine lv_topi (fun x_5 he_x_5 => ?_)
  have hr_x_5 := z_remr he_x_5 (by omega) (by omega)
  have hpost : (0 ≤ x_5.toInt ∧ x_5.toInt ≤ 15) ∧ (0 ≤ x_3.toInt ∧ x_3.toInt ≤ 65535) ∧ (x_5.toInt < nn.toInt) := ⟨(by omega), (by omega), (by omega)⟩
  exact hret _ _ _ _ _ _ x_3 [0] hP hD hS rfl (by decide) dX12_draw_29 hpost
set_option maxHeartbeats 4000000 in
set_option maxRecDepth 100000 in
theorem r_forgetHere (l : Launch) (G : va_G) (cA : zCA) (h0 : Nat) (m_status : Int32) (m_thrown : Int32) (m_above : Int64) (m_under : Int64) (a_traySort : Nat) (a_trayMany : Nat) (a_numbers : Nat) (a_tape : Nat) (m_taped : Int32) (m_textEnd : Int32) (m_faultKind : Int32) (m_faultAt : Int32) (m_bad : Int32) (m_badAt : Int32) (m_token : Int32) (m_at : Int32) (m_behind : Int32) (m_number : Int32) (m_letters : Int32) (m_word : Int64) (a_c : Nat) (a_words : Nat) (m_markMany : Int32) (a_there : Nat) (a_tried : Nat) (a_best : Nat) (a_found : Nat) (m_thereMany : Int32) (m_foundMany : Int32) (m_orderHow : Int32) (m_orderRing : Int32) (m_orderMany : Int32) (m_hasBest : Int32) (m_bestTop : Int64) (m_bestBy : Int64) (a_weights : Nat) (a_shared : Nat) (m_random : Int32) (m_truePlace : Int32) (m_trueWay : Int32) (m_seconds : Int32) (m_done : Int32) (m_feelings : Int32) (m_tries : Int32) (m_leftOver : Int32) (m_playDoor : Int32) (m_playRing : Int32) (m_isOpen : Int32) (m_isOver : Int32) (m_wasTried : Int32) (m_hasPlayed : Int32) (a_feltNow : Nat) (a_last : Nat) (a_kept : Nat) (m_hasSeconds : Int32) (m_hasTurned : Int32) (m_hasRound : Int32) (a_hasFeels : Nat) (a_isOn : Nat) (m_firstAct : Int32) (m_meanTop : Int64) (m_meanBy : Int64) (a_order : Nat) (m_rowMany : Int32) (m_newSteps : Int32) (g_feltNow : Nat → Int32) (hz_m_wasTried : m_wasTried = 0 ∨ m_wasTried = 1) : zCv l yX12_forgetHere cX12_forgetHere 2 none ({ frames := 0, cells := 0, slots := 0, locals := 0 }) G cA [.ref h0] [(h0, .inr (12, [.int m_status, .int m_thrown, .long m_above, .long m_under, .ref a_traySort, .ref a_trayMany, .ref a_numbers, .ref a_tape, .int m_taped, .int m_textEnd, .int m_faultKind, .int m_faultAt, .int m_bad, .int m_badAt, .int m_token, .int m_at, .int m_behind, .int m_number, .int m_letters, .long m_word, .ref a_c, .ref a_words, .int m_markMany, .ref a_there, .ref a_tried, .ref a_best, .ref a_found, .int m_thereMany, .int m_foundMany, .int m_orderHow, .int m_orderRing, .int m_orderMany, .int m_hasBest, .long m_bestTop, .long m_bestBy, .ref a_weights, .ref a_shared, .int m_random, .int m_truePlace, .int m_trueWay, .int m_seconds, .int m_done, .int m_feelings, .int m_tries, .int m_leftOver, .int m_playDoor, .int m_playRing, .int m_isOpen, .int m_isOver, .int m_wasTried, .int m_hasPlayed, .ref a_feltNow, .ref a_last, .ref a_kept, .int m_hasSeconds, .int m_hasTurned, .int m_hasRound, .ref a_hasFeels, .ref a_isOn, .int m_firstAct, .long m_meanTop, .long m_meanBy, .ref a_order, .int m_rowMany, .int m_newSteps])), (a_feltNow, .inl (cA.1 0, 3, .inl g_feltNow))] (S := Int32 × (Nat → Int32)) (fun (u : Int32 × (Nat → Int32)) => (u.1 = 0 ∨ u.1 = 1)) (fun (u : Int32 × (Nat → Int32)) => [(h0, .inr (12, [.int m_status, .int m_thrown, .long m_above, .long m_under, .ref a_traySort, .ref a_trayMany, .ref a_numbers, .ref a_tape, .int m_taped, .int m_textEnd, .int m_faultKind, .int m_faultAt, .int m_bad, .int m_badAt, .int m_token, .int m_at, .int m_behind, .int m_number, .int m_letters, .long m_word, .ref a_c, .ref a_words, .int m_markMany, .ref a_there, .ref a_tried, .ref a_best, .ref a_found, .int m_thereMany, .int m_foundMany, .int m_orderHow, .int m_orderRing, .int m_orderMany, .int m_hasBest, .long m_bestTop, .long m_bestBy, .ref a_weights, .ref a_shared, .int m_random, .int m_truePlace, .int m_trueWay, .int m_seconds, .int m_done, .int m_feelings, .int m_tries, .int m_leftOver, .int m_playDoor, .int m_playRing, .int m_isOpen, .int m_isOver, .int u.1, .int m_hasPlayed, .ref a_feltNow, .ref a_last, .ref a_kept, .int m_hasSeconds, .int m_hasTurned, .int m_hasRound, .ref a_hasFeels, .ref a_isOn, .int m_firstAct, .long m_meanTop, .long m_meanBy, .ref a_order, .int m_rowMany, .int m_newSteps])), (a_feltNow, .inl (cA.1 0, 3, .inl u.2))]) 0 0 := by
  have hk_1 : (1 : Int32).toInt = 1 := by decide +kernel
  have hk_3 : (3 : Int32).toInt = 3 := by decide +kernel
  refine z_start2v (own := RX12) (by decide) (Nat.le_of_ble_eq_true rfl) rfl ?_
  intro p e s m args below meth c A ls Q hx hb hml hts hown hK hE hT hP hD hS hA hl hret
  have hl : lv_has ls 2 [(0, .ref h0)] := hl
  refine lv_aload_n hx hb dX12_forgetHere_0 rfl (lv_at hl 0 rfl) ?_
  refine lv_iconst (v := 0) hx hb dX12_forgetHere_1 (by decide) ?_
  refine va_put (D := G) (ci := 12) (v := .int 0) (ty := .boolean) (C := RX12) (T := TX12) (N := 65) hx hb hts inT12 tyX12 tyX12_ok nmX12 hown hK hP hD hS 0 rfl rfl 49 (by decide) (hts _ tw_1932) (fun _ h9 => h9) rfl (tyX12_ok 49 (by decide)) rfl rfl (Nat.le_of_ble_eq_true rfl) dX12_forgetHere_2 (fun H locs hP hD hS => ?_)
  refine lv_iconst (v := 0) hx hb dX12_forgetHere_5 (by decide) ?_
  refine lv_istore_n (lv' := [(1, .int 0), (0, .ref h0)]) hx hb dX12_forgetHere_6 rfl hl (by decide) rfl (fun ls hl => ?_)
  have hlp_28 : ∀ (n : Nat) (v_21 : Int32) (g_22 : Nat → Int32) (H : Heap) (locs : List Loc) (ls : Array Slot), (2147483647 - v_21.toInt).toNat < n → (0 ≤ v_21.toInt ∧ v_21.toInt ≤ 3) → va_P G vwCl [(h0, .inr (12, [.int m_status, .int m_thrown, .long m_above, .long m_under, .ref a_traySort, .ref a_trayMany, .ref a_numbers, .ref a_tape, .int m_taped, .int m_textEnd, .int m_faultKind, .int m_faultAt, .int m_bad, .int m_badAt, .int m_token, .int m_at, .int m_behind, .int m_number, .int m_letters, .long m_word, .ref a_c, .ref a_words, .int m_markMany, .ref a_there, .ref a_tried, .ref a_best, .ref a_found, .int m_thereMany, .int m_foundMany, .int m_orderHow, .int m_orderRing, .int m_orderMany, .int m_hasBest, .long m_bestTop, .long m_bestBy, .ref a_weights, .ref a_shared, .int m_random, .int m_truePlace, .int m_trueWay, .int m_seconds, .int m_done, .int m_feelings, .int m_tries, .int m_leftOver, .int m_playDoor, .int m_playRing, .int m_isOpen, .int m_isOver, .int 0, .int m_hasPlayed, .ref a_feltNow, .ref a_last, .ref a_kept, .int m_hasSeconds, .int m_hasTurned, .int m_hasRound, .ref a_hasFeels, .ref a_isOn, .int m_firstAct, .long m_meanTop, .long m_meanBy, .ref a_order, .int m_rowMany, .int m_newSteps])), (a_feltNow, .inl (cA.1 0, 3, .inl g_22))] H → va_D A [(h0, .inr (12, [.int m_status, .int m_thrown, .long m_above, .long m_under, .ref a_traySort, .ref a_trayMany, .ref a_numbers, .ref a_tape, .int m_taped, .int m_textEnd, .int m_faultKind, .int m_faultAt, .int m_bad, .int m_badAt, .int m_token, .int m_at, .int m_behind, .int m_number, .int m_letters, .long m_word, .ref a_c, .ref a_words, .int m_markMany, .ref a_there, .ref a_tried, .ref a_best, .ref a_found, .int m_thereMany, .int m_foundMany, .int m_orderHow, .int m_orderRing, .int m_orderMany, .int m_hasBest, .long m_bestTop, .long m_bestBy, .ref a_weights, .ref a_shared, .int m_random, .int m_truePlace, .int m_trueWay, .int m_seconds, .int m_done, .int m_feelings, .int m_tries, .int m_leftOver, .int m_playDoor, .int m_playRing, .int m_isOpen, .int m_isOver, .int 0, .int m_hasPlayed, .ref a_feltNow, .ref a_last, .ref a_kept, .int m_hasSeconds, .int m_hasTurned, .int m_hasRound, .ref a_hasFeels, .ref a_isOn, .int m_firstAct, .long m_meanTop, .long m_meanBy, .ref a_order, .int m_rowMany, .int m_newSteps])), (a_feltNow, .inl (cA.1 0, 3, .inl g_22))] → va_S A s.heap H locs → lv_has ls 2 [(0, .ref h0), (1, .int v_21)] → W p l e ({ frames := 0, cells := 0, slots := 0, locals := 0 }) s m args below meth c H locs 0 0 Q (F0 m 7 ls []) := by
    intro n
    induction n with
    | zero =>
      intro v_21 g_22 H locs ls hmu_hlp_28 hr_v_21 hP hD hS hl
      exact absurd hmu_hlp_28 (Nat.not_lt_zero _)
    | succ n ih_29 =>
      intro v_21 g_22 H locs ls hmu_hlp_28 hr_v_21 hP hD hS hl
      refine lv_iload_n hx hb dX12_forgetHere_7 rfl (lv_at hl 1 rfl) ?_
      refine lv_iconst (v := 3) hx hb dX12_forgetHere_8 (by decide) ?_
      refine lv_icmp_ge (tgt := 25) hx hb dX12_forgetHere_9 (by decide) (fun c_30 => ?_) (fun c_30 => ?_)
      · have b_31 := z_fgeT c_30
        have hpost : ((0 : Int32) = 0 ∨ (0 : Int32) = 1) := (Or.inl rfl)
        exact hret _ _ _ _ _ (0, g_22) [0, 1] hP hD hS rfl (by decide) dX12_forgetHere_25 hpost
      · have b_32 := z_fltF c_30
        refine lv_aload_n hx hb dX12_forgetHere_12 rfl (lv_at hl 0 rfl) ?_
        refine va_get (D := G) (ci := 12) (v := .ref a_feltNow) (C := RX12) (T := TX12) (N := 65) hx hb hts inT12 hown hK hP 0 rfl rfl 51 (by decide) (hts _ tw_1934) (fun _ h9 => h9) rfl dX12_forgetHere_13 ?_
        refine lv_iload_n hx hb dX12_forgetHere_16 rfl (lv_at hl 1 rfl) ?_
        refine lv_iconst (v := (-1)) hx hb dX12_forgetHere_17 (by decide) ?_
        refine z_iast hx hb hK hP hD hS 1 0 rfl rfl (z_inN (by omega) (by omega)) dX12_forgetHere_18 (fun g_33 hg_g_33 H locs hP hD hS => ?_)
        obtain ⟨x_34, he_x_34⟩ : ∃ z : Int32, z = v_21 + 1 := ⟨_, rfl⟩
        have hq_x_34 := z_addq he_x_34 (rfl : v_21.toInt = _) hk_1 (by omega) (by omega)
        refine lv_iinc (v := x_34) (lv' := [(1, .int x_34), (0, .ref h0)]) hx hb dX12_forgetHere_19 hl (k := 1) rfl ((z_ofi (by decide +kernel)).trans he_x_34.symm) (by decide) rfl (fun ls hl => ?_)
        refine lv_goto (tgt := 7) hx hb dX12_forgetHere_22 (by decide) ?_
        exact ih_29 x_34 g_33 H locs ls (by omega) (by omega) hP hD hS (lv_sub hl [1, 0] rfl)
  exact hlp_28 _ 0 g_feltNow _ _ _ (Nat.lt_succ_self _) (by decide +kernel) hP hD hS (lv_sub hl [1, 0] rfl)
set_option maxHeartbeats 4000000 in
set_option maxRecDepth 100000 in
theorem r_pickUp (l : Launch) (G : va_G) (cA : zCA) (h0 : Nat) (m_status : Int32) (m_thrown : Int32) (m_above : Int64) (m_under : Int64) (a_traySort : Nat) (a_trayMany : Nat) (a_numbers : Nat) (a_tape : Nat) (m_taped : Int32) (m_textEnd : Int32) (m_faultKind : Int32) (m_faultAt : Int32) (m_bad : Int32) (m_badAt : Int32) (m_token : Int32) (m_at : Int32) (m_behind : Int32) (m_number : Int32) (m_letters : Int32) (m_word : Int64) (a_c : Nat) (a_words : Nat) (m_markMany : Int32) (a_there : Nat) (a_tried : Nat) (a_best : Nat) (a_found : Nat) (m_thereMany : Int32) (m_foundMany : Int32) (m_orderHow : Int32) (m_orderRing : Int32) (m_orderMany : Int32) (m_hasBest : Int32) (m_bestTop : Int64) (m_bestBy : Int64) (a_weights : Nat) (a_shared : Nat) (m_random : Int32) (m_truePlace : Int32) (m_trueWay : Int32) (m_seconds : Int32) (m_done : Int32) (m_feelings : Int32) (m_tries : Int32) (m_leftOver : Int32) (m_playDoor : Int32) (m_playRing : Int32) (m_isOpen : Int32) (m_isOver : Int32) (m_wasTried : Int32) (m_hasPlayed : Int32) (a_feltNow : Nat) (a_last : Nat) (a_kept : Nat) (m_hasSeconds : Int32) (m_hasTurned : Int32) (m_hasRound : Int32) (a_hasFeels : Nat) (a_isOn : Nat) (m_firstAct : Int32) (m_meanTop : Int64) (m_meanBy : Int64) (a_order : Nat) (m_rowMany : Int32) (m_newSteps : Int32) (g_c : Nat → Int32) (g_shared : Nat → Int64) (g_feltNow : Nat → Int32) (hr_m_thereMany : 1 ≤ m_thereMany.toInt ∧ m_thereMany.toInt ≤ 10) (hr_m_random : 0 ≤ m_random.toInt ∧ m_random.toInt ≤ 65535) (hr_m_truePlace : 0 ≤ m_truePlace.toInt ∧ m_truePlace.toInt ≤ 9) (hr_m_trueWay : 0 ≤ m_trueWay.toInt ∧ m_trueWay.toInt ≤ 1) (hz_m_wasTried : m_wasTried = 0 ∨ m_wasTried = 1) (hC_g_c : zC g_c) : zCv l yX12_pickUp cX12_pickUp 1 none ({ frames := 2, cells := 0, slots := 0, locals := 47 }) G cA [.ref h0] [(h0, .inr (12, [.int m_status, .int m_thrown, .long m_above, .long m_under, .ref a_traySort, .ref a_trayMany, .ref a_numbers, .ref a_tape, .int m_taped, .int m_textEnd, .int m_faultKind, .int m_faultAt, .int m_bad, .int m_badAt, .int m_token, .int m_at, .int m_behind, .int m_number, .int m_letters, .long m_word, .ref a_c, .ref a_words, .int m_markMany, .ref a_there, .ref a_tried, .ref a_best, .ref a_found, .int m_thereMany, .int m_foundMany, .int m_orderHow, .int m_orderRing, .int m_orderMany, .int m_hasBest, .long m_bestTop, .long m_bestBy, .ref a_weights, .ref a_shared, .int m_random, .int m_truePlace, .int m_trueWay, .int m_seconds, .int m_done, .int m_feelings, .int m_tries, .int m_leftOver, .int m_playDoor, .int m_playRing, .int m_isOpen, .int m_isOver, .int m_wasTried, .int m_hasPlayed, .ref a_feltNow, .ref a_last, .ref a_kept, .int m_hasSeconds, .int m_hasTurned, .int m_hasRound, .ref a_hasFeels, .ref a_isOn, .int m_firstAct, .long m_meanTop, .long m_meanBy, .ref a_order, .int m_rowMany, .int m_newSteps])), (a_c, .inl (cA.1 0, 1825, .inl g_c)), (a_shared, .inl (cA.1 1, 20, .inr (.inl g_shared))), (a_feltNow, .inl (cA.1 0, 3, .inl g_feltNow))] (S := Int32 × Int32 × Int32 × Int32 × (Nat → Int32) × (Nat → Int64) × (Nat → Int32)) (fun (u : Int32 × Int32 × Int32 × Int32 × (Nat → Int32) × (Nat → Int64) × (Nat → Int32)) => (0 ≤ u.1.toInt ∧ u.1.toInt ≤ 65535) ∧ (0 ≤ u.2.1.toInt ∧ u.2.1.toInt ≤ 9) ∧ (0 ≤ u.2.2.1.toInt ∧ u.2.2.1.toInt ≤ 1) ∧ (u.2.2.2.1 = 0 ∨ u.2.2.2.1 = 1) ∧ (zC u.2.2.2.2.1) ∧ (zPF g_c u.2.2.2.2.1) ∧ (u.2.1.toInt < m_thereMany.toInt)) (fun (u : Int32 × Int32 × Int32 × Int32 × (Nat → Int32) × (Nat → Int64) × (Nat → Int32)) => [(h0, .inr (12, [.int m_status, .int m_thrown, .long m_above, .long m_under, .ref a_traySort, .ref a_trayMany, .ref a_numbers, .ref a_tape, .int m_taped, .int m_textEnd, .int m_faultKind, .int m_faultAt, .int m_bad, .int m_badAt, .int m_token, .int m_at, .int m_behind, .int m_number, .int m_letters, .long m_word, .ref a_c, .ref a_words, .int m_markMany, .ref a_there, .ref a_tried, .ref a_best, .ref a_found, .int m_thereMany, .int m_foundMany, .int m_orderHow, .int m_orderRing, .int m_orderMany, .int m_hasBest, .long m_bestTop, .long m_bestBy, .ref a_weights, .ref a_shared, .int u.1, .int u.2.1, .int u.2.2.1, .int m_seconds, .int m_done, .int m_feelings, .int m_tries, .int m_leftOver, .int m_playDoor, .int m_playRing, .int m_isOpen, .int m_isOver, .int u.2.2.2.1, .int m_hasPlayed, .ref a_feltNow, .ref a_last, .ref a_kept, .int m_hasSeconds, .int m_hasTurned, .int m_hasRound, .ref a_hasFeels, .ref a_isOn, .int m_firstAct, .long m_meanTop, .long m_meanBy, .ref a_order, .int m_rowMany, .int m_newSteps])), (a_c, .inl (cA.1 0, 1825, .inl u.2.2.2.2.1)), (a_shared, .inl (cA.1 1, 20, .inr (.inl u.2.2.2.2.2.1))), (a_feltNow, .inl (cA.1 0, 3, .inl u.2.2.2.2.2.2))]) 0 0 := by
  have hk_16 : (16 : Int32).toInt = 16 := by decide +kernel
  refine z_start2v (own := RX12) (by decide) (Nat.le_of_ble_eq_true rfl) rfl ?_
  intro p e s m args below meth c A ls Q hx hb hml hts hown hK hE hT hP hD hS hA hl hret
  have hl : lv_has ls 1 [(0, .ref h0)] := hl
  refine lv_aload_n hx hb dX12_pickUp_0 rfl (lv_at hl 0 rfl) ?_
  refine lv_aload_n hx hb dX12_pickUp_1 rfl (lv_at hl 0 rfl) ?_
  refine lv_aload_n hx hb dX12_pickUp_2 rfl (lv_at hl 0 rfl) ?_
  refine va_get (D := G) (ci := 12) (v := .int m_thereMany) (C := RX12) (T := TX12) (N := 65) hx hb hts inT12 hown hK hP 0 rfl rfl 27 (by decide) (hts _ tw_1912) (fun _ h9 => h9) rfl dX12_pickUp_3 ?_
  refine z_callVi (As := [.int m_thereMany]) (rest := [.ref h0]) (wr := [(a_c, .inl (cA.1 0, 1825, .inl g_c)), (a_shared, .inl (cA.1 1, 20, .inr (.inl g_shared))), (a_feltNow, .inl (cA.1 0, 3, .inl g_feltNow))]) ⟨hx, hb, hml, hown, hts⟩ hK hE hT hP hD hS hA (r_draw l G cA h0 m_status m_thrown m_above m_under a_traySort a_trayMany a_numbers a_tape m_taped m_textEnd m_faultKind m_faultAt m_bad m_badAt m_token m_at m_behind m_number m_letters m_word a_c a_words m_markMany a_there a_tried a_best a_found m_thereMany m_foundMany m_orderHow m_orderRing m_orderMany m_hasBest m_bestTop m_bestBy a_weights a_shared m_random m_truePlace m_trueWay m_seconds m_done m_feelings m_tries m_leftOver m_playDoor m_playRing m_isOpen m_isOver m_wasTried m_hasPlayed a_feltNow a_last a_kept m_hasSeconds m_hasTurned m_hasRound a_hasFeels a_isOn m_firstAct m_meanTop m_meanBy a_order m_rowMany m_newSteps m_thereMany (z_rgw hr_m_thereMany (by decide) (by decide)) hr_m_random) lk_RX12_528 ⟨rfl, rfl⟩ ⟨Nat.le_of_ble_eq_true rfl, Nat.le_of_ble_eq_true rfl⟩ 12 rfl rfl rfl [0] [1, 2, 3] rfl rfl (by decide) rfl hl.1 rfl (lv_room (Nat.le_of_ble_eq_true rfl)) dX12_pickUp_6 ⟨Nat.le_of_ble_eq_true rfl, Nat.le_of_ble_eq_true rfl⟩ (fun r_2 u_3 H locs hw hP hD hS => ?_)
  obtain ⟨n_1, rfl⟩ : ∃ z, z = u_3 := ⟨_, rfl⟩
  obtain ⟨hr_r_2, hr_n_1, hf_4⟩ := hw
  have hn_k_5 : 0 ≤ r_2.toInt ∧ r_2.toInt ≤ 9 := by omega
  refine va_put (D := G) (ci := 12) (v := .int r_2) (ty := .int) (C := RX12) (T := TX12) (N := 65) hx hb hts inT12 tyX12 tyX12_ok nmX12 hown hK hP hD hS 3 rfl rfl 38 (by decide) (hts _ tw_1922) (fun _ h9 => h9) rfl (tyX12_ok 38 (by decide)) rfl rfl (Nat.le_of_ble_eq_true rfl) dX12_pickUp_9 (fun H locs hP hD hS => ?_)
  refine lv_aload_n hx hb dX12_pickUp_12 rfl (lv_at hl 0 rfl) ?_
  refine lv_aload_n hx hb dX12_pickUp_13 rfl (lv_at hl 0 rfl) ?_
  refine lv_bipush (v := 16) hx hb dX12_pickUp_14 (by decide) ?_
  refine z_callVi (As := [.int 16]) (rest := [.ref h0]) (wr := [(a_c, .inl (cA.1 0, 1825, .inl g_c)), (a_shared, .inl (cA.1 1, 20, .inr (.inl g_shared))), (a_feltNow, .inl (cA.1 0, 3, .inl g_feltNow))]) ⟨hx, hb, hml, hown, hts⟩ hK hE hT hP hD hS hA (r_draw l G cA h0 m_status m_thrown m_above m_under a_traySort a_trayMany a_numbers a_tape m_taped m_textEnd m_faultKind m_faultAt m_bad m_badAt m_token m_at m_behind m_number m_letters m_word a_c a_words m_markMany a_there a_tried a_best a_found m_thereMany m_foundMany m_orderHow m_orderRing m_orderMany m_hasBest m_bestTop m_bestBy a_weights a_shared n_1 r_2 m_trueWay m_seconds m_done m_feelings m_tries m_leftOver m_playDoor m_playRing m_isOpen m_isOver m_wasTried m_hasPlayed a_feltNow a_last a_kept m_hasSeconds m_hasTurned m_hasRound a_hasFeels a_isOn m_firstAct m_meanTop m_meanBy a_order m_rowMany m_newSteps 16 (by decide +kernel) hr_n_1) lk_RX12_528 ⟨rfl, rfl⟩ ⟨Nat.le_of_ble_eq_true rfl, Nat.le_of_ble_eq_true rfl⟩ 12 rfl rfl rfl [3] [0, 1, 2] rfl rfl (by decide) rfl hl.1 rfl (lv_room (Nat.le_of_ble_eq_true rfl)) dX12_pickUp_16 ⟨Nat.le_of_ble_eq_true rfl, Nat.le_of_ble_eq_true rfl⟩ (fun r_7 u_8 H locs hw hP hD hS => ?_)
  obtain ⟨n_6, rfl⟩ : ∃ z, z = u_8 := ⟨_, rfl⟩
  obtain ⟨hr_r_7, hr_n_6, hf_9⟩ := hw
  refine lv_aload_n hx hb dX12_pickUp_19 rfl (lv_at hl 0 rfl) ?_
  refine va_get (D := G) (ci := 12) (v := .ref a_c) (C := RX12) (T := TX12) (N := 65) hx hb hts inT12 hown hK hP 3 rfl rfl 20 (by decide) (hts _ tw_1905) (fun _ h9 => h9) rfl dX12_pickUp_20 ?_
  refine lv_bipush (v := 9) hx hb dX12_pickUp_23 (by decide) ?_
  refine va_iald hx hb hK hP 0 0 rfl rfl (z_in (i := 9) (n := 1825) (by decide +kernel) (by decide +kernel)) dX12_pickUp_25 ?_
  refine lv_topi (fun x_10 he_x_10 => ?_)
  have hr_x_10 := z_ctk hC_g_c he_x_10 (k := 9) (lo := 0) (hi := 16) (by decide +kernel) (by decide +kernel) (by decide +kernel)
  refine lv_icmp_ge (tgt := 33) hx hb dX12_pickUp_26 (by decide) (fun c_11 => ?_) (fun c_11 => ?_)
  · have b_12 := z_fgeT c_11
    refine lv_iconst (v := 0) hx hb dX12_pickUp_33 (by decide) ?_
    refine va_put (D := G) (ci := 12) (v := .int 0) (ty := .int) (C := RX12) (T := TX12) (N := 65) hx hb hts inT12 tyX12 tyX12_ok nmX12 hown hK hP hD hS 3 rfl rfl 39 (by decide) (hts _ tw_1923) (fun _ h9 => h9) rfl (tyX12_ok 39 (by decide)) rfl rfl (Nat.le_of_ble_eq_true rfl) dX12_pickUp_34 (fun H locs hP hD hS => ?_)
    refine lv_aload_n hx hb dX12_pickUp_37 rfl (lv_at hl 0 rfl) ?_
    refine z_callVv (As := []) (rest := []) (wr := [(a_feltNow, .inl (cA.1 0, 3, .inl g_feltNow))]) ⟨hx, hb, hml, hown, hts⟩ hK hE hT hP hD hS hA (r_beginThought l G cA h0 m_status m_thrown m_above m_under a_traySort a_trayMany a_numbers a_tape m_taped m_textEnd m_faultKind m_faultAt m_bad m_badAt m_token m_at m_behind m_number m_letters m_word a_c a_words m_markMany a_there a_tried a_best a_found m_thereMany m_foundMany m_orderHow m_orderRing m_orderMany m_hasBest m_bestTop m_bestBy a_weights a_shared n_6 r_2 0 m_seconds m_done m_feelings m_tries m_leftOver m_playDoor m_playRing m_isOpen m_isOver m_wasTried m_hasPlayed a_feltNow a_last a_kept m_hasSeconds m_hasTurned m_hasRound a_hasFeels a_isOn m_firstAct m_meanTop m_meanBy a_order m_rowMany m_newSteps g_c g_shared (z_rgw hr_m_thereMany (by decide) (by decide)) hC_g_c) lk_RX12_320 ⟨rfl, rfl⟩ ⟨Nat.le_of_ble_eq_true rfl, Nat.le_of_ble_eq_true rfl⟩ 12 rfl rfl rfl [3, 0, 1] [2] rfl rfl (by decide) rfl hl.1 rfl (lv_room (Nat.le_of_ble_eq_true rfl)) dX12_pickUp_38 ⟨Nat.le_of_ble_eq_true rfl, Nat.le_of_ble_eq_true rfl⟩ (fun u_16 H locs hw hP hD hS => ?_)
    obtain ⟨n_13, n_14⟩ := u_16
    try dsimp only at hw
    obtain ⟨hC_n_13, hf_17⟩ := hw
    have hs_18 : zPF g_c n_13 := (zPF_trans (zPF_refl g_c) hf_17)
    refine lv_aload_n hx hb dX12_pickUp_41 rfl (lv_at hl 0 rfl) ?_
    refine z_callVv (As := []) (rest := []) (wr := [(a_c, .inl (cA.1 0, 1825, .inl n_13)), (a_shared, .inl (cA.1 1, 20, .inr (.inl n_14)))]) ⟨hx, hb, hml, hown, hts⟩ hK hE hT hP hD hS hA (r_forgetHere l G cA h0 m_status m_thrown m_above m_under a_traySort a_trayMany a_numbers a_tape m_taped m_textEnd m_faultKind m_faultAt m_bad m_badAt m_token m_at m_behind m_number m_letters m_word a_c a_words m_markMany a_there a_tried a_best a_found m_thereMany m_foundMany m_orderHow m_orderRing m_orderMany m_hasBest m_bestTop m_bestBy a_weights a_shared n_6 r_2 0 m_seconds m_done m_feelings m_tries m_leftOver m_playDoor m_playRing m_isOpen m_isOver m_wasTried m_hasPlayed a_feltNow a_last a_kept m_hasSeconds m_hasTurned m_hasRound a_hasFeels a_isOn m_firstAct m_meanTop m_meanBy a_order m_rowMany m_newSteps g_feltNow hz_m_wasTried) lk_RX12_537 ⟨rfl, rfl⟩ ⟨Nat.le_of_ble_eq_true rfl, Nat.le_of_ble_eq_true rfl⟩ 12 rfl rfl rfl [1, 0] [2, 3] rfl rfl (by decide) rfl hl.1 rfl (lv_room (Nat.le_of_ble_eq_true rfl)) dX12_pickUp_42 ⟨Nat.le_of_ble_eq_true rfl, Nat.le_of_ble_eq_true rfl⟩ (fun u_22 H locs hw hP hD hS => ?_)
    obtain ⟨n_19, n_20⟩ := u_22
    try dsimp only at hw
    have hz_n_19 := hw
    have hpost : (0 ≤ n_6.toInt ∧ n_6.toInt ≤ 65535) ∧ (0 ≤ r_2.toInt ∧ r_2.toInt ≤ 9) ∧ (0 ≤ (0 : Int32).toInt ∧ (0 : Int32).toInt ≤ 1) ∧ (n_19 = 0 ∨ n_19 = 1) ∧ (zC n_13) ∧ (zPF g_c n_13) ∧ (r_2.toInt < m_thereMany.toInt) := ⟨hr_n_6, (by omega), (by decide +kernel), hz_n_19, hC_n_13, hs_18, (by omega)⟩
    exact hret _ _ _ _ _ (n_6, r_2, 0, n_19, n_13, n_14, n_20) [2, 0, 1, 3] hP hD hS rfl (by decide) dX12_pickUp_45 hpost
  · have b_23 := z_fltF c_11
    refine lv_iconst (v := 1) hx hb dX12_pickUp_29 (by decide) ?_
    refine lv_goto (tgt := 34) hx hb dX12_pickUp_30 (by decide) ?_
    refine va_put (D := G) (ci := 12) (v := .int 1) (ty := .int) (C := RX12) (T := TX12) (N := 65) hx hb hts inT12 tyX12 tyX12_ok nmX12 hown hK hP hD hS 3 rfl rfl 39 (by decide) (hts _ tw_1923) (fun _ h9 => h9) rfl (tyX12_ok 39 (by decide)) rfl rfl (Nat.le_of_ble_eq_true rfl) dX12_pickUp_34 (fun H locs hP hD hS => ?_)
    refine lv_aload_n hx hb dX12_pickUp_37 rfl (lv_at hl 0 rfl) ?_
    refine z_callVv (As := []) (rest := []) (wr := [(a_feltNow, .inl (cA.1 0, 3, .inl g_feltNow))]) ⟨hx, hb, hml, hown, hts⟩ hK hE hT hP hD hS hA (r_beginThought l G cA h0 m_status m_thrown m_above m_under a_traySort a_trayMany a_numbers a_tape m_taped m_textEnd m_faultKind m_faultAt m_bad m_badAt m_token m_at m_behind m_number m_letters m_word a_c a_words m_markMany a_there a_tried a_best a_found m_thereMany m_foundMany m_orderHow m_orderRing m_orderMany m_hasBest m_bestTop m_bestBy a_weights a_shared n_6 r_2 1 m_seconds m_done m_feelings m_tries m_leftOver m_playDoor m_playRing m_isOpen m_isOver m_wasTried m_hasPlayed a_feltNow a_last a_kept m_hasSeconds m_hasTurned m_hasRound a_hasFeels a_isOn m_firstAct m_meanTop m_meanBy a_order m_rowMany m_newSteps g_c g_shared (z_rgw hr_m_thereMany (by decide) (by decide)) hC_g_c) lk_RX12_320 ⟨rfl, rfl⟩ ⟨Nat.le_of_ble_eq_true rfl, Nat.le_of_ble_eq_true rfl⟩ 12 rfl rfl rfl [3, 0, 1] [2] rfl rfl (by decide) rfl hl.1 rfl (lv_room (Nat.le_of_ble_eq_true rfl)) dX12_pickUp_38 ⟨Nat.le_of_ble_eq_true rfl, Nat.le_of_ble_eq_true rfl⟩ (fun u_27 H locs hw hP hD hS => ?_)
    obtain ⟨n_24, n_25⟩ := u_27
    try dsimp only at hw
    obtain ⟨hC_n_24, hf_28⟩ := hw
    have hs_29 : zPF g_c n_24 := (zPF_trans (zPF_refl g_c) hf_28)
    refine lv_aload_n hx hb dX12_pickUp_41 rfl (lv_at hl 0 rfl) ?_
    refine z_callVv (As := []) (rest := []) (wr := [(a_c, .inl (cA.1 0, 1825, .inl n_24)), (a_shared, .inl (cA.1 1, 20, .inr (.inl n_25)))]) ⟨hx, hb, hml, hown, hts⟩ hK hE hT hP hD hS hA (r_forgetHere l G cA h0 m_status m_thrown m_above m_under a_traySort a_trayMany a_numbers a_tape m_taped m_textEnd m_faultKind m_faultAt m_bad m_badAt m_token m_at m_behind m_number m_letters m_word a_c a_words m_markMany a_there a_tried a_best a_found m_thereMany m_foundMany m_orderHow m_orderRing m_orderMany m_hasBest m_bestTop m_bestBy a_weights a_shared n_6 r_2 1 m_seconds m_done m_feelings m_tries m_leftOver m_playDoor m_playRing m_isOpen m_isOver m_wasTried m_hasPlayed a_feltNow a_last a_kept m_hasSeconds m_hasTurned m_hasRound a_hasFeels a_isOn m_firstAct m_meanTop m_meanBy a_order m_rowMany m_newSteps g_feltNow hz_m_wasTried) lk_RX12_537 ⟨rfl, rfl⟩ ⟨Nat.le_of_ble_eq_true rfl, Nat.le_of_ble_eq_true rfl⟩ 12 rfl rfl rfl [1, 0] [2, 3] rfl rfl (by decide) rfl hl.1 rfl (lv_room (Nat.le_of_ble_eq_true rfl)) dX12_pickUp_42 ⟨Nat.le_of_ble_eq_true rfl, Nat.le_of_ble_eq_true rfl⟩ (fun u_33 H locs hw hP hD hS => ?_)
    obtain ⟨n_30, n_31⟩ := u_33
    try dsimp only at hw
    have hz_n_30 := hw
    have hpost : (0 ≤ n_6.toInt ∧ n_6.toInt ≤ 65535) ∧ (0 ≤ r_2.toInt ∧ r_2.toInt ≤ 9) ∧ (0 ≤ (1 : Int32).toInt ∧ (1 : Int32).toInt ≤ 1) ∧ (n_30 = 0 ∨ n_30 = 1) ∧ (zC n_24) ∧ (zPF g_c n_24) ∧ (r_2.toInt < m_thereMany.toInt) := ⟨hr_n_6, (by omega), (by decide +kernel), hz_n_30, hC_n_24, hs_29, (by omega)⟩
    exact hret _ _ _ _ _ (n_6, r_2, 1, n_30, n_24, n_25, n_31) [2, 0, 1, 3] hP hD hS rfl (by decide) dX12_pickUp_45 hpost
theorem zft_in {g : Nat → Int32} (hC : zC g) {k f w v : Int} (h0 : 0 ≤ k) (h1 : k ≤ 9) (h2 : 0 ≤ f) (h3 : f ≤ 2) (hf : f < (g 0).toInt) (hv0 : 0 ≤ v) (hv : v ≤ 3) : 0 ≤ zft g k f w v ∧ zft g k f w v ≤ 16 := by
  have hs := zst_in hC (w := w) h0 h1 h2 h3 hf
  unfold zft
  have hk := zck_at (a := 17) (b := 64) (lo := 0) (hi := 16) (by decide +kernel) (j := 17 + 16 * f.toNat + 4 * (zst g k f w).toNat + v.toNat) (by omega) (by omega)
  have := hC.1 (17 + 16 * f.toNat + 4 * (zst g k f w).toNat + v.toNat) (by omega)
  omega
set_option maxHeartbeats 4000000 in
set_option maxRecDepth 100000 in
theorem r_doFeel (l : Launch) (G : va_G) (cA : zCA) (h0 : Nat) (m_status : Int32) (m_thrown : Int32) (m_above : Int64) (m_under : Int64) (a_traySort : Nat) (a_trayMany : Nat) (a_numbers : Nat) (a_tape : Nat) (m_taped : Int32) (m_textEnd : Int32) (m_faultKind : Int32) (m_faultAt : Int32) (m_bad : Int32) (m_badAt : Int32) (m_token : Int32) (m_at : Int32) (m_behind : Int32) (m_number : Int32) (m_letters : Int32) (m_word : Int64) (a_c : Nat) (a_words : Nat) (m_markMany : Int32) (a_there : Nat) (a_tried : Nat) (a_best : Nat) (a_found : Nat) (m_thereMany : Int32) (m_foundMany : Int32) (m_orderHow : Int32) (m_orderRing : Int32) (m_orderMany : Int32) (m_hasBest : Int32) (m_bestTop : Int64) (m_bestBy : Int64) (a_weights : Nat) (a_shared : Nat) (m_random : Int32) (m_truePlace : Int32) (m_trueWay : Int32) (m_seconds : Int32) (m_done : Int32) (m_feelings : Int32) (m_tries : Int32) (m_leftOver : Int32) (m_playDoor : Int32) (m_playRing : Int32) (m_isOpen : Int32) (m_isOver : Int32) (m_wasTried : Int32) (m_hasPlayed : Int32) (a_feltNow : Nat) (a_last : Nat) (a_kept : Nat) (m_hasSeconds : Int32) (m_hasTurned : Int32) (m_hasRound : Int32) (a_hasFeels : Nat) (a_isOn : Nat) (m_firstAct : Int32) (m_meanTop : Int64) (m_meanBy : Int64) (a_order : Nat) (m_rowMany : Int32) (m_newSteps : Int32) (g_c : Nat → Int32) (g_there : Nat → Int32) (g_shared : Nat → Int64) (g_feltNow : Nat → Int32) (f : Int32) (hr_m_thereMany : 1 ≤ m_thereMany.toInt ∧ m_thereMany.toInt ≤ 10) (hr_m_random : 0 ≤ m_random.toInt ∧ m_random.toInt ≤ 65535) (hr_m_truePlace : 0 ≤ m_truePlace.toInt ∧ m_truePlace.toInt ≤ 9) (hr_m_trueWay : 0 ≤ m_trueWay.toInt ∧ m_trueWay.toInt ≤ 1) (hC_g_c : zC g_c) (hC_g_there : zRg 10 0 9 g_there) (hp_0 : m_truePlace.toInt < m_thereMany.toInt) : zCv l yX12_doFeel cX12_doFeel 5 none ({ frames := 3, cells := 0, slots := 0, locals := 71 }) G cA [.ref h0, .int f] [(h0, .inr (12, [.int m_status, .int m_thrown, .long m_above, .long m_under, .ref a_traySort, .ref a_trayMany, .ref a_numbers, .ref a_tape, .int m_taped, .int m_textEnd, .int m_faultKind, .int m_faultAt, .int m_bad, .int m_badAt, .int m_token, .int m_at, .int m_behind, .int m_number, .int m_letters, .long m_word, .ref a_c, .ref a_words, .int m_markMany, .ref a_there, .ref a_tried, .ref a_best, .ref a_found, .int m_thereMany, .int m_foundMany, .int m_orderHow, .int m_orderRing, .int m_orderMany, .int m_hasBest, .long m_bestTop, .long m_bestBy, .ref a_weights, .ref a_shared, .int m_random, .int m_truePlace, .int m_trueWay, .int m_seconds, .int m_done, .int m_feelings, .int m_tries, .int m_leftOver, .int m_playDoor, .int m_playRing, .int m_isOpen, .int m_isOver, .int m_wasTried, .int m_hasPlayed, .ref a_feltNow, .ref a_last, .ref a_kept, .int m_hasSeconds, .int m_hasTurned, .int m_hasRound, .ref a_hasFeels, .ref a_isOn, .int m_firstAct, .long m_meanTop, .long m_meanBy, .ref a_order, .int m_rowMany, .int m_newSteps])), (a_c, .inl (cA.1 0, 1825, .inl g_c)), (a_there, .inl (cA.1 0, 10, .inl g_there)), (a_shared, .inl (cA.1 1, 20, .inr (.inl g_shared))), (a_feltNow, .inl (cA.1 0, 3, .inl g_feltNow))] (S := Int32 × Int32 × Int32 × (Nat → Int32) × (Nat → Int64) × (Nat → Int32)) (fun (u : Int32 × Int32 × Int32 × (Nat → Int32) × (Nat → Int64) × (Nat → Int32)) => (0 ≤ u.1.toInt ∧ u.1.toInt ≤ 65535) ∧ (zC u.2.2.2.1) ∧ (zPF g_c u.2.2.2.1)) (fun (u : Int32 × Int32 × Int32 × (Nat → Int32) × (Nat → Int64) × (Nat → Int32)) => [(h0, .inr (12, [.int m_status, .int m_thrown, .long m_above, .long m_under, .ref a_traySort, .ref a_trayMany, .ref a_numbers, .ref a_tape, .int m_taped, .int m_textEnd, .int m_faultKind, .int m_faultAt, .int m_bad, .int m_badAt, .int m_token, .int m_at, .int m_behind, .int m_number, .int m_letters, .long m_word, .ref a_c, .ref a_words, .int m_markMany, .ref a_there, .ref a_tried, .ref a_best, .ref a_found, .int m_thereMany, .int m_foundMany, .int m_orderHow, .int m_orderRing, .int m_orderMany, .int m_hasBest, .long m_bestTop, .long m_bestBy, .ref a_weights, .ref a_shared, .int u.1, .int m_truePlace, .int m_trueWay, .int u.2.1, .int m_done, .int u.2.2.1, .int m_tries, .int m_leftOver, .int m_playDoor, .int m_playRing, .int m_isOpen, .int m_isOver, .int m_wasTried, .int m_hasPlayed, .ref a_feltNow, .ref a_last, .ref a_kept, .int m_hasSeconds, .int m_hasTurned, .int m_hasRound, .ref a_hasFeels, .ref a_isOn, .int m_firstAct, .long m_meanTop, .long m_meanBy, .ref a_order, .int m_rowMany, .int m_newSteps])), (a_c, .inl (cA.1 0, 1825, .inl u.2.2.2.1)), (a_there, .inl (cA.1 0, 10, .inl g_there)), (a_shared, .inl (cA.1 1, 20, .inr (.inl u.2.2.2.2.1))), (a_feltNow, .inl (cA.1 0, 3, .inl u.2.2.2.2.2))]) 0 0 := by
  have hk_0 : (0 : Int32).toInt = 0 := by decide +kernel
  have hk_1 : (1 : Int32).toInt = 1 := by decide +kernel
  have hk_16 : (16 : Int32).toInt = 16 := by decide +kernel
  refine z_start2v (own := RX12) (by decide) (Nat.le_of_ble_eq_true rfl) rfl ?_
  intro p e s m args below meth c A ls Q hx hb hml hts hown hK hE hT hP hD hS hA hl hret
  have hl : lv_has ls 5 [(0, .ref h0), (1, .int f)] := hl
  refine lv_aload_n hx hb dX12_doFeel_0 rfl (lv_at hl 0 rfl) ?_
  refine lv_iload_n hx hb dX12_doFeel_1 rfl (lv_at hl 1 rfl) ?_
  refine z_callVi (As := [.int f]) (rest := []) (wr := [(a_there, .inl (cA.1 0, 10, .inl g_there)), (a_shared, .inl (cA.1 1, 20, .inr (.inl g_shared))), (a_feltNow, .inl (cA.1 0, 3, .inl g_feltNow))]) ⟨hx, hb, hml, hown, hts⟩ hK hE hT hP hD hS hA (r_isFeature l G cA h0 m_status m_thrown m_above m_under a_traySort a_trayMany a_numbers a_tape m_taped m_textEnd m_faultKind m_faultAt m_bad m_badAt m_token m_at m_behind m_number m_letters m_word a_c a_words m_markMany a_there a_tried a_best a_found m_thereMany m_foundMany m_orderHow m_orderRing m_orderMany m_hasBest m_bestTop m_bestBy a_weights a_shared m_random m_truePlace m_trueWay m_seconds m_done m_feelings m_tries m_leftOver m_playDoor m_playRing m_isOpen m_isOver m_wasTried m_hasPlayed a_feltNow a_last a_kept m_hasSeconds m_hasTurned m_hasRound a_hasFeels a_isOn m_firstAct m_meanTop m_meanBy a_order m_rowMany m_newSteps g_c f hC_g_c) lk_RX12_264 ⟨rfl, rfl⟩ ⟨Nat.le_of_ble_eq_true rfl, Nat.le_of_ble_eq_true rfl⟩ 12 rfl rfl rfl [0, 1] [2, 3, 4] rfl rfl (by decide) rfl hl.1 rfl (lv_room (Nat.le_of_ble_eq_true rfl)) dX12_doFeel_2 ⟨Nat.le_of_ble_eq_true rfl, Nat.le_of_ble_eq_true rfl⟩ (fun r_1 u_2 H locs hw hP hD hS => ?_)
  obtain ⟨he_r_1, hw⟩ := hw
  rcases hw with ⟨rfl, -⟩ | ⟨rfl, hf_3, hf_4⟩
  · skip
    refine lv_if_ne (tgt := 9) hx hb dX12_doFeel_5 (by decide) (fun h9 => absurd (by decide +kernel) h9) (fun _ => ?_)
    have hpost : (0 ≤ m_random.toInt ∧ m_random.toInt ≤ 65535) ∧ (zC g_c) ∧ (zPF g_c g_c) := ⟨hr_m_random, hC_g_c, (zPF_refl g_c)⟩
    exact hret _ _ _ _ _ (m_random, m_seconds, m_feelings, g_c, g_shared, g_feltNow) [3, 4, 0, 1, 2] hP hD hS rfl (by decide) dX12_doFeel_8 hpost
  · skip
    refine lv_if_ne (tgt := 9) hx hb dX12_doFeel_5 (by decide) (fun _ => ?_) (fun h9 => absurd h9 (by decide +kernel))
    refine lv_aload_n hx hb dX12_doFeel_9 rfl (lv_at hl 0 rfl) ?_
    refine lv_dup hx hb dX12_doFeel_10 rfl ?_
    refine va_get (D := G) (ci := 12) (v := .int m_seconds) (C := RX12) (T := TX12) (N := 65) hx hb hts inT12 hown hK hP 3 rfl rfl 40 (by decide) (hts _ tw_1924) (fun _ h9 => h9) rfl dX12_doFeel_11 ?_
    refine lv_aload_n hx hb dX12_doFeel_14 rfl (lv_at hl 0 rfl) ?_
    refine va_get (D := G) (ci := 12) (v := .ref a_c) (C := RX12) (T := TX12) (N := 65) hx hb hts inT12 hown hK hP 3 rfl rfl 20 (by decide) (hts _ tw_1905) (fun _ h9 => h9) rfl dX12_doFeel_15 ?_
    refine lv_iconst (v := 5) hx hb dX12_doFeel_18 (by decide) ?_
    refine va_iald hx hb hK hP 4 0 rfl rfl (z_in (i := 5) (n := 1825) (by decide +kernel) (by decide +kernel)) dX12_doFeel_19 ?_
    refine lv_topi (fun x_5 he_x_5 => ?_)
    have hr_x_5 := z_ctk hC_g_c he_x_5 (k := 5) (lo := 0) (hi := 99) (by decide +kernel) (by decide +kernel) (by decide +kernel)
    refine lv_iadd hx hb dX12_doFeel_20 ?_
    have hL_m_seconds := z_full m_seconds
    refine lv_topi (fun x_6 he_x_6 => ?_)
    refine va_put (D := G) (ci := 12) (v := .int x_6) (ty := .int) (C := RX12) (T := TX12) (N := 65) hx hb hts inT12 tyX12 tyX12_ok nmX12 hown hK hP hD hS 3 rfl rfl 40 (by decide) (hts _ tw_1924) (fun _ h9 => h9) rfl (tyX12_ok 40 (by decide)) rfl rfl (Nat.le_of_ble_eq_true rfl) dX12_doFeel_21 (fun H locs hP hD hS => ?_)
    refine lv_aload_n hx hb dX12_doFeel_24 rfl (lv_at hl 0 rfl) ?_
    refine lv_dup hx hb dX12_doFeel_25 rfl ?_
    refine va_get (D := G) (ci := 12) (v := .int m_feelings) (C := RX12) (T := TX12) (N := 65) hx hb hts inT12 hown hK hP 3 rfl rfl 42 (by decide) (hts _ tw_1926) (fun _ h9 => h9) rfl dX12_doFeel_26 ?_
    refine lv_iconst (v := 1) hx hb dX12_doFeel_29 (by decide) ?_
    refine lv_iadd hx hb dX12_doFeel_30 ?_
    have hL_m_feelings := z_full m_feelings
    refine lv_topi (fun x_7 he_x_7 => ?_)
    refine va_put (D := G) (ci := 12) (v := .int x_7) (ty := .int) (C := RX12) (T := TX12) (N := 65) hx hb hts inT12 tyX12 tyX12_ok nmX12 hown hK hP hD hS 3 rfl rfl 42 (by decide) (hts _ tw_1926) (fun _ h9 => h9) rfl (tyX12_ok 42 (by decide)) rfl rfl (Nat.le_of_ble_eq_true rfl) dX12_doFeel_31 (fun H locs hP hD hS => ?_)
    refine lv_aload_n hx hb dX12_doFeel_34 rfl (lv_at hl 0 rfl) ?_
    refine lv_bipush (v := 16) hx hb dX12_doFeel_35 (by decide) ?_
    refine z_callVi (As := [.int 16]) (rest := []) (wr := [(a_there, .inl (cA.1 0, 10, .inl g_there)), (a_shared, .inl (cA.1 1, 20, .inr (.inl g_shared))), (a_feltNow, .inl (cA.1 0, 3, .inl g_feltNow)), (a_c, .inl (cA.1 0, 1825, .inl g_c))]) ⟨hx, hb, hml, hown, hts⟩ hK hE hT hP hD hS hA (r_draw l G cA h0 m_status m_thrown m_above m_under a_traySort a_trayMany a_numbers a_tape m_taped m_textEnd m_faultKind m_faultAt m_bad m_badAt m_token m_at m_behind m_number m_letters m_word a_c a_words m_markMany a_there a_tried a_best a_found m_thereMany m_foundMany m_orderHow m_orderRing m_orderMany m_hasBest m_bestTop m_bestBy a_weights a_shared m_random m_truePlace m_trueWay x_6 m_done x_7 m_tries m_leftOver m_playDoor m_playRing m_isOpen m_isOver m_wasTried m_hasPlayed a_feltNow a_last a_kept m_hasSeconds m_hasTurned m_hasRound a_hasFeels a_isOn m_firstAct m_meanTop m_meanBy a_order m_rowMany m_newSteps 16 (by decide +kernel) hr_m_random) lk_RX12_528 ⟨rfl, rfl⟩ ⟨Nat.le_of_ble_eq_true rfl, Nat.le_of_ble_eq_true rfl⟩ 12 rfl rfl rfl [3] [0, 1, 2, 4] rfl rfl (by decide) rfl hl.1 rfl (lv_room (Nat.le_of_ble_eq_true rfl)) dX12_doFeel_37 ⟨Nat.le_of_ble_eq_true rfl, Nat.le_of_ble_eq_true rfl⟩ (fun r_9 u_10 H locs hw hP hD hS => ?_)
    obtain ⟨n_8, rfl⟩ : ∃ z, z = u_10 := ⟨_, rfl⟩
    obtain ⟨hr_r_9, hr_n_8, hf_11⟩ := hw
    refine lv_istore_n (lv' := [(2, .int r_9), (0, .ref h0), (1, .int f)]) hx hb dX12_doFeel_40 rfl hl (by decide) rfl (fun ls hl => ?_)
    refine lv_iconst (v := 0) hx hb dX12_doFeel_41 (by decide) ?_
    refine lv_istore_n (lv' := [(3, .int 0), (2, .int r_9), (0, .ref h0), (1, .int f)]) hx hb dX12_doFeel_42 rfl hl (by decide) rfl (fun ls hl => ?_)
    refine lv_aload_n hx hb dX12_doFeel_43 rfl (lv_at hl 2 rfl) ?_
    refine lv_aload_n hx hb dX12_doFeel_44 rfl (lv_at hl 2 rfl) ?_
    refine va_get (D := G) (ci := 12) (v := .ref a_there) (C := RX12) (T := TX12) (N := 65) hx hb hts inT12 hown hK hP 4 rfl rfl 23 (by decide) (hts _ tw_1908) (fun _ h9 => h9) rfl dX12_doFeel_45 ?_
    refine lv_aload_n hx hb dX12_doFeel_48 rfl (lv_at hl 2 rfl) ?_
    refine va_get (D := G) (ci := 12) (v := .int m_truePlace) (C := RX12) (T := TX12) (N := 65) hx hb hts inT12 hown hK hP 4 rfl rfl 38 (by decide) (hts _ tw_1922) (fun _ h9 => h9) rfl dX12_doFeel_49 ?_
    refine va_iald hx hb hK hP 0 0 rfl rfl (z_inN (by omega) (by omega)) dX12_doFeel_52 ?_
    refine lv_topi (fun x_12 he_x_12 => ?_)
    have hr_x_12 := z_rg hC_g_there he_x_12 (by omega) (by omega)
    have hst := zst_in hC_g_c (k := x_12.toInt) (f := f.toInt) (w := m_trueWay.toInt) (by omega) (by omega) (by omega) (by omega) (by omega)
    have h16 := zsm_row hC_g_c (k := x_12.toInt) (f := f.toInt) (w := m_trueWay.toInt) (by omega) (by omega) (by omega) (by omega) (by omega)
    refine lv_iload_n hx hb dX12_doFeel_53 rfl (lv_at hl 3 rfl) ?_
    refine lv_aload_n hx hb dX12_doFeel_54 rfl (lv_at hl 2 rfl) ?_
    refine va_get (D := G) (ci := 12) (v := .int m_trueWay) (C := RX12) (T := TX12) (N := 65) hx hb hts inT12 hown hK hP 4 rfl rfl 39 (by decide) (hts _ tw_1923) (fun _ h9 => h9) rfl dX12_doFeel_55 ?_
    refine lv_iconst (v := 0) hx hb dX12_doFeel_58 (by decide) ?_
    refine z_callVi (As := [.int x_12, .int f, .int m_trueWay, .int 0]) (rest := []) (wr := [(a_there, .inl (cA.1 0, 10, .inl g_there)), (a_shared, .inl (cA.1 1, 20, .inr (.inl g_shared))), (a_feltNow, .inl (cA.1 0, 3, .inl g_feltNow))]) ⟨hx, hb, hml, hown, hts⟩ hK hE hT hP hD hS hA (r_felt l G cA h0 m_status m_thrown m_above m_under a_traySort a_trayMany a_numbers a_tape m_taped m_textEnd m_faultKind m_faultAt m_bad m_badAt m_token m_at m_behind m_number m_letters m_word a_c a_words m_markMany a_there a_tried a_best a_found m_thereMany m_foundMany m_orderHow m_orderRing m_orderMany m_hasBest m_bestTop m_bestBy a_weights a_shared n_8 m_truePlace m_trueWay x_6 m_done x_7 m_tries m_leftOver m_playDoor m_playRing m_isOpen m_isOver m_wasTried m_hasPlayed a_feltNow a_last a_kept m_hasSeconds m_hasTurned m_hasRound a_hasFeels a_isOn m_firstAct m_meanTop m_meanBy a_order m_rowMany m_newSteps g_c x_12 f m_trueWay 0 hr_x_12 (by omega) hr_m_trueWay (by decide +kernel) hC_g_c) lk_RX12_329 ⟨rfl, rfl⟩ ⟨Nat.le_of_ble_eq_true rfl, Nat.le_of_ble_eq_true rfl⟩ 12 rfl rfl rfl [4, 3] [0, 1, 2] rfl rfl (by decide) rfl hl.1 rfl (lv_room (Nat.le_of_ble_eq_true rfl)) dX12_doFeel_59 ⟨Nat.le_of_ble_eq_true rfl, Nat.le_of_ble_eq_true rfl⟩ (fun r_13 u_14 H locs hw hP hD hS => ?_)
    obtain ⟨hr_r_13, hf_15⟩ := hw
    have hrz_r_13 : 0 ≤ r_13.toInt ∧ r_13.toInt ≤ 16 := by rw [hf_15 hst.1]; exact zft_in hC_g_c (by omega) (by omega) (by omega) (by omega) (by omega) (by omega) (by omega)
    refine lv_istore (lv' := [(4, .int r_13), (3, .int 0), (2, .int r_9), (0, .ref h0), (1, .int f)]) hx hb dX12_doFeel_62 hl (by decide) rfl (fun ls hl => ?_)
    have hlp_47 : ∀ (n : Nat) (v_35 : Int32) (v_36 : Int32) (H : Heap) (locs : List Loc) (ls : Array Slot), (2147483647 - v_35.toInt).toNat < n → (0 ≤ v_35.toInt ∧ v_35.toInt ≤ 3) → (0 ≤ v_36.toInt ∧ v_36.toInt ≤ 31) → (v_36.toInt = zsm g_c x_12.toInt f.toInt m_trueWay.toInt v_35.toInt.toNat) → va_P G vwCl [(a_there, .inl (cA.1 0, 10, .inl g_there)), (a_shared, .inl (cA.1 1, 20, .inr (.inl g_shared))), (a_feltNow, .inl (cA.1 0, 3, .inl g_feltNow)), (h0, .inr (12, [.int m_status, .int m_thrown, .long m_above, .long m_under, .ref a_traySort, .ref a_trayMany, .ref a_numbers, .ref a_tape, .int m_taped, .int m_textEnd, .int m_faultKind, .int m_faultAt, .int m_bad, .int m_badAt, .int m_token, .int m_at, .int m_behind, .int m_number, .int m_letters, .long m_word, .ref a_c, .ref a_words, .int m_markMany, .ref a_there, .ref a_tried, .ref a_best, .ref a_found, .int m_thereMany, .int m_foundMany, .int m_orderHow, .int m_orderRing, .int m_orderMany, .int m_hasBest, .long m_bestTop, .long m_bestBy, .ref a_weights, .ref a_shared, .int n_8, .int m_truePlace, .int m_trueWay, .int x_6, .int m_done, .int x_7, .int m_tries, .int m_leftOver, .int m_playDoor, .int m_playRing, .int m_isOpen, .int m_isOver, .int m_wasTried, .int m_hasPlayed, .ref a_feltNow, .ref a_last, .ref a_kept, .int m_hasSeconds, .int m_hasTurned, .int m_hasRound, .ref a_hasFeels, .ref a_isOn, .int m_firstAct, .long m_meanTop, .long m_meanBy, .ref a_order, .int m_rowMany, .int m_newSteps])), (a_c, .inl (cA.1 0, 1825, .inl g_c))] H → va_D A [(a_there, .inl (cA.1 0, 10, .inl g_there)), (a_shared, .inl (cA.1 1, 20, .inr (.inl g_shared))), (a_feltNow, .inl (cA.1 0, 3, .inl g_feltNow)), (h0, .inr (12, [.int m_status, .int m_thrown, .long m_above, .long m_under, .ref a_traySort, .ref a_trayMany, .ref a_numbers, .ref a_tape, .int m_taped, .int m_textEnd, .int m_faultKind, .int m_faultAt, .int m_bad, .int m_badAt, .int m_token, .int m_at, .int m_behind, .int m_number, .int m_letters, .long m_word, .ref a_c, .ref a_words, .int m_markMany, .ref a_there, .ref a_tried, .ref a_best, .ref a_found, .int m_thereMany, .int m_foundMany, .int m_orderHow, .int m_orderRing, .int m_orderMany, .int m_hasBest, .long m_bestTop, .long m_bestBy, .ref a_weights, .ref a_shared, .int n_8, .int m_truePlace, .int m_trueWay, .int x_6, .int m_done, .int x_7, .int m_tries, .int m_leftOver, .int m_playDoor, .int m_playRing, .int m_isOpen, .int m_isOver, .int m_wasTried, .int m_hasPlayed, .ref a_feltNow, .ref a_last, .ref a_kept, .int m_hasSeconds, .int m_hasTurned, .int m_hasRound, .ref a_hasFeels, .ref a_isOn, .int m_firstAct, .long m_meanTop, .long m_meanBy, .ref a_order, .int m_rowMany, .int m_newSteps])), (a_c, .inl (cA.1 0, 1825, .inl g_c))] → va_S A s.heap H locs → lv_has ls 5 [(0, .ref h0), (1, .int f), (2, .int r_9), (3, .int v_35), (4, .int v_36)] → W p l e ({ frames := 3, cells := 0, slots := 0, locals := 71 }) s m args below meth c H locs 0 0 Q (F0 m 64 ls []) := by
      intro n
      induction n with
      | zero =>
        intro v_35 v_36 H locs ls hmu_hlp_47 hr_v_35 hr_v_36 hi_46 hP hD hS hl
        exact absurd hmu_hlp_47 (Nat.not_lt_zero _)
      | succ n ih_48 =>
        intro v_35 v_36 H locs ls hmu_hlp_47 hr_v_35 hr_v_36 hi_46 hP hD hS hl
        refine lv_iload hx hb dX12_doFeel_64 (lv_at hl 4 rfl) ?_
        refine lv_iload_n hx hb dX12_doFeel_66 rfl (lv_at hl 2 rfl) ?_
        refine lv_icmp_gt (tgt := 100) hx hb dX12_doFeel_67 (by decide) (fun c_49 => ?_) (fun c_49 => ?_)
        · have b_50 := z_fgtT c_49
          refine lv_aload_n hx hb dX12_doFeel_100 rfl (lv_at hl 0 rfl) ?_
          refine va_get (D := G) (ci := 12) (v := .ref a_feltNow) (C := RX12) (T := TX12) (N := 65) hx hb hts inT12 hown hK hP 3 rfl rfl 51 (by decide) (hts _ tw_1934) (fun _ h9 => h9) rfl dX12_doFeel_101 ?_
          refine lv_iload_n hx hb dX12_doFeel_104 rfl (lv_at hl 1 rfl) ?_
          refine lv_iload_n hx hb dX12_doFeel_105 rfl (lv_at hl 3 rfl) ?_
          refine z_iast hx hb hK hP hD hS 2 0 rfl rfl (z_inN (by omega) (by omega)) dX12_doFeel_106 (fun g_51 hg_g_51 H locs hP hD hS => ?_)
          refine lv_aload_n hx hb dX12_doFeel_107 rfl (lv_at hl 0 rfl) ?_
          refine lv_iload_n hx hb dX12_doFeel_108 rfl (lv_at hl 1 rfl) ?_
          refine lv_iload_n hx hb dX12_doFeel_109 rfl (lv_at hl 3 rfl) ?_
          refine z_callVi (As := [.int f, .int v_35]) (rest := []) (wr := [(a_feltNow, .inl (cA.1 0, 3, .inl g_51))]) ⟨hx, hb, hml, hown, hts⟩ hK hE hT hP hD hS hA (r_feelAs l G cA h0 m_status m_thrown m_above m_under a_traySort a_trayMany a_numbers a_tape m_taped m_textEnd m_faultKind m_faultAt m_bad m_badAt m_token m_at m_behind m_number m_letters m_word a_c a_words m_markMany a_there a_tried a_best a_found m_thereMany m_foundMany m_orderHow m_orderRing m_orderMany m_hasBest m_bestTop m_bestBy a_weights a_shared n_8 m_truePlace m_trueWay x_6 m_done x_7 m_tries m_leftOver m_playDoor m_playRing m_isOpen m_isOver m_wasTried m_hasPlayed a_feltNow a_last a_kept m_hasSeconds m_hasTurned m_hasRound a_hasFeels a_isOn m_firstAct m_meanTop m_meanBy a_order m_rowMany m_newSteps g_c g_there g_shared f v_35 (by omega) hr_v_35 (z_rgw hr_m_thereMany (by decide) (by decide)) hC_g_c hC_g_there) lk_RX12_333 ⟨rfl, rfl⟩ ⟨Nat.le_of_ble_eq_true rfl, Nat.le_of_ble_eq_true rfl⟩ 12 rfl rfl rfl [3, 4, 0, 1] [2] rfl rfl (by decide) rfl hl.1 rfl (lv_room (Nat.le_of_ble_eq_true rfl)) dX12_doFeel_110 ⟨Nat.le_of_ble_eq_true rfl, Nat.le_of_ble_eq_true rfl⟩ (fun r_54 u_55 H locs hw hP hD hS => ?_)
          obtain ⟨n_52, n_53⟩ := u_55
          try dsimp only at hw
          rcases hw with ⟨rfl, hC_n_52, hf_56⟩ | ⟨rfl, hC_n_52, hf_57⟩
          · skip
            have hs_58 : zPF g_c n_52 := (zPF_trans (zPF_refl g_c) hf_56)
            refine lv_pop hx hb dX12_doFeel_113 rfl ?_
            have hpost : (0 ≤ n_8.toInt ∧ n_8.toInt ≤ 65535) ∧ (zC n_52) ∧ (zPF g_c n_52) := ⟨hr_n_8, hC_n_52, hs_58⟩
            exact hret _ _ _ _ _ (n_8, x_6, x_7, n_52, n_53, g_51) [1, 2, 3, 4, 0] hP hD hS rfl (by decide) dX12_doFeel_114 hpost
          · skip
            have hs_59 : zPF g_c n_52 := (zPF_trans (zPF_refl g_c) hf_57)
            refine lv_pop hx hb dX12_doFeel_113 rfl ?_
            have hpost : (0 ≤ n_8.toInt ∧ n_8.toInt ≤ 65535) ∧ (zC n_52) ∧ (zPF g_c n_52) := ⟨hr_n_8, hC_n_52, hs_59⟩
            exact hret _ _ _ _ _ (n_8, x_6, x_7, n_52, n_53, g_51) [1, 2, 3, 4, 0] hP hD hS rfl (by decide) dX12_doFeel_114 hpost
        · have b_60 := z_fleF c_49
          have hlt_v_35 := zsm_lt hi_46 h16 (by omega) (by omega) (by omega)
          obtain ⟨x_61, he_x_61⟩ : ∃ z : Int32, z = v_35 + 1 := ⟨_, rfl⟩
          have hq_x_61 := z_addq he_x_61 (rfl : v_35.toInt = _) hk_1 (by omega) (by omega)
          refine lv_iinc (v := x_61) (lv' := [(3, .int x_61), (0, .ref h0), (1, .int f), (2, .int r_9), (4, .int v_36)]) hx hb dX12_doFeel_70 hl (k := 3) rfl ((z_ofi (by decide +kernel)).trans he_x_61.symm) (by decide) rfl (fun ls hl => ?_)
          refine lv_iload hx hb dX12_doFeel_73 (lv_at hl 4 rfl) ?_
          refine lv_aload_n hx hb dX12_doFeel_75 rfl (lv_at hl 1 rfl) ?_
          refine lv_aload_n hx hb dX12_doFeel_76 rfl (lv_at hl 1 rfl) ?_
          refine va_get (D := G) (ci := 12) (v := .ref a_there) (C := RX12) (T := TX12) (N := 65) hx hb hts inT12 hown hK hP 3 rfl rfl 23 (by decide) (hts _ tw_1908) (fun _ h9 => h9) rfl dX12_doFeel_77 ?_
          refine lv_aload_n hx hb dX12_doFeel_80 rfl (lv_at hl 1 rfl) ?_
          refine va_get (D := G) (ci := 12) (v := .int m_truePlace) (C := RX12) (T := TX12) (N := 65) hx hb hts inT12 hown hK hP 3 rfl rfl 38 (by decide) (hts _ tw_1922) (fun _ h9 => h9) rfl dX12_doFeel_81 ?_
          refine va_iald hx hb hK hP 0 0 rfl rfl (z_inN (by omega) (by omega)) dX12_doFeel_84 ?_
          refine lv_topi (fun x_62 he_x_62 => ?_)
          have hr_x_62 := z_rg hC_g_there he_x_62 (by omega) (by omega)
          have hkk_x_62 : x_62 = x_12 := he_x_62.trans he_x_12.symm
          refine lv_iload_n hx hb dX12_doFeel_85 rfl (lv_at hl 2 rfl) ?_
          refine lv_aload_n hx hb dX12_doFeel_86 rfl (lv_at hl 1 rfl) ?_
          refine va_get (D := G) (ci := 12) (v := .int m_trueWay) (C := RX12) (T := TX12) (N := 65) hx hb hts inT12 hown hK hP 3 rfl rfl 39 (by decide) (hts _ tw_1923) (fun _ h9 => h9) rfl dX12_doFeel_87 ?_
          refine lv_iload_n hx hb dX12_doFeel_90 rfl (lv_at hl 0 rfl) ?_
          refine z_callVi (As := [.int x_62, .int f, .int m_trueWay, .int x_61]) (rest := [.int v_36]) (wr := [(a_there, .inl (cA.1 0, 10, .inl g_there)), (a_shared, .inl (cA.1 1, 20, .inr (.inl g_shared))), (a_feltNow, .inl (cA.1 0, 3, .inl g_feltNow))]) ⟨hx, hb, hml, hown, hts⟩ hK hE hT hP hD hS hA (r_felt l G cA h0 m_status m_thrown m_above m_under a_traySort a_trayMany a_numbers a_tape m_taped m_textEnd m_faultKind m_faultAt m_bad m_badAt m_token m_at m_behind m_number m_letters m_word a_c a_words m_markMany a_there a_tried a_best a_found m_thereMany m_foundMany m_orderHow m_orderRing m_orderMany m_hasBest m_bestTop m_bestBy a_weights a_shared n_8 m_truePlace m_trueWay x_6 m_done x_7 m_tries m_leftOver m_playDoor m_playRing m_isOpen m_isOver m_wasTried m_hasPlayed a_feltNow a_last a_kept m_hasSeconds m_hasTurned m_hasRound a_hasFeels a_isOn m_firstAct m_meanTop m_meanBy a_order m_rowMany m_newSteps g_c x_62 f m_trueWay x_61 hr_x_62 (by omega) hr_m_trueWay (by omega) hC_g_c) lk_RX12_329 ⟨rfl, rfl⟩ ⟨Nat.le_of_ble_eq_true rfl, Nat.le_of_ble_eq_true rfl⟩ 12 rfl rfl rfl [3, 4] [0, 1, 2] rfl rfl (by decide) rfl hl.1 rfl (lv_room (Nat.le_of_ble_eq_true rfl)) dX12_doFeel_91 ⟨Nat.le_of_ble_eq_true rfl, Nat.le_of_ble_eq_true rfl⟩ (fun r_63 u_64 H locs hw hP hD hS => ?_)
          obtain ⟨hr_r_63, hf_65⟩ := hw
          have hrz_r_63 : 0 ≤ r_63.toInt ∧ r_63.toInt ≤ 16 := by rw [hf_65 (by rw [hkk_x_62]; exact hst.1)]; exact zft_in hC_g_c (by omega) (by omega) (by omega) (by omega) (by omega) (by omega) (by omega)
          refine lv_iadd hx hb dX12_doFeel_94 ?_
          refine lv_topi (fun x_66 he_x_66 => ?_)
          have hq_x_66 := z_addq he_x_66 (rfl : v_36.toInt = _) (rfl : r_63.toInt = _) (by omega) (by omega)
          refine lv_istore (lv' := [(4, .int x_66), (3, .int x_61), (0, .ref h0), (1, .int f), (2, .int r_9)]) hx hb dX12_doFeel_95 hl (by decide) rfl (fun ls hl => ?_)
          refine lv_goto (tgt := 64) hx hb dX12_doFeel_97 (by decide) ?_
          exact ih_48 x_61 x_66 H locs ls (by omega) (by omega) (by omega) (by rw [show x_66.toInt = v_36.toInt + r_63.toInt by omega, hq_x_61]; exact zsm_step hi_46 (by omega) (by rw [← hq_x_61, ← hkk_x_62]; exact hf_65 (by rw [hkk_x_62]; exact hst.1))) hP hD hS (lv_sub hl [2, 3, 4, 1, 0] rfl)
    exact hlp_47 _ 0 r_13 _ _ _ (Nat.lt_succ_self _) (by decide +kernel) (by omega) (zsm_0 (hf_15 hst.1)) hP hD hS (lv_sub hl [3, 4, 2, 1, 0] rfl)
