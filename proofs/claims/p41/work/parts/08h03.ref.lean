set_option maxHeartbeats 40000000 in
set_option maxRecDepth 100000 in
theorem r_readOld_0 (l : Launch) (G : va_G) (cA : zCA) (h0 : Nat) (m_status : Int32) (m_thrown : Int32) (m_above : Int64) (m_under : Int64) (a_traySort : Nat) (a_trayMany : Nat) (a_numbers : Nat) (a_tape : Nat) (m_taped : Int32) (m_textEnd : Int32) (m_faultKind : Int32) (m_faultAt : Int32) (m_bad : Int32) (m_badAt : Int32) (m_token : Int32) (m_at : Int32) (m_behind : Int32) (m_number : Int32) (m_letters : Int32) (m_word : Int64) (a_c : Nat) (a_words : Nat) (m_markMany : Int32) (a_there : Nat) (a_tried : Nat) (a_best : Nat) (a_found : Nat) (m_thereMany : Int32) (m_foundMany : Int32) (m_orderHow : Int32) (m_orderRing : Int32) (m_orderMany : Int32) (m_hasBest : Int32) (m_bestTop : Int64) (m_bestBy : Int64) (a_weights : Nat) (a_shared : Nat) (m_random : Int32) (m_truePlace : Int32) (m_trueWay : Int32) (m_seconds : Int32) (m_done : Int32) (m_feelings : Int32) (m_tries : Int32) (m_leftOver : Int32) (m_playDoor : Int32) (m_playRing : Int32) (m_isOpen : Int32) (m_isOver : Int32) (m_wasTried : Int32) (m_hasPlayed : Int32) (a_feltNow : Nat) (a_last : Nat) (a_kept : Nat) (m_hasSeconds : Int32) (m_hasTurned : Int32) (m_hasRound : Int32) (a_hasFeels : Nat) (a_isOn : Nat) (m_firstAct : Int32) (m_meanTop : Int64) (m_meanBy : Int64) (a_order : Nat) (m_rowMany : Int32) (m_newSteps : Int32) (g_c : Nat → Int32) (g_words : Nat → Int64) (hr_m_at : 0 ≤ m_at.toInt ∧ m_at.toInt ≤ 900) (hr_m_bad : 0 ≤ m_bad.toInt ∧ m_bad.toInt ≤ 9) (hr_m_token : 0 ≤ m_token.toInt ∧ m_token.toInt ≤ 4) (hr_m_letters : 0 ≤ m_letters.toInt ∧ m_letters.toInt ≤ 900) (hC_g_c : zC g_c) : zCi l yX12_readOld cX12_readOld 4 (some .int) ({ frames := 3, cells := 0, slots := 0, locals := 67 }) G cA [.ref h0, .int 0, .int 0] [(h0, .inr (12, [.int m_status, .int m_thrown, .long m_above, .long m_under, .ref a_traySort, .ref a_trayMany, .ref a_numbers, .ref a_tape, .int m_taped, .int m_textEnd, .int m_faultKind, .int m_faultAt, .int m_bad, .int m_badAt, .int m_token, .int m_at, .int m_behind, .int m_number, .int m_letters, .long m_word, .ref a_c, .ref a_words, .int m_markMany, .ref a_there, .ref a_tried, .ref a_best, .ref a_found, .int m_thereMany, .int m_foundMany, .int m_orderHow, .int m_orderRing, .int m_orderMany, .int m_hasBest, .long m_bestTop, .long m_bestBy, .ref a_weights, .ref a_shared, .int m_random, .int m_truePlace, .int m_trueWay, .int m_seconds, .int m_done, .int m_feelings, .int m_tries, .int m_leftOver, .int m_playDoor, .int m_playRing, .int m_isOpen, .int m_isOver, .int m_wasTried, .int m_hasPlayed, .ref a_feltNow, .ref a_last, .ref a_kept, .int m_hasSeconds, .int m_hasTurned, .int m_hasRound, .ref a_hasFeels, .ref a_isOn, .int m_firstAct, .long m_meanTop, .long m_meanBy, .ref a_order, .int m_rowMany, .int m_newSteps])), (a_c, .inl (cA.1 0, 1825, .inl g_c)), (a_words, .inl (cA.1 1, 105, .inr (.inl g_words)))] (S := Int32 × Int32) (fun (r : Int32) (u : Int32 × Int32) => (r = (F_r_readOld_0 m_bad m_badAt m_token m_at m_letters m_word g_c g_words).1) ∧ (u.1 = (F_r_readOld_0 m_bad m_badAt m_token m_at m_letters m_word g_c g_words).2.1) ∧ (u.2 = (F_r_readOld_0 m_bad m_badAt m_token m_at m_letters m_word g_c g_words).2.2) ∧ (((-1) ≤ r.toInt ∧ r.toInt ≤ 2) ∧ (0 ≤ u.1.toInt ∧ u.1.toInt ≤ 9) ∧ (m_behind.toInt ≤ m_behind.toInt) ∧ (0 < m_bad.toInt → 0 < u.1.toInt) ∧ (u.1.toInt ≤ 0 → 0 ≤ r.toInt ∧ r.toInt < (g_c 1460).toInt))) (fun (u : Int32 × Int32) => [(h0, .inr (12, [.int m_status, .int m_thrown, .long m_above, .long m_under, .ref a_traySort, .ref a_trayMany, .ref a_numbers, .ref a_tape, .int m_taped, .int m_textEnd, .int m_faultKind, .int m_faultAt, .int u.1, .int u.2, .int m_token, .int m_at, .int m_behind, .int m_number, .int m_letters, .long m_word, .ref a_c, .ref a_words, .int m_markMany, .ref a_there, .ref a_tried, .ref a_best, .ref a_found, .int m_thereMany, .int m_foundMany, .int m_orderHow, .int m_orderRing, .int m_orderMany, .int m_hasBest, .long m_bestTop, .long m_bestBy, .ref a_weights, .ref a_shared, .int m_random, .int m_truePlace, .int m_trueWay, .int m_seconds, .int m_done, .int m_feelings, .int m_tries, .int m_leftOver, .int m_playDoor, .int m_playRing, .int m_isOpen, .int m_isOver, .int m_wasTried, .int m_hasPlayed, .ref a_feltNow, .ref a_last, .ref a_kept, .int m_hasSeconds, .int m_hasTurned, .int m_hasRound, .ref a_hasFeels, .ref a_isOn, .int m_firstAct, .long m_meanTop, .long m_meanBy, .ref a_order, .int m_rowMany, .int m_newSteps])), (a_c, .inl (cA.1 0, 1825, .inl g_c)), (a_words, .inl (cA.1 1, 105, .inr (.inl g_words)))]) 0 0 := by
  have hk_0 : (0 : Int32).toInt = 0 := by decide +kernel
  have hk_3 : (3 : Int32).toInt = 3 := by decide +kernel
  have hk_4 : (4 : Int32).toInt = 4 := by decide +kernel
  refine z_start2i (own := RX12) (by decide) (Nat.le_of_ble_eq_true rfl) rfl ?_
  intro p e s m args below meth c A ls Q hx hb hml hts hown hK hE hT hP hD hS hA hl hret
  have hl : lv_has ls 4 [(0, .ref h0), (1, .int 0), (2, .int 0)] := hl
  refine lv_aload_n hx hb dX12_readOld_0 rfl (lv_at hl 0 rfl) ?_
  refine va_get (D := G) (ci := 12) (v := .int m_bad) (C := RX12) (T := TX12) (N := 65) hx hb hts inT12 hown hK hP 0 rfl rfl 12 (by decide) (hts _ tw_1897) (fun _ h9 => h9) rfl dX12_readOld_1 ?_
  refine lv_if_ne (tgt := 18) hx hb dX12_readOld_4 (by decide) (fun c_1 => ?_) (fun c_1 => ?_)
  · have b_2 := z_fneT c_1
    refine lv_aload_n hx hb dX12_readOld_18 rfl (lv_at hl 0 rfl) ?_
    refine va_get (D := G) (ci := 12) (v := .int m_bad) (C := RX12) (T := TX12) (N := 65) hx hb hts inT12 hown hK hP 0 rfl rfl 12 (by decide) (hts _ tw_1897) (fun _ h9 => h9) rfl dX12_readOld_19 ?_
    refine lv_if_ne (tgt := 44) hx hb dX12_readOld_22 (by decide) (fun c_3 => ?_) (fun h9 => (z_no (by have h8 := z_feqF h9; omega)))
    have b_4 := z_fneT c_3
    refine lv_iconst (v := 0) hx hb dX12_readOld_44 (by decide) ?_
    refine lv_istore_n (lv' := [(3, .int 0), (0, .ref h0), (1, .int 0), (2, .int 0)]) hx hb dX12_readOld_45 rfl hl (by decide) rfl (fun ls hl => ?_)
    refine lv_aload_n hx hb dX12_readOld_46 rfl (lv_at hl 1 rfl) ?_
    refine va_get (D := G) (ci := 12) (v := .int m_bad) (C := RX12) (T := TX12) (N := 65) hx hb hts inT12 hown hK hP 0 rfl rfl 12 (by decide) (hts _ tw_1897) (fun _ h9 => h9) rfl dX12_readOld_47 ?_
    refine lv_if_ne (tgt := 66) hx hb dX12_readOld_50 (by decide) (fun c_5 => ?_) (fun h9 => (z_no (by have h8 := z_feqF h9; omega)))
    have b_6 := z_fneT c_5
    refine lv_iload_n hx hb dX12_readOld_66 rfl (lv_at hl 0 rfl) ?_
    have hpost : ((-1) ≤ (0 : Int32).toInt ∧ (0 : Int32).toInt ≤ 2) ∧ (0 ≤ m_bad.toInt ∧ m_bad.toInt ≤ 9) ∧ (m_behind.toInt ≤ m_behind.toInt) ∧ (0 < m_bad.toInt → 0 < m_bad.toInt) ∧ (m_bad.toInt ≤ 0 → 0 ≤ (0 : Int32).toInt ∧ (0 : Int32).toInt < (g_c 1460).toInt) := ⟨(by decide +kernel), hr_m_bad, (by omega), (by omega), (by omega)⟩
    have hX_7 : F_r_readOld_0 m_bad m_badAt m_token m_at m_letters m_word g_c g_words = (((0 : Int32), m_bad, m_badAt) : Int32 × Int32 × Int32) := by
      refine (F_r_readOld_0_s ..).trans ?_
      refine (if_neg c_1).trans ?_
      exact rfl
    exact hret _ _ _ _ _ _ (m_bad, m_badAt) [0, 1, 2] hP hD hS rfl (by decide) dX12_readOld_67 ⟨(congrArg (fun z9 => z9.1) hX_7).symm, (congrArg (fun z9 => z9.2.1) hX_7).symm, (congrArg (fun z9 => z9.2.2) hX_7).symm, hpost⟩
  · have b_8 := z_feqF c_1
    refine lv_aload_n hx hb dX12_readOld_7 rfl (lv_at hl 0 rfl) ?_
    refine z_callVi (As := []) (rest := []) (wr := [(a_c, .inl (cA.1 0, 1825, .inl g_c)), (a_words, .inl (cA.1 1, 105, .inr (.inl g_words)))]) ⟨hx, hb, hml, hown, hts⟩ hK hE hT hP hD hS hA (r_isHouseName l G cA h0 m_status m_thrown m_above m_under a_traySort a_trayMany a_numbers a_tape m_taped m_textEnd m_faultKind m_faultAt m_bad m_badAt m_token m_at m_behind m_number m_letters m_word a_c a_words m_markMany a_there a_tried a_best a_found m_thereMany m_foundMany m_orderHow m_orderRing m_orderMany m_hasBest m_bestTop m_bestBy a_weights a_shared m_random m_truePlace m_trueWay m_seconds m_done m_feelings m_tries m_leftOver m_playDoor m_playRing m_isOpen m_isOver m_wasTried m_hasPlayed a_feltNow a_last a_kept m_hasSeconds m_hasTurned m_hasRound a_hasFeels a_isOn m_firstAct m_meanTop m_meanBy a_order m_rowMany m_newSteps hr_m_token hr_m_letters) lk_RX12_200 ⟨rfl, rfl⟩ ⟨Nat.le_of_ble_eq_true rfl, Nat.le_of_ble_eq_true rfl⟩ 12 rfl rfl rfl [0] [1, 2] rfl rfl (by decide) rfl hl.1 rfl (lv_room (Nat.le_of_ble_eq_true rfl)) dX12_readOld_8 ⟨Nat.le_of_ble_eq_true rfl, Nat.le_of_ble_eq_true rfl⟩ (fun r_9 u_10 H locs hw hP hD hS => ?_)
    obtain ⟨he_r_9, hw⟩ := hw
    rcases hw with ⟨rfl, -⟩ | ⟨rfl, -⟩
    · skip
      refine lv_if_ne (tgt := 18) hx hb dX12_readOld_11 (by decide) (fun h9 => absurd (by decide +kernel) h9) (fun _ => ?_)
      refine lv_aload_n hx hb dX12_readOld_14 rfl (lv_at hl 0 rfl) ?_
      refine z_callVv (As := []) (rest := []) (wr := [(a_c, .inl (cA.1 0, 1825, .inl g_c)), (a_words, .inl (cA.1 1, 105, .inr (.inl g_words)))]) ⟨hx, hb, hml, hown, hts⟩ hK hE hT hP hD hS hA (r_wrong l G cA h0 m_status m_thrown m_above m_under a_traySort a_trayMany a_numbers a_tape m_taped m_textEnd m_faultKind m_faultAt m_bad m_badAt m_token m_at m_behind m_number m_letters m_word a_c a_words m_markMany a_there a_tried a_best a_found m_thereMany m_foundMany m_orderHow m_orderRing m_orderMany m_hasBest m_bestTop m_bestBy a_weights a_shared m_random m_truePlace m_trueWay m_seconds m_done m_feelings m_tries m_leftOver m_playDoor m_playRing m_isOpen m_isOver m_wasTried m_hasPlayed a_feltNow a_last a_kept m_hasSeconds m_hasTurned m_hasRound a_hasFeels a_isOn m_firstAct m_meanTop m_meanBy a_order m_rowMany m_newSteps hr_m_at hr_m_bad hr_m_token) lk_RX12_187 ⟨rfl, rfl⟩ ⟨Nat.le_of_ble_eq_true rfl, Nat.le_of_ble_eq_true rfl⟩ 12 rfl rfl rfl [2] [0, 1] rfl rfl (by decide) rfl hl.1 rfl (lv_room (Nat.le_of_ble_eq_true rfl)) dX12_readOld_15 ⟨Nat.le_of_ble_eq_true rfl, Nat.le_of_ble_eq_true rfl⟩ (fun u_15 H locs hw hP hD hS => ?_)
      obtain ⟨n_12, n_13⟩ := u_15
      try dsimp only at hw
      obtain ⟨he_n_12, he_n_13, hw⟩ := hw
      have hr_n_12 := hw
      refine lv_aload_n hx hb dX12_readOld_18 rfl (lv_at hl 0 rfl) ?_
      refine va_get (D := G) (ci := 12) (v := .int n_12) (C := RX12) (T := TX12) (N := 65) hx hb hts inT12 hown hK hP 2 rfl rfl 12 (by decide) (hts _ tw_1897) (fun _ h9 => h9) rfl dX12_readOld_19 ?_
      refine lv_if_ne (tgt := 44) hx hb dX12_readOld_22 (by decide) (fun c_17 => ?_) (fun h9 => (z_no (by have h8 := z_feqF h9; omega)))
      have b_18 := z_fneT c_17
      refine lv_iconst (v := 0) hx hb dX12_readOld_44 (by decide) ?_
      refine lv_istore_n (lv' := [(3, .int 0), (0, .ref h0), (1, .int 0), (2, .int 0)]) hx hb dX12_readOld_45 rfl hl (by decide) rfl (fun ls hl => ?_)
      refine lv_aload_n hx hb dX12_readOld_46 rfl (lv_at hl 1 rfl) ?_
      refine va_get (D := G) (ci := 12) (v := .int n_12) (C := RX12) (T := TX12) (N := 65) hx hb hts inT12 hown hK hP 2 rfl rfl 12 (by decide) (hts _ tw_1897) (fun _ h9 => h9) rfl dX12_readOld_47 ?_
      refine lv_if_ne (tgt := 66) hx hb dX12_readOld_50 (by decide) (fun c_19 => ?_) (fun h9 => (z_no (by have h8 := z_feqF h9; omega)))
      have b_20 := z_fneT c_19
      refine lv_iload_n hx hb dX12_readOld_66 rfl (lv_at hl 0 rfl) ?_
      have hpost : ((-1) ≤ (0 : Int32).toInt ∧ (0 : Int32).toInt ≤ 2) ∧ (0 ≤ n_12.toInt ∧ n_12.toInt ≤ 9) ∧ (m_behind.toInt ≤ m_behind.toInt) ∧ (0 < m_bad.toInt → 0 < n_12.toInt) ∧ (n_12.toInt ≤ 0 → 0 ≤ (0 : Int32).toInt ∧ (0 : Int32).toInt < (g_c 1460).toInt) := ⟨(by decide +kernel), (z_rgw hr_n_12 (by decide) (by decide)), (by omega), (by omega), (by omega)⟩
      have hX_21 : F_r_readOld_0 m_bad m_badAt m_token m_at m_letters m_word g_c g_words = (((0 : Int32), n_12, n_13) : Int32 × Int32 × Int32) := by
        refine (F_r_readOld_0_s ..).trans ?_
        refine (if_pos c_1).trans ?_
        extract_lets -merge -useContext +onlyGivenNames w9 y9; have e9 : (0 : Int32) = w9 := he_r_9; clear_value w9; subst e9
        refine (if_pos rfl).trans ?_
        extract_lets -merge -useContext +onlyGivenNames w9 y3_0 y3_1; have e9 : (n_12, n_13) = w9 := ((z_tS he_n_12 he_n_13.symm)).symm; clear_value w9; subst e9
        exact rfl
      exact hret _ _ _ _ _ _ (n_12, n_13) [2, 0, 1] hP hD hS rfl (by decide) dX12_readOld_67 ⟨(congrArg (fun z9 => z9.1) hX_21).symm, (congrArg (fun z9 => z9.2.1) hX_21).symm, (congrArg (fun z9 => z9.2.2) hX_21).symm, hpost⟩
    · skip
      refine lv_if_ne (tgt := 18) hx hb dX12_readOld_11 (by decide) (fun _ => ?_) (fun h9 => absurd h9 (by decide +kernel))
      refine lv_aload_n hx hb dX12_readOld_18 rfl (lv_at hl 0 rfl) ?_
      refine va_get (D := G) (ci := 12) (v := .int m_bad) (C := RX12) (T := TX12) (N := 65) hx hb hts inT12 hown hK hP 2 rfl rfl 12 (by decide) (hts _ tw_1897) (fun _ h9 => h9) rfl dX12_readOld_19 ?_
      refine lv_if_ne (tgt := 44) hx hb dX12_readOld_22 (by decide) (fun h9 => (z_no (by have h8 := z_fneT h9; omega))) (fun c_22 => ?_)
      have b_23 := z_feqF c_22
      refine lv_aload_n hx hb dX12_readOld_25 rfl (lv_at hl 0 rfl) ?_
      refine lv_iconst (v := 4) hx hb dX12_readOld_26 (by decide) ?_
      refine lv_iload_n hx hb dX12_readOld_27 rfl (lv_at hl 2 rfl) ?_
      refine lv_aload_n hx hb dX12_readOld_28 rfl (lv_at hl 0 rfl) ?_
      refine va_get (D := G) (ci := 12) (v := .ref a_c) (C := RX12) (T := TX12) (N := 65) hx hb hts inT12 hown hK hP 2 rfl rfl 20 (by decide) (hts _ tw_1905) (fun _ h9 => h9) rfl dX12_readOld_29 ?_
      refine lv_sipush (v := 1460) hx hb dX12_readOld_32 (by decide) ?_
      refine lv_iload_n hx hb dX12_readOld_35 rfl (lv_at hl 1 rfl) ?_
      refine lv_iadd hx hb dX12_readOld_36 ?_
      refine z_topi (y := 1460) (by decide +kernel) ?_
      refine va_iald hx hb hK hP 0 0 rfl rfl (z_in (i := 1460) (n := 1825) (by decide +kernel) (by decide +kernel)) dX12_readOld_37 ?_
      refine lv_topi (fun x_24 he_x_24 => ?_)
      have hr_x_24 := z_ctk hC_g_c he_x_24 (k := 1460) (lo := 0) (hi := 3) (by decide +kernel) (by decide +kernel) (by decide +kernel)
      have hv_x_24 := z_cv he_x_24 (k := 1460) (by decide +kernel)
      refine z_callVi (As := [.int 4, .int 0, .int x_24]) (rest := []) (wr := [(a_c, .inl (cA.1 0, 1825, .inl g_c))]) ⟨hx, hb, hml, hown, hts⟩ hK hE hT hP hD hS hA (r_named_4_0 l G cA h0 m_status m_thrown m_above m_under a_traySort a_trayMany a_numbers a_tape m_taped m_textEnd m_faultKind m_faultAt m_bad m_badAt m_token m_at m_behind m_number m_letters m_word a_c a_words m_markMany a_there a_tried a_best a_found m_thereMany m_foundMany m_orderHow m_orderRing m_orderMany m_hasBest m_bestTop m_bestBy a_weights a_shared m_random m_truePlace m_trueWay m_seconds m_done m_feelings m_tries m_leftOver m_playDoor m_playRing m_isOpen m_isOver m_wasTried m_hasPlayed a_feltNow a_last a_kept m_hasSeconds m_hasTurned m_hasRound a_hasFeels a_isOn m_firstAct m_meanTop m_meanBy a_order m_rowMany m_newSteps g_words x_24 hr_x_24) lk_RX12_196 ⟨rfl, rfl⟩ ⟨Nat.le_of_ble_eq_true rfl, Nat.le_of_ble_eq_true rfl⟩ 12 rfl rfl rfl [2, 1] [0] rfl rfl (by decide) rfl hl.1 rfl (lv_room (Nat.le_of_ble_eq_true rfl)) dX12_readOld_38 ⟨Nat.le_of_ble_eq_true rfl, Nat.le_of_ble_eq_true rfl⟩ (fun r_25 u_26 H locs hw hP hD hS => ?_)
      obtain ⟨he_r_25, hw⟩ := hw
      obtain ⟨hr_r_25, hf_28⟩ := hw
      refine lv_goto (tgt := 45) hx hb dX12_readOld_41 (by decide) ?_
      refine lv_istore_n (lv' := [(3, .int r_25), (0, .ref h0), (1, .int 0), (2, .int 0)]) hx hb dX12_readOld_45 rfl hl (by decide) rfl (fun ls hl => ?_)
      refine lv_aload_n hx hb dX12_readOld_46 rfl (lv_at hl 1 rfl) ?_
      refine va_get (D := G) (ci := 12) (v := .int m_bad) (C := RX12) (T := TX12) (N := 65) hx hb hts inT12 hown hK hP 1 rfl rfl 12 (by decide) (hts _ tw_1897) (fun _ h9 => h9) rfl dX12_readOld_47 ?_
      refine lv_if_ne (tgt := 66) hx hb dX12_readOld_50 (by decide) (fun h9 => (z_no (by have h8 := z_fneT h9; omega))) (fun c_29 => ?_)
      have b_30 := z_feqF c_29
      refine lv_iload_n hx hb dX12_readOld_53 rfl (lv_at hl 0 rfl) ?_
      refine lv_if_ge (tgt := 66) hx hb dX12_readOld_54 (by decide) (fun c_31 => ?_) (fun c_31 => ?_)
      · have b_32 := z_fgeT c_31
        refine lv_iload_n hx hb dX12_readOld_66 rfl (lv_at hl 0 rfl) ?_
        have hpost : ((-1) ≤ r_25.toInt ∧ r_25.toInt ≤ 2) ∧ (0 ≤ m_bad.toInt ∧ m_bad.toInt ≤ 9) ∧ (m_behind.toInt ≤ m_behind.toInt) ∧ (0 < m_bad.toInt → 0 < m_bad.toInt) ∧ (m_bad.toInt ≤ 0 → 0 ≤ r_25.toInt ∧ r_25.toInt < (g_c 1460).toInt) := ⟨hr_r_25, hr_m_bad, (by omega), (by omega), (by omega)⟩
        have hX_33 : F_r_readOld_0 m_bad m_badAt m_token m_at m_letters m_word g_c g_words = ((r_25, m_bad, m_badAt) : Int32 × Int32 × Int32) := by
          refine (F_r_readOld_0_s ..).trans ?_
          refine (if_pos c_1).trans ?_
          extract_lets -merge -useContext +onlyGivenNames w9 y9; have e9 : (1 : Int32) = w9 := he_r_9; clear_value w9; subst e9
          refine (if_neg (show ¬ (1 : Int32) = 0 by decide)).trans ?_
          try (extract_lets -merge -useContext +onlyGivenNames y9; have e9 : x_24 = y9 := (by first | exact he_x_24 | exact he_x_24.symm); clear_value y9; subst e9)
          extract_lets -merge -useContext +onlyGivenNames w9 y9; have e9 : r_25 = w9 := he_r_25; clear_value w9; subst e9
          refine (if_pos c_31).trans ?_
          exact rfl
        exact hret _ _ _ _ _ _ (m_bad, m_badAt) [1, 0, 2] hP hD hS rfl (by decide) dX12_readOld_67 ⟨(congrArg (fun z9 => z9.1) hX_33).symm, (congrArg (fun z9 => z9.2.1) hX_33).symm, (congrArg (fun z9 => z9.2.2) hX_33).symm, hpost⟩
      · have b_34 := z_fltF c_31
        refine lv_aload_n hx hb dX12_readOld_57 rfl (lv_at hl 1 rfl) ?_
        refine lv_iconst (v := 3) hx hb dX12_readOld_58 (by decide) ?_
        refine lv_aload_n hx hb dX12_readOld_59 rfl (lv_at hl 1 rfl) ?_
        refine va_get (D := G) (ci := 12) (v := .int m_at) (C := RX12) (T := TX12) (N := 65) hx hb hts inT12 hown hK hP 1 rfl rfl 15 (by decide) (hts _ tw_1900) (fun _ h9 => h9) rfl dX12_readOld_60 ?_
        refine z_callVv (As := [.int 3, .int m_at]) (rest := []) (wr := [(a_c, .inl (cA.1 0, 1825, .inl g_c)), (a_words, .inl (cA.1 1, 105, .inr (.inl g_words)))]) ⟨hx, hb, hml, hown, hts⟩ hK hE hT hP hD hS hA (r_fail l G cA h0 m_status m_thrown m_above m_under a_traySort a_trayMany a_numbers a_tape m_taped m_textEnd m_faultKind m_faultAt m_bad m_badAt m_token m_at m_behind m_number m_letters m_word a_c a_words m_markMany a_there a_tried a_best a_found m_thereMany m_foundMany m_orderHow m_orderRing m_orderMany m_hasBest m_bestTop m_bestBy a_weights a_shared m_random m_truePlace m_trueWay m_seconds m_done m_feelings m_tries m_leftOver m_playDoor m_playRing m_isOpen m_isOver m_wasTried m_hasPlayed a_feltNow a_last a_kept m_hasSeconds m_hasTurned m_hasRound a_hasFeels a_isOn m_firstAct m_meanTop m_meanBy a_order m_rowMany m_newSteps 3 m_at (by decide +kernel) hr_m_bad) lk_RX12_180 ⟨rfl, rfl⟩ ⟨Nat.le_of_ble_eq_true rfl, Nat.le_of_ble_eq_true rfl⟩ 12 rfl rfl rfl [1] [0, 2] rfl rfl (by decide) rfl hl.1 rfl (lv_room (Nat.le_of_ble_eq_true rfl)) dX12_readOld_63 ⟨Nat.le_of_ble_eq_true rfl, Nat.le_of_ble_eq_true rfl⟩ (fun u_38 H locs hw hP hD hS => ?_)
        obtain ⟨n_35, n_36⟩ := u_38
        try dsimp only at hw
        obtain ⟨he_n_35, he_n_36, hw⟩ := hw
        obtain ⟨hr_n_35, hf_40⟩ := hw
        refine lv_iload_n hx hb dX12_readOld_66 rfl (lv_at hl 0 rfl) ?_
        have hpost : ((-1) ≤ r_25.toInt ∧ r_25.toInt ≤ 2) ∧ (0 ≤ n_35.toInt ∧ n_35.toInt ≤ 9) ∧ (m_behind.toInt ≤ m_behind.toInt) ∧ (0 < m_bad.toInt → 0 < n_35.toInt) ∧ (n_35.toInt ≤ 0 → 0 ≤ r_25.toInt ∧ r_25.toInt < (g_c 1460).toInt) := ⟨hr_r_25, (z_rgw hr_n_35 (by decide) (by decide)), (by omega), (by omega), (by omega)⟩
        have hX_41 : F_r_readOld_0 m_bad m_badAt m_token m_at m_letters m_word g_c g_words = ((r_25, n_35, n_36) : Int32 × Int32 × Int32) := by
          refine (F_r_readOld_0_s ..).trans ?_
          refine (if_pos c_1).trans ?_
          extract_lets -merge -useContext +onlyGivenNames w9 y9; have e9 : (1 : Int32) = w9 := he_r_9; clear_value w9; subst e9
          refine (if_neg (show ¬ (1 : Int32) = 0 by decide)).trans ?_
          try (extract_lets -merge -useContext +onlyGivenNames y9; have e9 : x_24 = y9 := (by first | exact he_x_24 | exact he_x_24.symm); clear_value y9; subst e9)
          extract_lets -merge -useContext +onlyGivenNames w9 y9; have e9 : r_25 = w9 := he_r_25; clear_value w9; subst e9
          refine (if_neg c_31).trans ?_
          extract_lets -merge -useContext +onlyGivenNames w9 y6_0 y6_1; have e9 : (n_35, n_36) = w9 := ((z_tS he_n_35 he_n_36.symm)).symm; clear_value w9; subst e9
          exact rfl
        exact hret _ _ _ _ _ _ (n_35, n_36) [2, 0, 1] hP hD hS rfl (by decide) dX12_readOld_67 ⟨(congrArg (fun z9 => z9.1) hX_41).symm, (congrArg (fun z9 => z9.2.1) hX_41).symm, (congrArg (fun z9 => z9.2.2) hX_41).symm, hpost⟩
set_option maxHeartbeats 40000000 in
set_option maxRecDepth 100000 in
theorem r_readNew_1 (l : Launch) (G : va_G) (cA : zCA) (h0 : Nat) (m_status : Int32) (m_thrown : Int32) (m_above : Int64) (m_under : Int64) (a_traySort : Nat) (a_trayMany : Nat) (a_numbers : Nat) (a_tape : Nat) (m_taped : Int32) (m_textEnd : Int32) (m_faultKind : Int32) (m_faultAt : Int32) (m_bad : Int32) (m_badAt : Int32) (m_token : Int32) (m_at : Int32) (m_behind : Int32) (m_number : Int32) (m_letters : Int32) (m_word : Int64) (a_c : Nat) (a_words : Nat) (m_markMany : Int32) (a_there : Nat) (a_tried : Nat) (a_best : Nat) (a_found : Nat) (m_thereMany : Int32) (m_foundMany : Int32) (m_orderHow : Int32) (m_orderRing : Int32) (m_orderMany : Int32) (m_hasBest : Int32) (m_bestTop : Int64) (m_bestBy : Int64) (a_weights : Nat) (a_shared : Nat) (m_random : Int32) (m_truePlace : Int32) (m_trueWay : Int32) (m_seconds : Int32) (m_done : Int32) (m_feelings : Int32) (m_tries : Int32) (m_leftOver : Int32) (m_playDoor : Int32) (m_playRing : Int32) (m_isOpen : Int32) (m_isOver : Int32) (m_wasTried : Int32) (m_hasPlayed : Int32) (a_feltNow : Nat) (a_last : Nat) (a_kept : Nat) (m_hasSeconds : Int32) (m_hasTurned : Int32) (m_hasRound : Int32) (a_hasFeels : Nat) (a_isOn : Nat) (m_firstAct : Int32) (m_meanTop : Int64) (m_meanBy : Int64) (a_order : Nat) (m_rowMany : Int32) (m_newSteps : Int32) (g_tape : Nat → Int32) (g_c : Nat → Int32) (g_words : Nat → Int64) (hr_m_textEnd : 0 ≤ m_textEnd.toInt ∧ m_textEnd.toInt ≤ 900) (hr_m_at : 0 ≤ m_at.toInt ∧ m_at.toInt ≤ 900) (hr_m_behind : 0 ≤ m_behind.toInt ∧ m_behind.toInt ≤ 900) (hr_m_bad : 0 ≤ m_bad.toInt ∧ m_bad.toInt ≤ 9) (hr_m_token : 0 ≤ m_token.toInt ∧ m_token.toInt ≤ 4) (hr_m_number : 0 ≤ m_number.toInt ∧ m_number.toInt ≤ 9999) (hr_m_letters : 0 ≤ m_letters.toInt ∧ m_letters.toInt ≤ 900) (hC_g_c : zC g_c) : zCi l yX12_readNew cX12_readNew 5 (some .int) ({ frames := 3, cells := 0, slots := 0, locals := 67 }) G cA [.ref h0, .int 1, .int 10, .int 3] [(h0, .inr (12, [.int m_status, .int m_thrown, .long m_above, .long m_under, .ref a_traySort, .ref a_trayMany, .ref a_numbers, .ref a_tape, .int m_taped, .int m_textEnd, .int m_faultKind, .int m_faultAt, .int m_bad, .int m_badAt, .int m_token, .int m_at, .int m_behind, .int m_number, .int m_letters, .long m_word, .ref a_c, .ref a_words, .int m_markMany, .ref a_there, .ref a_tried, .ref a_best, .ref a_found, .int m_thereMany, .int m_foundMany, .int m_orderHow, .int m_orderRing, .int m_orderMany, .int m_hasBest, .long m_bestTop, .long m_bestBy, .ref a_weights, .ref a_shared, .int m_random, .int m_truePlace, .int m_trueWay, .int m_seconds, .int m_done, .int m_feelings, .int m_tries, .int m_leftOver, .int m_playDoor, .int m_playRing, .int m_isOpen, .int m_isOver, .int m_wasTried, .int m_hasPlayed, .ref a_feltNow, .ref a_last, .ref a_kept, .int m_hasSeconds, .int m_hasTurned, .int m_hasRound, .ref a_hasFeels, .ref a_isOn, .int m_firstAct, .long m_meanTop, .long m_meanBy, .ref a_order, .int m_rowMany, .int m_newSteps])), (a_tape, .inl (cA.1 2, 900, .inl g_tape)), (a_c, .inl (cA.1 0, 1825, .inl g_c)), (a_words, .inl (cA.1 1, 105, .inr (.inl g_words)))] (S := Int32 × Int32 × Int32 × Int32 × Int32 × Int32 × Int32 × Int64 × (Nat → Int64)) (fun (r : Int32) (u : Int32 × Int32 × Int32 × Int32 × Int32 × Int32 × Int32 × Int64 × (Nat → Int64)) => (r = (F_r_readNew_1 m_textEnd m_bad m_badAt m_token m_at m_behind m_number m_letters m_word g_tape g_c g_words).1) ∧ (u.1 = (F_r_readNew_1 m_textEnd m_bad m_badAt m_token m_at m_behind m_number m_letters m_word g_tape g_c g_words).2.1) ∧ (u.2.1 = (F_r_readNew_1 m_textEnd m_bad m_badAt m_token m_at m_behind m_number m_letters m_word g_tape g_c g_words).2.2.1) ∧ (u.2.2.1 = (F_r_readNew_1 m_textEnd m_bad m_badAt m_token m_at m_behind m_number m_letters m_word g_tape g_c g_words).2.2.2.1) ∧ (u.2.2.2.1 = (F_r_readNew_1 m_textEnd m_bad m_badAt m_token m_at m_behind m_number m_letters m_word g_tape g_c g_words).2.2.2.2.1) ∧ (u.2.2.2.2.1 = (F_r_readNew_1 m_textEnd m_bad m_badAt m_token m_at m_behind m_number m_letters m_word g_tape g_c g_words).2.2.2.2.2.1) ∧ (u.2.2.2.2.2.1 = (F_r_readNew_1 m_textEnd m_bad m_badAt m_token m_at m_behind m_number m_letters m_word g_tape g_c g_words).2.2.2.2.2.2.1) ∧ (u.2.2.2.2.2.2.1 = (F_r_readNew_1 m_textEnd m_bad m_badAt m_token m_at m_behind m_number m_letters m_word g_tape g_c g_words).2.2.2.2.2.2.2.1) ∧ (u.2.2.2.2.2.2.2.1 = (F_r_readNew_1 m_textEnd m_bad m_badAt m_token m_at m_behind m_number m_letters m_word g_tape g_c g_words).2.2.2.2.2.2.2.2.1) ∧ (u.2.2.2.2.2.2.2.2 = (F_r_readNew_1 m_textEnd m_bad m_badAt m_token m_at m_behind m_number m_letters m_word g_tape g_c g_words).2.2.2.2.2.2.2.2.2) ∧ ((0 ≤ r.toInt ∧ r.toInt ≤ 9) ∧ (0 ≤ u.1.toInt ∧ u.1.toInt ≤ 9) ∧ (0 ≤ u.2.2.1.toInt ∧ u.2.2.1.toInt ≤ 4) ∧ (0 ≤ u.2.2.2.1.toInt ∧ u.2.2.2.1.toInt ≤ 900) ∧ (0 ≤ u.2.2.2.2.1.toInt ∧ u.2.2.2.2.1.toInt ≤ 900) ∧ (0 ≤ u.2.2.2.2.2.1.toInt ∧ u.2.2.2.2.2.1.toInt ≤ 9999) ∧ (0 ≤ u.2.2.2.2.2.2.1.toInt ∧ u.2.2.2.2.2.2.1.toInt ≤ 900) ∧ (m_behind.toInt ≤ u.2.2.2.2.1.toInt) ∧ (0 < m_bad.toInt → 0 < u.1.toInt) ∧ (u.1.toInt ≤ 0 → u.2.2.1.toInt = 0 ∨ m_behind.toInt < u.2.2.2.2.1.toInt) ∧ (u.1.toInt ≤ 0 → r.toInt = (g_c 1461).toInt) ∧ (r.toInt < 10))) (fun (u : Int32 × Int32 × Int32 × Int32 × Int32 × Int32 × Int32 × Int64 × (Nat → Int64)) => [(h0, .inr (12, [.int m_status, .int m_thrown, .long m_above, .long m_under, .ref a_traySort, .ref a_trayMany, .ref a_numbers, .ref a_tape, .int m_taped, .int m_textEnd, .int m_faultKind, .int m_faultAt, .int u.1, .int u.2.1, .int u.2.2.1, .int u.2.2.2.1, .int u.2.2.2.2.1, .int u.2.2.2.2.2.1, .int u.2.2.2.2.2.2.1, .long u.2.2.2.2.2.2.2.1, .ref a_c, .ref a_words, .int m_markMany, .ref a_there, .ref a_tried, .ref a_best, .ref a_found, .int m_thereMany, .int m_foundMany, .int m_orderHow, .int m_orderRing, .int m_orderMany, .int m_hasBest, .long m_bestTop, .long m_bestBy, .ref a_weights, .ref a_shared, .int m_random, .int m_truePlace, .int m_trueWay, .int m_seconds, .int m_done, .int m_feelings, .int m_tries, .int m_leftOver, .int m_playDoor, .int m_playRing, .int m_isOpen, .int m_isOver, .int m_wasTried, .int m_hasPlayed, .ref a_feltNow, .ref a_last, .ref a_kept, .int m_hasSeconds, .int m_hasTurned, .int m_hasRound, .ref a_hasFeels, .ref a_isOn, .int m_firstAct, .long m_meanTop, .long m_meanBy, .ref a_order, .int m_rowMany, .int m_newSteps])), (a_tape, .inl (cA.1 2, 900, .inl g_tape)), (a_c, .inl (cA.1 0, 1825, .inl g_c)), (a_words, .inl (cA.1 1, 105, .inr (.inl u.2.2.2.2.2.2.2.2)))]) 0 0 := by
  have hk_0 : (0 : Int32).toInt = 0 := by decide +kernel
  have hk_3 : (3 : Int32).toInt = 3 := by decide +kernel
  have hk_6 : (6 : Int32).toInt = 6 := by decide +kernel
  have hk_10 : (10 : Int32).toInt = 10 := by decide +kernel
  have hk_87 : (87 : Int32).toInt = 87 := by decide +kernel
  refine z_start2i (own := RX12) (by decide) (Nat.le_of_ble_eq_true rfl) rfl ?_
  intro p e s m args below meth c A ls Q hx hb hml hts hown hK hE hT hP hD hS hA hl hret
  have hl : lv_has ls 5 [(0, .ref h0), (1, .int 1), (2, .int 10), (3, .int 3)] := hl
  refine lv_aload_n hx hb dX12_readNew_0 rfl (lv_at hl 0 rfl) ?_
  refine va_get (D := G) (ci := 12) (v := .ref a_c) (C := RX12) (T := TX12) (N := 65) hx hb hts inT12 hown hK hP 0 rfl rfl 20 (by decide) (hts _ tw_1905) (fun _ h9 => h9) rfl dX12_readNew_1 ?_
  refine lv_sipush (v := 1460) hx hb dX12_readNew_4 (by decide) ?_
  refine lv_iload_n hx hb dX12_readNew_7 rfl (lv_at hl 1 rfl) ?_
  refine lv_iadd hx hb dX12_readNew_8 ?_
  refine z_topi (y := 1461) (by decide +kernel) ?_
  refine va_iald hx hb hK hP 2 0 rfl rfl (z_in (i := 1461) (n := 1825) (by decide +kernel) (by decide +kernel)) dX12_readNew_9 ?_
  refine lv_topi (fun x_1 he_x_1 => ?_)
  have hr_x_1 := z_ctk hC_g_c he_x_1 (k := 1461) (lo := 0) (hi := 10) (by decide +kernel) (by decide +kernel) (by decide +kernel)
  have hv_x_1 := z_cv he_x_1 (k := 1461) (by decide +kernel)
  refine lv_istore (lv' := [(4, .int x_1), (0, .ref h0), (1, .int 1), (2, .int 10), (3, .int 3)]) hx hb dX12_readNew_10 hl (by decide) rfl (fun ls hl => ?_)
  refine lv_aload_n hx hb dX12_readNew_12 rfl (lv_at hl 1 rfl) ?_
  refine va_get (D := G) (ci := 12) (v := .int m_bad) (C := RX12) (T := TX12) (N := 65) hx hb hts inT12 hown hK hP 0 rfl rfl 12 (by decide) (hts _ tw_1897) (fun _ h9 => h9) rfl dX12_readNew_13 ?_
  refine lv_if_ne (tgt := 35) hx hb dX12_readNew_16 (by decide) (fun c_2 => ?_) (fun c_2 => ?_)
  · have b_3 := z_fneT c_2
    refine lv_aload_n hx hb dX12_readNew_35 rfl (lv_at hl 1 rfl) ?_
    refine va_get (D := G) (ci := 12) (v := .int m_bad) (C := RX12) (T := TX12) (N := 65) hx hb hts inT12 hown hK hP 0 rfl rfl 12 (by decide) (hts _ tw_1897) (fun _ h9 => h9) rfl dX12_readNew_36 ?_
    refine lv_if_le (tgt := 44) hx hb dX12_readNew_39 (by decide) (fun h9 => (z_no (by have h8 := z_fleT h9; omega))) (fun c_4 => ?_)
    have b_5 := z_fgtF c_4
    refine lv_iconst (v := 0) hx hb dX12_readNew_42 (by decide) ?_
    have hpost : (0 ≤ (0 : Int32).toInt ∧ (0 : Int32).toInt ≤ 9) ∧ (0 ≤ m_bad.toInt ∧ m_bad.toInt ≤ 9) ∧ (0 ≤ m_token.toInt ∧ m_token.toInt ≤ 4) ∧ (0 ≤ m_at.toInt ∧ m_at.toInt ≤ 900) ∧ (0 ≤ m_behind.toInt ∧ m_behind.toInt ≤ 900) ∧ (0 ≤ m_number.toInt ∧ m_number.toInt ≤ 9999) ∧ (0 ≤ m_letters.toInt ∧ m_letters.toInt ≤ 900) ∧ (m_behind.toInt ≤ m_behind.toInt) ∧ (0 < m_bad.toInt → 0 < m_bad.toInt) ∧ (m_bad.toInt ≤ 0 → m_token.toInt = 0 ∨ m_behind.toInt < m_behind.toInt) ∧ (m_bad.toInt ≤ 0 → (0 : Int32).toInt = (g_c 1461).toInt) ∧ ((0 : Int32).toInt < 10) := ⟨(by decide +kernel), hr_m_bad, hr_m_token, hr_m_at, hr_m_behind, hr_m_number, hr_m_letters, (by omega), (by omega), (by omega), (by omega), (by omega)⟩
    have hX_6 : F_r_readNew_1 m_textEnd m_bad m_badAt m_token m_at m_behind m_number m_letters m_word g_tape g_c g_words = (((0 : Int32), m_bad, m_badAt, m_token, m_at, m_behind, m_number, m_letters, m_word, g_words) : Int32 × Int32 × Int32 × Int32 × Int32 × Int32 × Int32 × Int32 × Int64 × (Nat → Int64)) := by
      refine (F_r_readNew_1_s ..).trans ?_
      try (extract_lets -merge -useContext +onlyGivenNames y9; have e9 : x_1 = y9 := (by first | exact he_x_1 | exact he_x_1.symm); clear_value y9; subst e9)
      refine (if_neg c_2).trans ?_
      exact rfl
    exact hret _ _ _ _ _ _ (m_bad, m_badAt, m_token, m_at, m_behind, m_number, m_letters, m_word, g_words) [0, 1, 2, 3] hP hD hS rfl (by decide) dX12_readNew_43 ⟨(congrArg (fun z9 => z9.1) hX_6).symm, (congrArg (fun z9 => z9.2.1) hX_6).symm, (congrArg (fun z9 => z9.2.2.1) hX_6).symm, (congrArg (fun z9 => z9.2.2.2.1) hX_6).symm, (congrArg (fun z9 => z9.2.2.2.2.1) hX_6).symm, (congrArg (fun z9 => z9.2.2.2.2.2.1) hX_6).symm, (congrArg (fun z9 => z9.2.2.2.2.2.2.1) hX_6).symm, (congrArg (fun z9 => z9.2.2.2.2.2.2.2.1) hX_6).symm, (congrArg (fun z9 => z9.2.2.2.2.2.2.2.2.1) hX_6).symm, (congrArg (fun z9 => z9.2.2.2.2.2.2.2.2.2) hX_6).symm, hpost⟩
  · have b_7 := z_feqF c_2
    refine lv_iload hx hb dX12_readNew_19 (lv_at hl 0 rfl) ?_
    refine lv_iload_n hx hb dX12_readNew_21 rfl (lv_at hl 3 rfl) ?_
    refine lv_icmp_ne (tgt := 35) hx hb dX12_readNew_22 (by decide) (fun c_8 => ?_) (fun c_8 => ?_)
    · have b_9 := z_fneT c_8
      refine lv_aload_n hx hb dX12_readNew_35 rfl (lv_at hl 1 rfl) ?_
      refine va_get (D := G) (ci := 12) (v := .int m_bad) (C := RX12) (T := TX12) (N := 65) hx hb hts inT12 hown hK hP 0 rfl rfl 12 (by decide) (hts _ tw_1897) (fun _ h9 => h9) rfl dX12_readNew_36 ?_
      refine lv_if_le (tgt := 44) hx hb dX12_readNew_39 (by decide) (fun c_10 => ?_) (fun h9 => (z_no (by have h8 := z_fgtF h9; omega)))
      have b_11 := z_fleT c_10
      refine lv_aload_n hx hb dX12_readNew_44 rfl (lv_at hl 1 rfl) ?_
      refine z_callVv (As := []) (rest := []) (wr := [(a_c, .inl (cA.1 0, 1825, .inl g_c)), (a_words, .inl (cA.1 1, 105, .inr (.inl g_words)))]) ⟨hx, hb, hml, hown, hts⟩ hK hE hT hP hD hS hA (r_next2 l G cA h0 m_status m_thrown m_above m_under a_traySort a_trayMany a_numbers a_tape m_taped m_textEnd m_faultKind m_faultAt m_bad m_badAt m_token m_at m_behind m_number m_letters m_word a_c a_words m_markMany a_there a_tried a_best a_found m_thereMany m_foundMany m_orderHow m_orderRing m_orderMany m_hasBest m_bestTop m_bestBy a_weights a_shared m_random m_truePlace m_trueWay m_seconds m_done m_feelings m_tries m_leftOver m_playDoor m_playRing m_isOpen m_isOver m_wasTried m_hasPlayed a_feltNow a_last a_kept m_hasSeconds m_hasTurned m_hasRound a_hasFeels a_isOn m_firstAct m_meanTop m_meanBy a_order m_rowMany m_newSteps g_tape hr_m_textEnd hr_m_at hr_m_behind hr_m_token hr_m_number hr_m_letters) lk_RX12_184 ⟨rfl, rfl⟩ ⟨Nat.le_of_ble_eq_true rfl, Nat.le_of_ble_eq_true rfl⟩ 12 rfl rfl rfl [0, 1] [2, 3] rfl rfl (by decide) rfl hl.1 rfl (lv_room (Nat.le_of_ble_eq_true rfl)) dX12_readNew_45 ⟨Nat.le_of_ble_eq_true rfl, Nat.le_of_ble_eq_true rfl⟩ (fun u_19 H locs hw hP hD hS => ?_)
      obtain ⟨n_12, n_13, n_14, n_15, n_16, n_17⟩ := u_19
      try dsimp only at hw
      obtain ⟨he_n_12, he_n_13, he_n_14, he_n_15, he_n_16, he_n_17, hw⟩ := hw
      obtain ⟨hr_n_12, hr_n_13, hr_n_14, hr_n_15, hr_n_16, hf_21, hf_22⟩ := hw
      refine lv_aload_n hx hb dX12_readNew_48 rfl (lv_at hl 1 rfl) ?_
      refine z_callVi (As := []) (rest := []) (wr := [(a_c, .inl (cA.1 0, 1825, .inl g_c)), (a_words, .inl (cA.1 1, 105, .inr (.inl g_words))), (a_tape, .inl (cA.1 2, 900, .inl g_tape))]) ⟨hx, hb, hml, hown, hts⟩ hK hE hT hP hD hS hA (r_isHouseName l G cA h0 m_status m_thrown m_above m_under a_traySort a_trayMany a_numbers a_tape m_taped m_textEnd m_faultKind m_faultAt m_bad m_badAt n_12 n_13 n_14 n_15 n_16 n_17 a_c a_words m_markMany a_there a_tried a_best a_found m_thereMany m_foundMany m_orderHow m_orderRing m_orderMany m_hasBest m_bestTop m_bestBy a_weights a_shared m_random m_truePlace m_trueWay m_seconds m_done m_feelings m_tries m_leftOver m_playDoor m_playRing m_isOpen m_isOver m_wasTried m_hasPlayed a_feltNow a_last a_kept m_hasSeconds m_hasTurned m_hasRound a_hasFeels a_isOn m_firstAct m_meanTop m_meanBy a_order m_rowMany m_newSteps hr_n_12 hr_n_16) lk_RX12_200 ⟨rfl, rfl⟩ ⟨Nat.le_of_ble_eq_true rfl, Nat.le_of_ble_eq_true rfl⟩ 12 rfl rfl rfl [2] [0, 1, 3] rfl rfl (by decide) rfl hl.1 rfl (lv_room (Nat.le_of_ble_eq_true rfl)) dX12_readNew_49 ⟨Nat.le_of_ble_eq_true rfl, Nat.le_of_ble_eq_true rfl⟩ (fun r_23 u_24 H locs hw hP hD hS => ?_)
      obtain ⟨he_r_23, hw⟩ := hw
      rcases hw with ⟨rfl, -⟩ | ⟨rfl, -⟩
      · skip
        refine lv_if_ne (tgt := 59) hx hb dX12_readNew_52 (by decide) (fun h9 => absurd (by decide +kernel) h9) (fun _ => ?_)
        refine lv_aload_n hx hb dX12_readNew_55 rfl (lv_at hl 1 rfl) ?_
        refine z_callVv (As := []) (rest := []) (wr := [(a_c, .inl (cA.1 0, 1825, .inl g_c)), (a_words, .inl (cA.1 1, 105, .inr (.inl g_words))), (a_tape, .inl (cA.1 2, 900, .inl g_tape))]) ⟨hx, hb, hml, hown, hts⟩ hK hE hT hP hD hS hA (r_wrong l G cA h0 m_status m_thrown m_above m_under a_traySort a_trayMany a_numbers a_tape m_taped m_textEnd m_faultKind m_faultAt m_bad m_badAt n_12 n_13 n_14 n_15 n_16 n_17 a_c a_words m_markMany a_there a_tried a_best a_found m_thereMany m_foundMany m_orderHow m_orderRing m_orderMany m_hasBest m_bestTop m_bestBy a_weights a_shared m_random m_truePlace m_trueWay m_seconds m_done m_feelings m_tries m_leftOver m_playDoor m_playRing m_isOpen m_isOver m_wasTried m_hasPlayed a_feltNow a_last a_kept m_hasSeconds m_hasTurned m_hasRound a_hasFeels a_isOn m_firstAct m_meanTop m_meanBy a_order m_rowMany m_newSteps hr_n_13 hr_m_bad hr_n_12) lk_RX12_187 ⟨rfl, rfl⟩ ⟨Nat.le_of_ble_eq_true rfl, Nat.le_of_ble_eq_true rfl⟩ 12 rfl rfl rfl [3] [0, 1, 2] rfl rfl (by decide) rfl hl.1 rfl (lv_room (Nat.le_of_ble_eq_true rfl)) dX12_readNew_56 ⟨Nat.le_of_ble_eq_true rfl, Nat.le_of_ble_eq_true rfl⟩ (fun u_29 H locs hw hP hD hS => ?_)
        obtain ⟨n_26, n_27⟩ := u_29
        try dsimp only at hw
        obtain ⟨he_n_26, he_n_27, hw⟩ := hw
        have hr_n_26 := hw
        refine lv_aload_n hx hb dX12_readNew_59 rfl (lv_at hl 1 rfl) ?_
        refine va_get (D := G) (ci := 12) (v := .int n_26) (C := RX12) (T := TX12) (N := 65) hx hb hts inT12 hown hK hP 3 rfl rfl 12 (by decide) (hts _ tw_1897) (fun _ h9 => h9) rfl dX12_readNew_60 ?_
        refine lv_if_ne (tgt := 82) hx hb dX12_readNew_63 (by decide) (fun c_31 => ?_) (fun h9 => (z_no (by have h8 := z_feqF h9; omega)))
        have b_32 := z_fneT c_31
        refine lv_aload_n hx hb dX12_readNew_82 rfl (lv_at hl 1 rfl) ?_
        refine va_get (D := G) (ci := 12) (v := .int n_26) (C := RX12) (T := TX12) (N := 65) hx hb hts inT12 hown hK hP 3 rfl rfl 12 (by decide) (hts _ tw_1897) (fun _ h9 => h9) rfl dX12_readNew_83 ?_
        refine lv_if_le (tgt := 91) hx hb dX12_readNew_86 (by decide) (fun h9 => (z_no (by have h8 := z_fleT h9; omega))) (fun c_33 => ?_)
        have b_34 := z_fgtF c_33
        refine lv_iconst (v := 0) hx hb dX12_readNew_89 (by decide) ?_
        have hpost : (0 ≤ (0 : Int32).toInt ∧ (0 : Int32).toInt ≤ 9) ∧ (0 ≤ n_26.toInt ∧ n_26.toInt ≤ 9) ∧ (0 ≤ n_12.toInt ∧ n_12.toInt ≤ 4) ∧ (0 ≤ n_13.toInt ∧ n_13.toInt ≤ 900) ∧ (0 ≤ n_14.toInt ∧ n_14.toInt ≤ 900) ∧ (0 ≤ n_15.toInt ∧ n_15.toInt ≤ 9999) ∧ (0 ≤ n_16.toInt ∧ n_16.toInt ≤ 900) ∧ (m_behind.toInt ≤ n_14.toInt) ∧ (0 < m_bad.toInt → 0 < n_26.toInt) ∧ (n_26.toInt ≤ 0 → n_12.toInt = 0 ∨ m_behind.toInt < n_14.toInt) ∧ (n_26.toInt ≤ 0 → (0 : Int32).toInt = (g_c 1461).toInt) ∧ ((0 : Int32).toInt < 10) := ⟨(by decide +kernel), (z_rgw hr_n_26 (by decide) (by decide)), hr_n_12, hr_n_13, hr_n_14, hr_n_15, hr_n_16, (by omega), (by omega), (by omega), (by omega), (by omega)⟩
        have hX_35 : F_r_readNew_1 m_textEnd m_bad m_badAt m_token m_at m_behind m_number m_letters m_word g_tape g_c g_words = (((0 : Int32), n_26, n_27, n_12, n_13, n_14, n_15, n_16, n_17, g_words) : Int32 × Int32 × Int32 × Int32 × Int32 × Int32 × Int32 × Int32 × Int64 × (Nat → Int64)) := by
          refine (F_r_readNew_1_s ..).trans ?_
          try (extract_lets -merge -useContext +onlyGivenNames y9; have e9 : x_1 = y9 := (by first | exact he_x_1 | exact he_x_1.symm); clear_value y9; subst e9)
          refine (if_pos c_2).trans ?_
          refine (if_neg c_8).trans ?_
          extract_lets -merge -useContext +onlyGivenNames w9 y3_0 y3_1 y3_2 y3_3 y3_4 y3_5; have e9 : (n_12, n_13, n_14, n_15, n_16, n_17) = w9 := ((z_tS he_n_12 (z_tS he_n_13 (z_tS he_n_14 (z_tS he_n_15 (z_tS he_n_16 he_n_17.symm)))))).symm; clear_value w9; subst e9
          extract_lets -merge -useContext +onlyGivenNames w9 y9; have e9 : (0 : Int32) = w9 := he_r_23; clear_value w9; subst e9
          refine (if_pos rfl).trans ?_
          extract_lets -merge -useContext +onlyGivenNames w9 y6_0 y6_1; have e9 : (n_26, n_27) = w9 := ((z_tS he_n_26 he_n_27.symm)).symm; clear_value w9; subst e9
          exact rfl
        exact hret _ _ _ _ _ _ (n_26, n_27, n_12, n_13, n_14, n_15, n_16, n_17, g_words) [3, 2, 0, 1] hP hD hS rfl (by decide) dX12_readNew_90 ⟨(congrArg (fun z9 => z9.1) hX_35).symm, (congrArg (fun z9 => z9.2.1) hX_35).symm, (congrArg (fun z9 => z9.2.2.1) hX_35).symm, (congrArg (fun z9 => z9.2.2.2.1) hX_35).symm, (congrArg (fun z9 => z9.2.2.2.2.1) hX_35).symm, (congrArg (fun z9 => z9.2.2.2.2.2.1) hX_35).symm, (congrArg (fun z9 => z9.2.2.2.2.2.2.1) hX_35).symm, (congrArg (fun z9 => z9.2.2.2.2.2.2.2.1) hX_35).symm, (congrArg (fun z9 => z9.2.2.2.2.2.2.2.2.1) hX_35).symm, (congrArg (fun z9 => z9.2.2.2.2.2.2.2.2.2) hX_35).symm, hpost⟩
      · skip
        refine lv_if_ne (tgt := 59) hx hb dX12_readNew_52 (by decide) (fun _ => ?_) (fun h9 => absurd h9 (by decide +kernel))
        refine lv_aload_n hx hb dX12_readNew_59 rfl (lv_at hl 1 rfl) ?_
        refine va_get (D := G) (ci := 12) (v := .int m_bad) (C := RX12) (T := TX12) (N := 65) hx hb hts inT12 hown hK hP 3 rfl rfl 12 (by decide) (hts _ tw_1897) (fun _ h9 => h9) rfl dX12_readNew_60 ?_
        refine lv_if_ne (tgt := 82) hx hb dX12_readNew_63 (by decide) (fun h9 => (z_no (by have h8 := z_fneT h9; omega))) (fun c_36 => ?_)
        have b_37 := z_feqF c_36
        refine lv_aload_n hx hb dX12_readNew_66 rfl (lv_at hl 1 rfl) ?_
        refine z_callVi (As := []) (rest := []) (wr := [(a_tape, .inl (cA.1 2, 900, .inl g_tape))]) ⟨hx, hb, hml, hown, hts⟩ hK hE hT hP hD hS hA (r_isTaken l G cA h0 m_status m_thrown m_above m_under a_traySort a_trayMany a_numbers a_tape m_taped m_textEnd m_faultKind m_faultAt m_bad m_badAt n_12 n_13 n_14 n_15 n_16 n_17 a_c a_words m_markMany a_there a_tried a_best a_found m_thereMany m_foundMany m_orderHow m_orderRing m_orderMany m_hasBest m_bestTop m_bestBy a_weights a_shared m_random m_truePlace m_trueWay m_seconds m_done m_feelings m_tries m_leftOver m_playDoor m_playRing m_isOpen m_isOver m_wasTried m_hasPlayed a_feltNow a_last a_kept m_hasSeconds m_hasTurned m_hasRound a_hasFeels a_isOn m_firstAct m_meanTop m_meanBy a_order m_rowMany m_newSteps g_c g_words hC_g_c) lk_RX12_204 ⟨rfl, rfl⟩ ⟨Nat.le_of_ble_eq_true rfl, Nat.le_of_ble_eq_true rfl⟩ 12 rfl rfl rfl [3, 0, 1] [2] rfl rfl (by decide) rfl hl.1 rfl (lv_room (Nat.le_of_ble_eq_true rfl)) dX12_readNew_67 ⟨Nat.le_of_ble_eq_true rfl, Nat.le_of_ble_eq_true rfl⟩ (fun r_38 u_39 H locs hw hP hD hS => ?_)
        obtain ⟨he_r_38, hw⟩ := hw
        rcases hw with ⟨rfl, -⟩ | ⟨rfl, -⟩
        · skip
          refine lv_if_eq (tgt := 82) hx hb dX12_readNew_70 (by decide) (fun _ => ?_) (fun h9 => absurd (by decide +kernel) h9)
          refine lv_aload_n hx hb dX12_readNew_82 rfl (lv_at hl 1 rfl) ?_
          refine va_get (D := G) (ci := 12) (v := .int m_bad) (C := RX12) (T := TX12) (N := 65) hx hb hts inT12 hown hK hP 1 rfl rfl 12 (by decide) (hts _ tw_1897) (fun _ h9 => h9) rfl dX12_readNew_83 ?_
          refine lv_if_le (tgt := 91) hx hb dX12_readNew_86 (by decide) (fun c_41 => ?_) (fun h9 => (z_no (by have h8 := z_fgtF h9; omega)))
          have b_42 := z_fleT c_41
          refine lv_aload_n hx hb dX12_readNew_91 rfl (lv_at hl 1 rfl) ?_
          refine va_get (D := G) (ci := 12) (v := .ref a_words) (C := RX12) (T := TX12) (N := 65) hx hb hts inT12 hown hK hP 1 rfl rfl 21 (by decide) (hts _ tw_1906) (fun _ h9 => h9) rfl dX12_readNew_92 ?_
          refine lv_bipush (v := 84) hx hb dX12_readNew_95 (by decide) ?_
          refine lv_iload_n hx hb dX12_readNew_97 rfl (lv_at hl 4 rfl) ?_
          refine lv_iadd hx hb dX12_readNew_98 ?_
          refine z_topi (y := 87) (by decide +kernel) ?_
          refine lv_iload hx hb dX12_readNew_99 (lv_at hl 0 rfl) ?_
          refine lv_iadd hx hb dX12_readNew_101 ?_
          refine lv_topi (fun x_43 he_x_43 => ?_)
          have hq_x_43 := z_addq he_x_43 hk_87 (rfl : x_1.toInt = _) (by omega) (by omega)
          refine lv_aload_n hx hb dX12_readNew_102 rfl (lv_at hl 1 rfl) ?_
          refine va_get (D := G) (ci := 12) (v := .long n_17) (C := RX12) (T := TX12) (N := 65) hx hb hts inT12 hown hK hP 1 rfl rfl 19 (by decide) (hts _ tw_1904) (fun _ h9 => h9) rfl dX12_readNew_103 ?_
          refine z_last hx hb hK hP hD hS 3 1 rfl rfl (z_inN (by omega) (by omega)) dX12_readNew_106 (fun g_44 hg_g_44 H locs hP hD hS => ?_)
          refine lv_aload_n hx hb dX12_readNew_107 rfl (lv_at hl 1 rfl) ?_
          refine z_callVv (As := []) (rest := []) (wr := [(a_c, .inl (cA.1 0, 1825, .inl g_c)), (a_words, .inl (cA.1 1, 105, .inr (.inl g_44)))]) ⟨hx, hb, hml, hown, hts⟩ hK hE hT hP hD hS hA (r_next2 l G cA h0 m_status m_thrown m_above m_under a_traySort a_trayMany a_numbers a_tape m_taped m_textEnd m_faultKind m_faultAt m_bad m_badAt n_12 n_13 n_14 n_15 n_16 n_17 a_c a_words m_markMany a_there a_tried a_best a_found m_thereMany m_foundMany m_orderHow m_orderRing m_orderMany m_hasBest m_bestTop m_bestBy a_weights a_shared m_random m_truePlace m_trueWay m_seconds m_done m_feelings m_tries m_leftOver m_playDoor m_playRing m_isOpen m_isOver m_wasTried m_hasPlayed a_feltNow a_last a_kept m_hasSeconds m_hasTurned m_hasRound a_hasFeels a_isOn m_firstAct m_meanTop m_meanBy a_order m_rowMany m_newSteps g_tape hr_m_textEnd hr_n_13 hr_n_14 hr_n_12 hr_n_15 hr_n_16) lk_RX12_184 ⟨rfl, rfl⟩ ⟨Nat.le_of_ble_eq_true rfl, Nat.le_of_ble_eq_true rfl⟩ 12 rfl rfl rfl [1, 0] [2, 3] rfl rfl (by decide) rfl hl.1 rfl (lv_room (Nat.le_of_ble_eq_true rfl)) dX12_readNew_108 ⟨Nat.le_of_ble_eq_true rfl, Nat.le_of_ble_eq_true rfl⟩ (fun u_52 H locs hw hP hD hS => ?_)
          obtain ⟨n_45, n_46, n_47, n_48, n_49, n_50⟩ := u_52
          try dsimp only at hw
          obtain ⟨he_n_45, he_n_46, he_n_47, he_n_48, he_n_49, he_n_50, hw⟩ := hw
          obtain ⟨hr_n_45, hr_n_46, hr_n_47, hr_n_48, hr_n_49, hf_54, hf_55⟩ := hw
          refine lv_iload hx hb dX12_readNew_111 (lv_at hl 0 rfl) ?_
          have hpost : (0 ≤ x_1.toInt ∧ x_1.toInt ≤ 9) ∧ (0 ≤ m_bad.toInt ∧ m_bad.toInt ≤ 9) ∧ (0 ≤ n_45.toInt ∧ n_45.toInt ≤ 4) ∧ (0 ≤ n_46.toInt ∧ n_46.toInt ≤ 900) ∧ (0 ≤ n_47.toInt ∧ n_47.toInt ≤ 900) ∧ (0 ≤ n_48.toInt ∧ n_48.toInt ≤ 9999) ∧ (0 ≤ n_49.toInt ∧ n_49.toInt ≤ 900) ∧ (m_behind.toInt ≤ n_47.toInt) ∧ (0 < m_bad.toInt → 0 < m_bad.toInt) ∧ (m_bad.toInt ≤ 0 → n_45.toInt = 0 ∨ m_behind.toInt < n_47.toInt) ∧ (m_bad.toInt ≤ 0 → x_1.toInt = (g_c 1461).toInt) ∧ (x_1.toInt < 10) := ⟨(by omega), hr_m_bad, hr_n_45, hr_n_46, hr_n_47, hr_n_48, hr_n_49, (by omega), (by omega), (by omega), (by omega), (by omega)⟩
          have hX_56 : F_r_readNew_1 m_textEnd m_bad m_badAt m_token m_at m_behind m_number m_letters m_word g_tape g_c g_words = ((x_1, m_bad, m_badAt, n_45, n_46, n_47, n_48, n_49, n_50, g_44) : Int32 × Int32 × Int32 × Int32 × Int32 × Int32 × Int32 × Int32 × Int64 × (Nat → Int64)) := by
            refine (F_r_readNew_1_s ..).trans ?_
            try (extract_lets -merge -useContext +onlyGivenNames y9; have e9 : x_1 = y9 := (by first | exact he_x_1 | exact he_x_1.symm); clear_value y9; subst e9)
            refine (if_pos c_2).trans ?_
            refine (if_neg c_8).trans ?_
            extract_lets -merge -useContext +onlyGivenNames w9 y3_0 y3_1 y3_2 y3_3 y3_4 y3_5; have e9 : (n_12, n_13, n_14, n_15, n_16, n_17) = w9 := ((z_tS he_n_12 (z_tS he_n_13 (z_tS he_n_14 (z_tS he_n_15 (z_tS he_n_16 he_n_17.symm)))))).symm; clear_value w9; subst e9
            extract_lets -merge -useContext +onlyGivenNames w9 y9; have e9 : (1 : Int32) = w9 := he_r_23; clear_value w9; subst e9
            refine (if_neg (show ¬ (1 : Int32) = 0 by decide)).trans ?_
            extract_lets -merge -useContext +onlyGivenNames w9 y9; have e9 : (0 : Int32) = w9 := he_r_38; clear_value w9; subst e9
            refine (if_pos rfl).trans ?_
            try (extract_lets -merge -useContext +onlyGivenNames y9; have e9 : x_43 = y9 := (by first | exact he_x_43 | exact he_x_43.symm); clear_value y9; subst e9)
            try (extract_lets -merge -useContext +onlyGivenNames y9; have e9 : g_44 = y9 := (by first | exact hg_g_44 | exact hg_g_44.symm); clear_value y9; subst e9)
            extract_lets -merge -useContext +onlyGivenNames w9 y10_0 y10_1 y10_2 y10_3 y10_4 y10_5; have e9 : (n_45, n_46, n_47, n_48, n_49, n_50) = w9 := ((z_tS he_n_45 (z_tS he_n_46 (z_tS he_n_47 (z_tS he_n_48 (z_tS he_n_49 he_n_50.symm)))))).symm; clear_value w9; subst e9
            exact rfl
          exact hret _ _ _ _ _ _ (m_bad, m_badAt, n_45, n_46, n_47, n_48, n_49, n_50, g_44) [2, 3, 0, 1] hP hD hS rfl (by decide) dX12_readNew_113 ⟨(congrArg (fun z9 => z9.1) hX_56).symm, (congrArg (fun z9 => z9.2.1) hX_56).symm, (congrArg (fun z9 => z9.2.2.1) hX_56).symm, (congrArg (fun z9 => z9.2.2.2.1) hX_56).symm, (congrArg (fun z9 => z9.2.2.2.2.1) hX_56).symm, (congrArg (fun z9 => z9.2.2.2.2.2.1) hX_56).symm, (congrArg (fun z9 => z9.2.2.2.2.2.2.1) hX_56).symm, (congrArg (fun z9 => z9.2.2.2.2.2.2.2.1) hX_56).symm, (congrArg (fun z9 => z9.2.2.2.2.2.2.2.2.1) hX_56).symm, (congrArg (fun z9 => z9.2.2.2.2.2.2.2.2.2) hX_56).symm, hpost⟩
        · skip
          refine lv_if_eq (tgt := 82) hx hb dX12_readNew_70 (by decide) (fun h9 => absurd h9 (by decide +kernel)) (fun _ => ?_)
          refine lv_aload_n hx hb dX12_readNew_73 rfl (lv_at hl 1 rfl) ?_
          refine lv_iconst (v := 3) hx hb dX12_readNew_74 (by decide) ?_
          refine lv_aload_n hx hb dX12_readNew_75 rfl (lv_at hl 1 rfl) ?_
          refine va_get (D := G) (ci := 12) (v := .int n_13) (C := RX12) (T := TX12) (N := 65) hx hb hts inT12 hown hK hP 1 rfl rfl 15 (by decide) (hts _ tw_1900) (fun _ h9 => h9) rfl dX12_readNew_76 ?_
          refine z_callVv (As := [.int 3, .int n_13]) (rest := []) (wr := [(a_tape, .inl (cA.1 2, 900, .inl g_tape)), (a_c, .inl (cA.1 0, 1825, .inl g_c)), (a_words, .inl (cA.1 1, 105, .inr (.inl g_words)))]) ⟨hx, hb, hml, hown, hts⟩ hK hE hT hP hD hS hA (r_fail l G cA h0 m_status m_thrown m_above m_under a_traySort a_trayMany a_numbers a_tape m_taped m_textEnd m_faultKind m_faultAt m_bad m_badAt n_12 n_13 n_14 n_15 n_16 n_17 a_c a_words m_markMany a_there a_tried a_best a_found m_thereMany m_foundMany m_orderHow m_orderRing m_orderMany m_hasBest m_bestTop m_bestBy a_weights a_shared m_random m_truePlace m_trueWay m_seconds m_done m_feelings m_tries m_leftOver m_playDoor m_playRing m_isOpen m_isOver m_wasTried m_hasPlayed a_feltNow a_last a_kept m_hasSeconds m_hasTurned m_hasRound a_hasFeels a_isOn m_firstAct m_meanTop m_meanBy a_order m_rowMany m_newSteps 3 n_13 (by decide +kernel) hr_m_bad) lk_RX12_180 ⟨rfl, rfl⟩ ⟨Nat.le_of_ble_eq_true rfl, Nat.le_of_ble_eq_true rfl⟩ 12 rfl rfl rfl [1] [0, 2, 3] rfl rfl (by decide) rfl hl.1 rfl (lv_room (Nat.le_of_ble_eq_true rfl)) dX12_readNew_79 ⟨Nat.le_of_ble_eq_true rfl, Nat.le_of_ble_eq_true rfl⟩ (fun u_60 H locs hw hP hD hS => ?_)
          obtain ⟨n_57, n_58⟩ := u_60
          try dsimp only at hw
          obtain ⟨he_n_57, he_n_58, hw⟩ := hw
          obtain ⟨hr_n_57, hf_62⟩ := hw
          refine lv_aload_n hx hb dX12_readNew_82 rfl (lv_at hl 1 rfl) ?_
          refine va_get (D := G) (ci := 12) (v := .int n_57) (C := RX12) (T := TX12) (N := 65) hx hb hts inT12 hown hK hP 3 rfl rfl 12 (by decide) (hts _ tw_1897) (fun _ h9 => h9) rfl dX12_readNew_83 ?_
          refine lv_if_le (tgt := 91) hx hb dX12_readNew_86 (by decide) (fun h9 => (z_no (by have h8 := z_fleT h9; omega))) (fun c_63 => ?_)
          have b_64 := z_fgtF c_63
          refine lv_iconst (v := 0) hx hb dX12_readNew_89 (by decide) ?_
          have hpost : (0 ≤ (0 : Int32).toInt ∧ (0 : Int32).toInt ≤ 9) ∧ (0 ≤ n_57.toInt ∧ n_57.toInt ≤ 9) ∧ (0 ≤ n_12.toInt ∧ n_12.toInt ≤ 4) ∧ (0 ≤ n_13.toInt ∧ n_13.toInt ≤ 900) ∧ (0 ≤ n_14.toInt ∧ n_14.toInt ≤ 900) ∧ (0 ≤ n_15.toInt ∧ n_15.toInt ≤ 9999) ∧ (0 ≤ n_16.toInt ∧ n_16.toInt ≤ 900) ∧ (m_behind.toInt ≤ n_14.toInt) ∧ (0 < m_bad.toInt → 0 < n_57.toInt) ∧ (n_57.toInt ≤ 0 → n_12.toInt = 0 ∨ m_behind.toInt < n_14.toInt) ∧ (n_57.toInt ≤ 0 → (0 : Int32).toInt = (g_c 1461).toInt) ∧ ((0 : Int32).toInt < 10) := ⟨(by decide +kernel), (z_rgw hr_n_57 (by decide) (by decide)), hr_n_12, hr_n_13, hr_n_14, hr_n_15, hr_n_16, (by omega), (by omega), (by omega), (by omega), (by omega)⟩
          have hX_65 : F_r_readNew_1 m_textEnd m_bad m_badAt m_token m_at m_behind m_number m_letters m_word g_tape g_c g_words = (((0 : Int32), n_57, n_58, n_12, n_13, n_14, n_15, n_16, n_17, g_words) : Int32 × Int32 × Int32 × Int32 × Int32 × Int32 × Int32 × Int32 × Int64 × (Nat → Int64)) := by
            refine (F_r_readNew_1_s ..).trans ?_
            try (extract_lets -merge -useContext +onlyGivenNames y9; have e9 : x_1 = y9 := (by first | exact he_x_1 | exact he_x_1.symm); clear_value y9; subst e9)
            refine (if_pos c_2).trans ?_
            refine (if_neg c_8).trans ?_
            extract_lets -merge -useContext +onlyGivenNames w9 y3_0 y3_1 y3_2 y3_3 y3_4 y3_5; have e9 : (n_12, n_13, n_14, n_15, n_16, n_17) = w9 := ((z_tS he_n_12 (z_tS he_n_13 (z_tS he_n_14 (z_tS he_n_15 (z_tS he_n_16 he_n_17.symm)))))).symm; clear_value w9; subst e9
            extract_lets -merge -useContext +onlyGivenNames w9 y9; have e9 : (1 : Int32) = w9 := he_r_23; clear_value w9; subst e9
            refine (if_neg (show ¬ (1 : Int32) = 0 by decide)).trans ?_
            extract_lets -merge -useContext +onlyGivenNames w9 y9; have e9 : (1 : Int32) = w9 := he_r_38; clear_value w9; subst e9
            refine (if_neg (show ¬ (1 : Int32) = 0 by decide)).trans ?_
            extract_lets -merge -useContext +onlyGivenNames w9 y8_0 y8_1; have e9 : (n_57, n_58) = w9 := ((z_tS he_n_57 he_n_58.symm)).symm; clear_value w9; subst e9
            exact rfl
          exact hret _ _ _ _ _ _ (n_57, n_58, n_12, n_13, n_14, n_15, n_16, n_17, g_words) [3, 0, 1, 2] hP hD hS rfl (by decide) dX12_readNew_90 ⟨(congrArg (fun z9 => z9.1) hX_65).symm, (congrArg (fun z9 => z9.2.1) hX_65).symm, (congrArg (fun z9 => z9.2.2.1) hX_65).symm, (congrArg (fun z9 => z9.2.2.2.1) hX_65).symm, (congrArg (fun z9 => z9.2.2.2.2.1) hX_65).symm, (congrArg (fun z9 => z9.2.2.2.2.2.1) hX_65).symm, (congrArg (fun z9 => z9.2.2.2.2.2.2.1) hX_65).symm, (congrArg (fun z9 => z9.2.2.2.2.2.2.2.1) hX_65).symm, (congrArg (fun z9 => z9.2.2.2.2.2.2.2.2.1) hX_65).symm, (congrArg (fun z9 => z9.2.2.2.2.2.2.2.2.2) hX_65).symm, hpost⟩
    · have b_66 := z_feqF c_8
      refine lv_aload_n hx hb dX12_readNew_25 rfl (lv_at hl 1 rfl) ?_
      refine lv_bipush (v := 6) hx hb dX12_readNew_26 (by decide) ?_
      refine lv_aload_n hx hb dX12_readNew_28 rfl (lv_at hl 1 rfl) ?_
      refine va_get (D := G) (ci := 12) (v := .int m_at) (C := RX12) (T := TX12) (N := 65) hx hb hts inT12 hown hK hP 0 rfl rfl 15 (by decide) (hts _ tw_1900) (fun _ h9 => h9) rfl dX12_readNew_29 ?_
      refine z_callVv (As := [.int 6, .int m_at]) (rest := []) (wr := [(a_tape, .inl (cA.1 2, 900, .inl g_tape)), (a_c, .inl (cA.1 0, 1825, .inl g_c)), (a_words, .inl (cA.1 1, 105, .inr (.inl g_words)))]) ⟨hx, hb, hml, hown, hts⟩ hK hE hT hP hD hS hA (r_fail l G cA h0 m_status m_thrown m_above m_under a_traySort a_trayMany a_numbers a_tape m_taped m_textEnd m_faultKind m_faultAt m_bad m_badAt m_token m_at m_behind m_number m_letters m_word a_c a_words m_markMany a_there a_tried a_best a_found m_thereMany m_foundMany m_orderHow m_orderRing m_orderMany m_hasBest m_bestTop m_bestBy a_weights a_shared m_random m_truePlace m_trueWay m_seconds m_done m_feelings m_tries m_leftOver m_playDoor m_playRing m_isOpen m_isOver m_wasTried m_hasPlayed a_feltNow a_last a_kept m_hasSeconds m_hasTurned m_hasRound a_hasFeels a_isOn m_firstAct m_meanTop m_meanBy a_order m_rowMany m_newSteps 6 m_at (by decide +kernel) hr_m_bad) lk_RX12_180 ⟨rfl, rfl⟩ ⟨Nat.le_of_ble_eq_true rfl, Nat.le_of_ble_eq_true rfl⟩ 12 rfl rfl rfl [0] [1, 2, 3] rfl rfl (by decide) rfl hl.1 rfl (lv_room (Nat.le_of_ble_eq_true rfl)) dX12_readNew_32 ⟨Nat.le_of_ble_eq_true rfl, Nat.le_of_ble_eq_true rfl⟩ (fun u_70 H locs hw hP hD hS => ?_)
      obtain ⟨n_67, n_68⟩ := u_70
      try dsimp only at hw
      obtain ⟨he_n_67, he_n_68, hw⟩ := hw
      obtain ⟨hr_n_67, hf_72⟩ := hw
      refine lv_aload_n hx hb dX12_readNew_35 rfl (lv_at hl 1 rfl) ?_
      refine va_get (D := G) (ci := 12) (v := .int n_67) (C := RX12) (T := TX12) (N := 65) hx hb hts inT12 hown hK hP 3 rfl rfl 12 (by decide) (hts _ tw_1897) (fun _ h9 => h9) rfl dX12_readNew_36 ?_
      refine lv_if_le (tgt := 44) hx hb dX12_readNew_39 (by decide) (fun h9 => (z_no (by have h8 := z_fleT h9; omega))) (fun c_73 => ?_)
      have b_74 := z_fgtF c_73
      refine lv_iconst (v := 0) hx hb dX12_readNew_42 (by decide) ?_
      have hpost : (0 ≤ (0 : Int32).toInt ∧ (0 : Int32).toInt ≤ 9) ∧ (0 ≤ n_67.toInt ∧ n_67.toInt ≤ 9) ∧ (0 ≤ m_token.toInt ∧ m_token.toInt ≤ 4) ∧ (0 ≤ m_at.toInt ∧ m_at.toInt ≤ 900) ∧ (0 ≤ m_behind.toInt ∧ m_behind.toInt ≤ 900) ∧ (0 ≤ m_number.toInt ∧ m_number.toInt ≤ 9999) ∧ (0 ≤ m_letters.toInt ∧ m_letters.toInt ≤ 900) ∧ (m_behind.toInt ≤ m_behind.toInt) ∧ (0 < m_bad.toInt → 0 < n_67.toInt) ∧ (n_67.toInt ≤ 0 → m_token.toInt = 0 ∨ m_behind.toInt < m_behind.toInt) ∧ (n_67.toInt ≤ 0 → (0 : Int32).toInt = (g_c 1461).toInt) ∧ ((0 : Int32).toInt < 10) := ⟨(by decide +kernel), (z_rgw hr_n_67 (by decide) (by decide)), hr_m_token, hr_m_at, hr_m_behind, hr_m_number, hr_m_letters, (by omega), (by omega), (by omega), (by omega), (by omega)⟩
      have hX_75 : F_r_readNew_1 m_textEnd m_bad m_badAt m_token m_at m_behind m_number m_letters m_word g_tape g_c g_words = (((0 : Int32), n_67, n_68, m_token, m_at, m_behind, m_number, m_letters, m_word, g_words) : Int32 × Int32 × Int32 × Int32 × Int32 × Int32 × Int32 × Int32 × Int64 × (Nat → Int64)) := by
        refine (F_r_readNew_1_s ..).trans ?_
        try (extract_lets -merge -useContext +onlyGivenNames y9; have e9 : x_1 = y9 := (by first | exact he_x_1 | exact he_x_1.symm); clear_value y9; subst e9)
        refine (if_pos c_2).trans ?_
        refine (if_pos c_8).trans ?_
        extract_lets -merge -useContext +onlyGivenNames w9 y3_0 y3_1; have e9 : (n_67, n_68) = w9 := ((z_tS he_n_67 he_n_68.symm)).symm; clear_value w9; subst e9
        exact rfl
      exact hret _ _ _ _ _ _ (n_67, n_68, m_token, m_at, m_behind, m_number, m_letters, m_word, g_words) [3, 0, 1, 2] hP hD hS rfl (by decide) dX12_readNew_43 ⟨(congrArg (fun z9 => z9.1) hX_75).symm, (congrArg (fun z9 => z9.2.1) hX_75).symm, (congrArg (fun z9 => z9.2.2.1) hX_75).symm, (congrArg (fun z9 => z9.2.2.2.1) hX_75).symm, (congrArg (fun z9 => z9.2.2.2.2.1) hX_75).symm, (congrArg (fun z9 => z9.2.2.2.2.2.1) hX_75).symm, (congrArg (fun z9 => z9.2.2.2.2.2.2.1) hX_75).symm, (congrArg (fun z9 => z9.2.2.2.2.2.2.2.1) hX_75).symm, (congrArg (fun z9 => z9.2.2.2.2.2.2.2.2.1) hX_75).symm, (congrArg (fun z9 => z9.2.2.2.2.2.2.2.2.2) hX_75).symm, hpost⟩
set_option maxHeartbeats 40000000 in
set_option maxRecDepth 100000 in
theorem r_readOld_1 (l : Launch) (G : va_G) (cA : zCA) (h0 : Nat) (m_status : Int32) (m_thrown : Int32) (m_above : Int64) (m_under : Int64) (a_traySort : Nat) (a_trayMany : Nat) (a_numbers : Nat) (a_tape : Nat) (m_taped : Int32) (m_textEnd : Int32) (m_faultKind : Int32) (m_faultAt : Int32) (m_bad : Int32) (m_badAt : Int32) (m_token : Int32) (m_at : Int32) (m_behind : Int32) (m_number : Int32) (m_letters : Int32) (m_word : Int64) (a_c : Nat) (a_words : Nat) (m_markMany : Int32) (a_there : Nat) (a_tried : Nat) (a_best : Nat) (a_found : Nat) (m_thereMany : Int32) (m_foundMany : Int32) (m_orderHow : Int32) (m_orderRing : Int32) (m_orderMany : Int32) (m_hasBest : Int32) (m_bestTop : Int64) (m_bestBy : Int64) (a_weights : Nat) (a_shared : Nat) (m_random : Int32) (m_truePlace : Int32) (m_trueWay : Int32) (m_seconds : Int32) (m_done : Int32) (m_feelings : Int32) (m_tries : Int32) (m_leftOver : Int32) (m_playDoor : Int32) (m_playRing : Int32) (m_isOpen : Int32) (m_isOver : Int32) (m_wasTried : Int32) (m_hasPlayed : Int32) (a_feltNow : Nat) (a_last : Nat) (a_kept : Nat) (m_hasSeconds : Int32) (m_hasTurned : Int32) (m_hasRound : Int32) (a_hasFeels : Nat) (a_isOn : Nat) (m_firstAct : Int32) (m_meanTop : Int64) (m_meanBy : Int64) (a_order : Nat) (m_rowMany : Int32) (m_newSteps : Int32) (g_c : Nat → Int32) (g_words : Nat → Int64) (hr_m_at : 0 ≤ m_at.toInt ∧ m_at.toInt ≤ 900) (hr_m_bad : 0 ≤ m_bad.toInt ∧ m_bad.toInt ≤ 9) (hr_m_token : 0 ≤ m_token.toInt ∧ m_token.toInt ≤ 4) (hr_m_letters : 0 ≤ m_letters.toInt ∧ m_letters.toInt ≤ 900) (hC_g_c : zC g_c) : zCi l yX12_readOld cX12_readOld 4 (some .int) ({ frames := 3, cells := 0, slots := 0, locals := 67 }) G cA [.ref h0, .int 1, .int 3] [(h0, .inr (12, [.int m_status, .int m_thrown, .long m_above, .long m_under, .ref a_traySort, .ref a_trayMany, .ref a_numbers, .ref a_tape, .int m_taped, .int m_textEnd, .int m_faultKind, .int m_faultAt, .int m_bad, .int m_badAt, .int m_token, .int m_at, .int m_behind, .int m_number, .int m_letters, .long m_word, .ref a_c, .ref a_words, .int m_markMany, .ref a_there, .ref a_tried, .ref a_best, .ref a_found, .int m_thereMany, .int m_foundMany, .int m_orderHow, .int m_orderRing, .int m_orderMany, .int m_hasBest, .long m_bestTop, .long m_bestBy, .ref a_weights, .ref a_shared, .int m_random, .int m_truePlace, .int m_trueWay, .int m_seconds, .int m_done, .int m_feelings, .int m_tries, .int m_leftOver, .int m_playDoor, .int m_playRing, .int m_isOpen, .int m_isOver, .int m_wasTried, .int m_hasPlayed, .ref a_feltNow, .ref a_last, .ref a_kept, .int m_hasSeconds, .int m_hasTurned, .int m_hasRound, .ref a_hasFeels, .ref a_isOn, .int m_firstAct, .long m_meanTop, .long m_meanBy, .ref a_order, .int m_rowMany, .int m_newSteps])), (a_c, .inl (cA.1 0, 1825, .inl g_c)), (a_words, .inl (cA.1 1, 105, .inr (.inl g_words)))] (S := Int32 × Int32) (fun (r : Int32) (u : Int32 × Int32) => (r = (F_r_readOld_1 m_bad m_badAt m_token m_at m_letters m_word g_c g_words).1) ∧ (u.1 = (F_r_readOld_1 m_bad m_badAt m_token m_at m_letters m_word g_c g_words).2.1) ∧ (u.2 = (F_r_readOld_1 m_bad m_badAt m_token m_at m_letters m_word g_c g_words).2.2) ∧ (((-1) ≤ r.toInt ∧ r.toInt ≤ 9) ∧ (0 ≤ u.1.toInt ∧ u.1.toInt ≤ 9) ∧ (m_behind.toInt ≤ m_behind.toInt) ∧ (0 < m_bad.toInt → 0 < u.1.toInt) ∧ (u.1.toInt ≤ 0 → 0 ≤ r.toInt ∧ r.toInt < (g_c 1461).toInt))) (fun (u : Int32 × Int32) => [(h0, .inr (12, [.int m_status, .int m_thrown, .long m_above, .long m_under, .ref a_traySort, .ref a_trayMany, .ref a_numbers, .ref a_tape, .int m_taped, .int m_textEnd, .int m_faultKind, .int m_faultAt, .int u.1, .int u.2, .int m_token, .int m_at, .int m_behind, .int m_number, .int m_letters, .long m_word, .ref a_c, .ref a_words, .int m_markMany, .ref a_there, .ref a_tried, .ref a_best, .ref a_found, .int m_thereMany, .int m_foundMany, .int m_orderHow, .int m_orderRing, .int m_orderMany, .int m_hasBest, .long m_bestTop, .long m_bestBy, .ref a_weights, .ref a_shared, .int m_random, .int m_truePlace, .int m_trueWay, .int m_seconds, .int m_done, .int m_feelings, .int m_tries, .int m_leftOver, .int m_playDoor, .int m_playRing, .int m_isOpen, .int m_isOver, .int m_wasTried, .int m_hasPlayed, .ref a_feltNow, .ref a_last, .ref a_kept, .int m_hasSeconds, .int m_hasTurned, .int m_hasRound, .ref a_hasFeels, .ref a_isOn, .int m_firstAct, .long m_meanTop, .long m_meanBy, .ref a_order, .int m_rowMany, .int m_newSteps])), (a_c, .inl (cA.1 0, 1825, .inl g_c)), (a_words, .inl (cA.1 1, 105, .inr (.inl g_words)))]) 0 0 := by
  have hk_0 : (0 : Int32).toInt = 0 := by decide +kernel
  have hk_3 : (3 : Int32).toInt = 3 := by decide +kernel
  have hk_4 : (4 : Int32).toInt = 4 := by decide +kernel
  refine z_start2i (own := RX12) (by decide) (Nat.le_of_ble_eq_true rfl) rfl ?_
  intro p e s m args below meth c A ls Q hx hb hml hts hown hK hE hT hP hD hS hA hl hret
  have hl : lv_has ls 4 [(0, .ref h0), (1, .int 1), (2, .int 3)] := hl
  refine lv_aload_n hx hb dX12_readOld_0 rfl (lv_at hl 0 rfl) ?_
  refine va_get (D := G) (ci := 12) (v := .int m_bad) (C := RX12) (T := TX12) (N := 65) hx hb hts inT12 hown hK hP 0 rfl rfl 12 (by decide) (hts _ tw_1897) (fun _ h9 => h9) rfl dX12_readOld_1 ?_
  refine lv_if_ne (tgt := 18) hx hb dX12_readOld_4 (by decide) (fun c_1 => ?_) (fun c_1 => ?_)
  · have b_2 := z_fneT c_1
    refine lv_aload_n hx hb dX12_readOld_18 rfl (lv_at hl 0 rfl) ?_
    refine va_get (D := G) (ci := 12) (v := .int m_bad) (C := RX12) (T := TX12) (N := 65) hx hb hts inT12 hown hK hP 0 rfl rfl 12 (by decide) (hts _ tw_1897) (fun _ h9 => h9) rfl dX12_readOld_19 ?_
    refine lv_if_ne (tgt := 44) hx hb dX12_readOld_22 (by decide) (fun c_3 => ?_) (fun h9 => (z_no (by have h8 := z_feqF h9; omega)))
    have b_4 := z_fneT c_3
    refine lv_iconst (v := 0) hx hb dX12_readOld_44 (by decide) ?_
    refine lv_istore_n (lv' := [(3, .int 0), (0, .ref h0), (1, .int 1), (2, .int 3)]) hx hb dX12_readOld_45 rfl hl (by decide) rfl (fun ls hl => ?_)
    refine lv_aload_n hx hb dX12_readOld_46 rfl (lv_at hl 1 rfl) ?_
    refine va_get (D := G) (ci := 12) (v := .int m_bad) (C := RX12) (T := TX12) (N := 65) hx hb hts inT12 hown hK hP 0 rfl rfl 12 (by decide) (hts _ tw_1897) (fun _ h9 => h9) rfl dX12_readOld_47 ?_
    refine lv_if_ne (tgt := 66) hx hb dX12_readOld_50 (by decide) (fun c_5 => ?_) (fun h9 => (z_no (by have h8 := z_feqF h9; omega)))
    have b_6 := z_fneT c_5
    refine lv_iload_n hx hb dX12_readOld_66 rfl (lv_at hl 0 rfl) ?_
    have hpost : ((-1) ≤ (0 : Int32).toInt ∧ (0 : Int32).toInt ≤ 9) ∧ (0 ≤ m_bad.toInt ∧ m_bad.toInt ≤ 9) ∧ (m_behind.toInt ≤ m_behind.toInt) ∧ (0 < m_bad.toInt → 0 < m_bad.toInt) ∧ (m_bad.toInt ≤ 0 → 0 ≤ (0 : Int32).toInt ∧ (0 : Int32).toInt < (g_c 1461).toInt) := ⟨(by decide +kernel), hr_m_bad, (by omega), (by omega), (by omega)⟩
    have hX_7 : F_r_readOld_1 m_bad m_badAt m_token m_at m_letters m_word g_c g_words = (((0 : Int32), m_bad, m_badAt) : Int32 × Int32 × Int32) := by
      refine (F_r_readOld_1_s ..).trans ?_
      refine (if_neg c_1).trans ?_
      exact rfl
    exact hret _ _ _ _ _ _ (m_bad, m_badAt) [0, 1, 2] hP hD hS rfl (by decide) dX12_readOld_67 ⟨(congrArg (fun z9 => z9.1) hX_7).symm, (congrArg (fun z9 => z9.2.1) hX_7).symm, (congrArg (fun z9 => z9.2.2) hX_7).symm, hpost⟩
  · have b_8 := z_feqF c_1
    refine lv_aload_n hx hb dX12_readOld_7 rfl (lv_at hl 0 rfl) ?_
    refine z_callVi (As := []) (rest := []) (wr := [(a_c, .inl (cA.1 0, 1825, .inl g_c)), (a_words, .inl (cA.1 1, 105, .inr (.inl g_words)))]) ⟨hx, hb, hml, hown, hts⟩ hK hE hT hP hD hS hA (r_isHouseName l G cA h0 m_status m_thrown m_above m_under a_traySort a_trayMany a_numbers a_tape m_taped m_textEnd m_faultKind m_faultAt m_bad m_badAt m_token m_at m_behind m_number m_letters m_word a_c a_words m_markMany a_there a_tried a_best a_found m_thereMany m_foundMany m_orderHow m_orderRing m_orderMany m_hasBest m_bestTop m_bestBy a_weights a_shared m_random m_truePlace m_trueWay m_seconds m_done m_feelings m_tries m_leftOver m_playDoor m_playRing m_isOpen m_isOver m_wasTried m_hasPlayed a_feltNow a_last a_kept m_hasSeconds m_hasTurned m_hasRound a_hasFeels a_isOn m_firstAct m_meanTop m_meanBy a_order m_rowMany m_newSteps hr_m_token hr_m_letters) lk_RX12_200 ⟨rfl, rfl⟩ ⟨Nat.le_of_ble_eq_true rfl, Nat.le_of_ble_eq_true rfl⟩ 12 rfl rfl rfl [0] [1, 2] rfl rfl (by decide) rfl hl.1 rfl (lv_room (Nat.le_of_ble_eq_true rfl)) dX12_readOld_8 ⟨Nat.le_of_ble_eq_true rfl, Nat.le_of_ble_eq_true rfl⟩ (fun r_9 u_10 H locs hw hP hD hS => ?_)
    obtain ⟨he_r_9, hw⟩ := hw
    rcases hw with ⟨rfl, -⟩ | ⟨rfl, -⟩
    · skip
      refine lv_if_ne (tgt := 18) hx hb dX12_readOld_11 (by decide) (fun h9 => absurd (by decide +kernel) h9) (fun _ => ?_)
      refine lv_aload_n hx hb dX12_readOld_14 rfl (lv_at hl 0 rfl) ?_
      refine z_callVv (As := []) (rest := []) (wr := [(a_c, .inl (cA.1 0, 1825, .inl g_c)), (a_words, .inl (cA.1 1, 105, .inr (.inl g_words)))]) ⟨hx, hb, hml, hown, hts⟩ hK hE hT hP hD hS hA (r_wrong l G cA h0 m_status m_thrown m_above m_under a_traySort a_trayMany a_numbers a_tape m_taped m_textEnd m_faultKind m_faultAt m_bad m_badAt m_token m_at m_behind m_number m_letters m_word a_c a_words m_markMany a_there a_tried a_best a_found m_thereMany m_foundMany m_orderHow m_orderRing m_orderMany m_hasBest m_bestTop m_bestBy a_weights a_shared m_random m_truePlace m_trueWay m_seconds m_done m_feelings m_tries m_leftOver m_playDoor m_playRing m_isOpen m_isOver m_wasTried m_hasPlayed a_feltNow a_last a_kept m_hasSeconds m_hasTurned m_hasRound a_hasFeels a_isOn m_firstAct m_meanTop m_meanBy a_order m_rowMany m_newSteps hr_m_at hr_m_bad hr_m_token) lk_RX12_187 ⟨rfl, rfl⟩ ⟨Nat.le_of_ble_eq_true rfl, Nat.le_of_ble_eq_true rfl⟩ 12 rfl rfl rfl [2] [0, 1] rfl rfl (by decide) rfl hl.1 rfl (lv_room (Nat.le_of_ble_eq_true rfl)) dX12_readOld_15 ⟨Nat.le_of_ble_eq_true rfl, Nat.le_of_ble_eq_true rfl⟩ (fun u_15 H locs hw hP hD hS => ?_)
      obtain ⟨n_12, n_13⟩ := u_15
      try dsimp only at hw
      obtain ⟨he_n_12, he_n_13, hw⟩ := hw
      have hr_n_12 := hw
      refine lv_aload_n hx hb dX12_readOld_18 rfl (lv_at hl 0 rfl) ?_
      refine va_get (D := G) (ci := 12) (v := .int n_12) (C := RX12) (T := TX12) (N := 65) hx hb hts inT12 hown hK hP 2 rfl rfl 12 (by decide) (hts _ tw_1897) (fun _ h9 => h9) rfl dX12_readOld_19 ?_
      refine lv_if_ne (tgt := 44) hx hb dX12_readOld_22 (by decide) (fun c_17 => ?_) (fun h9 => (z_no (by have h8 := z_feqF h9; omega)))
      have b_18 := z_fneT c_17
      refine lv_iconst (v := 0) hx hb dX12_readOld_44 (by decide) ?_
      refine lv_istore_n (lv' := [(3, .int 0), (0, .ref h0), (1, .int 1), (2, .int 3)]) hx hb dX12_readOld_45 rfl hl (by decide) rfl (fun ls hl => ?_)
      refine lv_aload_n hx hb dX12_readOld_46 rfl (lv_at hl 1 rfl) ?_
      refine va_get (D := G) (ci := 12) (v := .int n_12) (C := RX12) (T := TX12) (N := 65) hx hb hts inT12 hown hK hP 2 rfl rfl 12 (by decide) (hts _ tw_1897) (fun _ h9 => h9) rfl dX12_readOld_47 ?_
      refine lv_if_ne (tgt := 66) hx hb dX12_readOld_50 (by decide) (fun c_19 => ?_) (fun h9 => (z_no (by have h8 := z_feqF h9; omega)))
      have b_20 := z_fneT c_19
      refine lv_iload_n hx hb dX12_readOld_66 rfl (lv_at hl 0 rfl) ?_
      have hpost : ((-1) ≤ (0 : Int32).toInt ∧ (0 : Int32).toInt ≤ 9) ∧ (0 ≤ n_12.toInt ∧ n_12.toInt ≤ 9) ∧ (m_behind.toInt ≤ m_behind.toInt) ∧ (0 < m_bad.toInt → 0 < n_12.toInt) ∧ (n_12.toInt ≤ 0 → 0 ≤ (0 : Int32).toInt ∧ (0 : Int32).toInt < (g_c 1461).toInt) := ⟨(by decide +kernel), (z_rgw hr_n_12 (by decide) (by decide)), (by omega), (by omega), (by omega)⟩
      have hX_21 : F_r_readOld_1 m_bad m_badAt m_token m_at m_letters m_word g_c g_words = (((0 : Int32), n_12, n_13) : Int32 × Int32 × Int32) := by
        refine (F_r_readOld_1_s ..).trans ?_
        refine (if_pos c_1).trans ?_
        extract_lets -merge -useContext +onlyGivenNames w9 y9; have e9 : (0 : Int32) = w9 := he_r_9; clear_value w9; subst e9
        refine (if_pos rfl).trans ?_
        extract_lets -merge -useContext +onlyGivenNames w9 y3_0 y3_1; have e9 : (n_12, n_13) = w9 := ((z_tS he_n_12 he_n_13.symm)).symm; clear_value w9; subst e9
        exact rfl
      exact hret _ _ _ _ _ _ (n_12, n_13) [2, 0, 1] hP hD hS rfl (by decide) dX12_readOld_67 ⟨(congrArg (fun z9 => z9.1) hX_21).symm, (congrArg (fun z9 => z9.2.1) hX_21).symm, (congrArg (fun z9 => z9.2.2) hX_21).symm, hpost⟩
    · skip
      refine lv_if_ne (tgt := 18) hx hb dX12_readOld_11 (by decide) (fun _ => ?_) (fun h9 => absurd h9 (by decide +kernel))
      refine lv_aload_n hx hb dX12_readOld_18 rfl (lv_at hl 0 rfl) ?_
      refine va_get (D := G) (ci := 12) (v := .int m_bad) (C := RX12) (T := TX12) (N := 65) hx hb hts inT12 hown hK hP 2 rfl rfl 12 (by decide) (hts _ tw_1897) (fun _ h9 => h9) rfl dX12_readOld_19 ?_
      refine lv_if_ne (tgt := 44) hx hb dX12_readOld_22 (by decide) (fun h9 => (z_no (by have h8 := z_fneT h9; omega))) (fun c_22 => ?_)
      have b_23 := z_feqF c_22
      refine lv_aload_n hx hb dX12_readOld_25 rfl (lv_at hl 0 rfl) ?_
      refine lv_iconst (v := 4) hx hb dX12_readOld_26 (by decide) ?_
      refine lv_iload_n hx hb dX12_readOld_27 rfl (lv_at hl 2 rfl) ?_
      refine lv_aload_n hx hb dX12_readOld_28 rfl (lv_at hl 0 rfl) ?_
      refine va_get (D := G) (ci := 12) (v := .ref a_c) (C := RX12) (T := TX12) (N := 65) hx hb hts inT12 hown hK hP 2 rfl rfl 20 (by decide) (hts _ tw_1905) (fun _ h9 => h9) rfl dX12_readOld_29 ?_
      refine lv_sipush (v := 1460) hx hb dX12_readOld_32 (by decide) ?_
      refine lv_iload_n hx hb dX12_readOld_35 rfl (lv_at hl 1 rfl) ?_
      refine lv_iadd hx hb dX12_readOld_36 ?_
      refine z_topi (y := 1461) (by decide +kernel) ?_
      refine va_iald hx hb hK hP 0 0 rfl rfl (z_in (i := 1461) (n := 1825) (by decide +kernel) (by decide +kernel)) dX12_readOld_37 ?_
      refine lv_topi (fun x_24 he_x_24 => ?_)
      have hr_x_24 := z_ctk hC_g_c he_x_24 (k := 1461) (lo := 0) (hi := 10) (by decide +kernel) (by decide +kernel) (by decide +kernel)
      have hv_x_24 := z_cv he_x_24 (k := 1461) (by decide +kernel)
      refine z_callVi (As := [.int 4, .int 3, .int x_24]) (rest := []) (wr := [(a_c, .inl (cA.1 0, 1825, .inl g_c))]) ⟨hx, hb, hml, hown, hts⟩ hK hE hT hP hD hS hA (r_named_4_3 l G cA h0 m_status m_thrown m_above m_under a_traySort a_trayMany a_numbers a_tape m_taped m_textEnd m_faultKind m_faultAt m_bad m_badAt m_token m_at m_behind m_number m_letters m_word a_c a_words m_markMany a_there a_tried a_best a_found m_thereMany m_foundMany m_orderHow m_orderRing m_orderMany m_hasBest m_bestTop m_bestBy a_weights a_shared m_random m_truePlace m_trueWay m_seconds m_done m_feelings m_tries m_leftOver m_playDoor m_playRing m_isOpen m_isOver m_wasTried m_hasPlayed a_feltNow a_last a_kept m_hasSeconds m_hasTurned m_hasRound a_hasFeels a_isOn m_firstAct m_meanTop m_meanBy a_order m_rowMany m_newSteps g_words x_24 hr_x_24) lk_RX12_196 ⟨rfl, rfl⟩ ⟨Nat.le_of_ble_eq_true rfl, Nat.le_of_ble_eq_true rfl⟩ 12 rfl rfl rfl [2, 1] [0] rfl rfl (by decide) rfl hl.1 rfl (lv_room (Nat.le_of_ble_eq_true rfl)) dX12_readOld_38 ⟨Nat.le_of_ble_eq_true rfl, Nat.le_of_ble_eq_true rfl⟩ (fun r_25 u_26 H locs hw hP hD hS => ?_)
      obtain ⟨he_r_25, hw⟩ := hw
      obtain ⟨hr_r_25, hf_28⟩ := hw
      refine lv_goto (tgt := 45) hx hb dX12_readOld_41 (by decide) ?_
      refine lv_istore_n (lv' := [(3, .int r_25), (0, .ref h0), (1, .int 1), (2, .int 3)]) hx hb dX12_readOld_45 rfl hl (by decide) rfl (fun ls hl => ?_)
      refine lv_aload_n hx hb dX12_readOld_46 rfl (lv_at hl 1 rfl) ?_
      refine va_get (D := G) (ci := 12) (v := .int m_bad) (C := RX12) (T := TX12) (N := 65) hx hb hts inT12 hown hK hP 1 rfl rfl 12 (by decide) (hts _ tw_1897) (fun _ h9 => h9) rfl dX12_readOld_47 ?_
      refine lv_if_ne (tgt := 66) hx hb dX12_readOld_50 (by decide) (fun h9 => (z_no (by have h8 := z_fneT h9; omega))) (fun c_29 => ?_)
      have b_30 := z_feqF c_29
      refine lv_iload_n hx hb dX12_readOld_53 rfl (lv_at hl 0 rfl) ?_
      refine lv_if_ge (tgt := 66) hx hb dX12_readOld_54 (by decide) (fun c_31 => ?_) (fun c_31 => ?_)
      · have b_32 := z_fgeT c_31
        refine lv_iload_n hx hb dX12_readOld_66 rfl (lv_at hl 0 rfl) ?_
        have hpost : ((-1) ≤ r_25.toInt ∧ r_25.toInt ≤ 9) ∧ (0 ≤ m_bad.toInt ∧ m_bad.toInt ≤ 9) ∧ (m_behind.toInt ≤ m_behind.toInt) ∧ (0 < m_bad.toInt → 0 < m_bad.toInt) ∧ (m_bad.toInt ≤ 0 → 0 ≤ r_25.toInt ∧ r_25.toInt < (g_c 1461).toInt) := ⟨hr_r_25, hr_m_bad, (by omega), (by omega), (by omega)⟩
        have hX_33 : F_r_readOld_1 m_bad m_badAt m_token m_at m_letters m_word g_c g_words = ((r_25, m_bad, m_badAt) : Int32 × Int32 × Int32) := by
          refine (F_r_readOld_1_s ..).trans ?_
          refine (if_pos c_1).trans ?_
          extract_lets -merge -useContext +onlyGivenNames w9 y9; have e9 : (1 : Int32) = w9 := he_r_9; clear_value w9; subst e9
          refine (if_neg (show ¬ (1 : Int32) = 0 by decide)).trans ?_
          try (extract_lets -merge -useContext +onlyGivenNames y9; have e9 : x_24 = y9 := (by first | exact he_x_24 | exact he_x_24.symm); clear_value y9; subst e9)
          extract_lets -merge -useContext +onlyGivenNames w9 y9; have e9 : r_25 = w9 := he_r_25; clear_value w9; subst e9
          refine (if_pos c_31).trans ?_
          exact rfl
        exact hret _ _ _ _ _ _ (m_bad, m_badAt) [1, 0, 2] hP hD hS rfl (by decide) dX12_readOld_67 ⟨(congrArg (fun z9 => z9.1) hX_33).symm, (congrArg (fun z9 => z9.2.1) hX_33).symm, (congrArg (fun z9 => z9.2.2) hX_33).symm, hpost⟩
      · have b_34 := z_fltF c_31
        refine lv_aload_n hx hb dX12_readOld_57 rfl (lv_at hl 1 rfl) ?_
        refine lv_iconst (v := 3) hx hb dX12_readOld_58 (by decide) ?_
        refine lv_aload_n hx hb dX12_readOld_59 rfl (lv_at hl 1 rfl) ?_
        refine va_get (D := G) (ci := 12) (v := .int m_at) (C := RX12) (T := TX12) (N := 65) hx hb hts inT12 hown hK hP 1 rfl rfl 15 (by decide) (hts _ tw_1900) (fun _ h9 => h9) rfl dX12_readOld_60 ?_
        refine z_callVv (As := [.int 3, .int m_at]) (rest := []) (wr := [(a_c, .inl (cA.1 0, 1825, .inl g_c)), (a_words, .inl (cA.1 1, 105, .inr (.inl g_words)))]) ⟨hx, hb, hml, hown, hts⟩ hK hE hT hP hD hS hA (r_fail l G cA h0 m_status m_thrown m_above m_under a_traySort a_trayMany a_numbers a_tape m_taped m_textEnd m_faultKind m_faultAt m_bad m_badAt m_token m_at m_behind m_number m_letters m_word a_c a_words m_markMany a_there a_tried a_best a_found m_thereMany m_foundMany m_orderHow m_orderRing m_orderMany m_hasBest m_bestTop m_bestBy a_weights a_shared m_random m_truePlace m_trueWay m_seconds m_done m_feelings m_tries m_leftOver m_playDoor m_playRing m_isOpen m_isOver m_wasTried m_hasPlayed a_feltNow a_last a_kept m_hasSeconds m_hasTurned m_hasRound a_hasFeels a_isOn m_firstAct m_meanTop m_meanBy a_order m_rowMany m_newSteps 3 m_at (by decide +kernel) hr_m_bad) lk_RX12_180 ⟨rfl, rfl⟩ ⟨Nat.le_of_ble_eq_true rfl, Nat.le_of_ble_eq_true rfl⟩ 12 rfl rfl rfl [1] [0, 2] rfl rfl (by decide) rfl hl.1 rfl (lv_room (Nat.le_of_ble_eq_true rfl)) dX12_readOld_63 ⟨Nat.le_of_ble_eq_true rfl, Nat.le_of_ble_eq_true rfl⟩ (fun u_38 H locs hw hP hD hS => ?_)
        obtain ⟨n_35, n_36⟩ := u_38
        try dsimp only at hw
        obtain ⟨he_n_35, he_n_36, hw⟩ := hw
        obtain ⟨hr_n_35, hf_40⟩ := hw
        refine lv_iload_n hx hb dX12_readOld_66 rfl (lv_at hl 0 rfl) ?_
        have hpost : ((-1) ≤ r_25.toInt ∧ r_25.toInt ≤ 9) ∧ (0 ≤ n_35.toInt ∧ n_35.toInt ≤ 9) ∧ (m_behind.toInt ≤ m_behind.toInt) ∧ (0 < m_bad.toInt → 0 < n_35.toInt) ∧ (n_35.toInt ≤ 0 → 0 ≤ r_25.toInt ∧ r_25.toInt < (g_c 1461).toInt) := ⟨hr_r_25, (z_rgw hr_n_35 (by decide) (by decide)), (by omega), (by omega), (by omega)⟩
        have hX_41 : F_r_readOld_1 m_bad m_badAt m_token m_at m_letters m_word g_c g_words = ((r_25, n_35, n_36) : Int32 × Int32 × Int32) := by
          refine (F_r_readOld_1_s ..).trans ?_
          refine (if_pos c_1).trans ?_
          extract_lets -merge -useContext +onlyGivenNames w9 y9; have e9 : (1 : Int32) = w9 := he_r_9; clear_value w9; subst e9
          refine (if_neg (show ¬ (1 : Int32) = 0 by decide)).trans ?_
          try (extract_lets -merge -useContext +onlyGivenNames y9; have e9 : x_24 = y9 := (by first | exact he_x_24 | exact he_x_24.symm); clear_value y9; subst e9)
          extract_lets -merge -useContext +onlyGivenNames w9 y9; have e9 : r_25 = w9 := he_r_25; clear_value w9; subst e9
          refine (if_neg c_31).trans ?_
          extract_lets -merge -useContext +onlyGivenNames w9 y6_0 y6_1; have e9 : (n_35, n_36) = w9 := ((z_tS he_n_35 he_n_36.symm)).symm; clear_value w9; subst e9
          exact rfl
        exact hret _ _ _ _ _ _ (n_35, n_36) [2, 0, 1] hP hD hS rfl (by decide) dX12_readOld_67 ⟨(congrArg (fun z9 => z9.1) hX_41).symm, (congrArg (fun z9 => z9.2.1) hX_41).symm, (congrArg (fun z9 => z9.2.2) hX_41).symm, hpost⟩
set_option maxHeartbeats 40000000 in
set_option maxRecDepth 100000 in
theorem r_readNew_2 (l : Launch) (G : va_G) (cA : zCA) (h0 : Nat) (m_status : Int32) (m_thrown : Int32) (m_above : Int64) (m_under : Int64) (a_traySort : Nat) (a_trayMany : Nat) (a_numbers : Nat) (a_tape : Nat) (m_taped : Int32) (m_textEnd : Int32) (m_faultKind : Int32) (m_faultAt : Int32) (m_bad : Int32) (m_badAt : Int32) (m_token : Int32) (m_at : Int32) (m_behind : Int32) (m_number : Int32) (m_letters : Int32) (m_word : Int64) (a_c : Nat) (a_words : Nat) (m_markMany : Int32) (a_there : Nat) (a_tried : Nat) (a_best : Nat) (a_found : Nat) (m_thereMany : Int32) (m_foundMany : Int32) (m_orderHow : Int32) (m_orderRing : Int32) (m_orderMany : Int32) (m_hasBest : Int32) (m_bestTop : Int64) (m_bestBy : Int64) (a_weights : Nat) (a_shared : Nat) (m_random : Int32) (m_truePlace : Int32) (m_trueWay : Int32) (m_seconds : Int32) (m_done : Int32) (m_feelings : Int32) (m_tries : Int32) (m_leftOver : Int32) (m_playDoor : Int32) (m_playRing : Int32) (m_isOpen : Int32) (m_isOver : Int32) (m_wasTried : Int32) (m_hasPlayed : Int32) (a_feltNow : Nat) (a_last : Nat) (a_kept : Nat) (m_hasSeconds : Int32) (m_hasTurned : Int32) (m_hasRound : Int32) (a_hasFeels : Nat) (a_isOn : Nat) (m_firstAct : Int32) (m_meanTop : Int64) (m_meanBy : Int64) (a_order : Nat) (m_rowMany : Int32) (m_newSteps : Int32) (g_tape : Nat → Int32) (g_c : Nat → Int32) (g_words : Nat → Int64) (hr_m_textEnd : 0 ≤ m_textEnd.toInt ∧ m_textEnd.toInt ≤ 900) (hr_m_at : 0 ≤ m_at.toInt ∧ m_at.toInt ≤ 900) (hr_m_behind : 0 ≤ m_behind.toInt ∧ m_behind.toInt ≤ 900) (hr_m_bad : 0 ≤ m_bad.toInt ∧ m_bad.toInt ≤ 9) (hr_m_token : 0 ≤ m_token.toInt ∧ m_token.toInt ≤ 4) (hr_m_number : 0 ≤ m_number.toInt ∧ m_number.toInt ≤ 9999) (hr_m_letters : 0 ≤ m_letters.toInt ∧ m_letters.toInt ≤ 900) (hC_g_c : zC g_c) : zCi l yX12_readNew cX12_readNew 5 (some .int) ({ frames := 3, cells := 0, slots := 0, locals := 67 }) G cA [.ref h0, .int 2, .int 3, .int 13] [(h0, .inr (12, [.int m_status, .int m_thrown, .long m_above, .long m_under, .ref a_traySort, .ref a_trayMany, .ref a_numbers, .ref a_tape, .int m_taped, .int m_textEnd, .int m_faultKind, .int m_faultAt, .int m_bad, .int m_badAt, .int m_token, .int m_at, .int m_behind, .int m_number, .int m_letters, .long m_word, .ref a_c, .ref a_words, .int m_markMany, .ref a_there, .ref a_tried, .ref a_best, .ref a_found, .int m_thereMany, .int m_foundMany, .int m_orderHow, .int m_orderRing, .int m_orderMany, .int m_hasBest, .long m_bestTop, .long m_bestBy, .ref a_weights, .ref a_shared, .int m_random, .int m_truePlace, .int m_trueWay, .int m_seconds, .int m_done, .int m_feelings, .int m_tries, .int m_leftOver, .int m_playDoor, .int m_playRing, .int m_isOpen, .int m_isOver, .int m_wasTried, .int m_hasPlayed, .ref a_feltNow, .ref a_last, .ref a_kept, .int m_hasSeconds, .int m_hasTurned, .int m_hasRound, .ref a_hasFeels, .ref a_isOn, .int m_firstAct, .long m_meanTop, .long m_meanBy, .ref a_order, .int m_rowMany, .int m_newSteps])), (a_tape, .inl (cA.1 2, 900, .inl g_tape)), (a_c, .inl (cA.1 0, 1825, .inl g_c)), (a_words, .inl (cA.1 1, 105, .inr (.inl g_words)))] (S := Int32 × Int32 × Int32 × Int32 × Int32 × Int32 × Int32 × Int64 × (Nat → Int64)) (fun (r : Int32) (u : Int32 × Int32 × Int32 × Int32 × Int32 × Int32 × Int32 × Int64 × (Nat → Int64)) => (r = (F_r_readNew_2 m_textEnd m_bad m_badAt m_token m_at m_behind m_number m_letters m_word g_tape g_c g_words).1) ∧ (u.1 = (F_r_readNew_2 m_textEnd m_bad m_badAt m_token m_at m_behind m_number m_letters m_word g_tape g_c g_words).2.1) ∧ (u.2.1 = (F_r_readNew_2 m_textEnd m_bad m_badAt m_token m_at m_behind m_number m_letters m_word g_tape g_c g_words).2.2.1) ∧ (u.2.2.1 = (F_r_readNew_2 m_textEnd m_bad m_badAt m_token m_at m_behind m_number m_letters m_word g_tape g_c g_words).2.2.2.1) ∧ (u.2.2.2.1 = (F_r_readNew_2 m_textEnd m_bad m_badAt m_token m_at m_behind m_number m_letters m_word g_tape g_c g_words).2.2.2.2.1) ∧ (u.2.2.2.2.1 = (F_r_readNew_2 m_textEnd m_bad m_badAt m_token m_at m_behind m_number m_letters m_word g_tape g_c g_words).2.2.2.2.2.1) ∧ (u.2.2.2.2.2.1 = (F_r_readNew_2 m_textEnd m_bad m_badAt m_token m_at m_behind m_number m_letters m_word g_tape g_c g_words).2.2.2.2.2.2.1) ∧ (u.2.2.2.2.2.2.1 = (F_r_readNew_2 m_textEnd m_bad m_badAt m_token m_at m_behind m_number m_letters m_word g_tape g_c g_words).2.2.2.2.2.2.2.1) ∧ (u.2.2.2.2.2.2.2.1 = (F_r_readNew_2 m_textEnd m_bad m_badAt m_token m_at m_behind m_number m_letters m_word g_tape g_c g_words).2.2.2.2.2.2.2.2.1) ∧ (u.2.2.2.2.2.2.2.2 = (F_r_readNew_2 m_textEnd m_bad m_badAt m_token m_at m_behind m_number m_letters m_word g_tape g_c g_words).2.2.2.2.2.2.2.2.2) ∧ ((0 ≤ r.toInt ∧ r.toInt ≤ 2) ∧ (0 ≤ u.1.toInt ∧ u.1.toInt ≤ 9) ∧ (0 ≤ u.2.2.1.toInt ∧ u.2.2.1.toInt ≤ 4) ∧ (0 ≤ u.2.2.2.1.toInt ∧ u.2.2.2.1.toInt ≤ 900) ∧ (0 ≤ u.2.2.2.2.1.toInt ∧ u.2.2.2.2.1.toInt ≤ 900) ∧ (0 ≤ u.2.2.2.2.2.1.toInt ∧ u.2.2.2.2.2.1.toInt ≤ 9999) ∧ (0 ≤ u.2.2.2.2.2.2.1.toInt ∧ u.2.2.2.2.2.2.1.toInt ≤ 900) ∧ (m_behind.toInt ≤ u.2.2.2.2.1.toInt) ∧ (0 < m_bad.toInt → 0 < u.1.toInt) ∧ (u.1.toInt ≤ 0 → u.2.2.1.toInt = 0 ∨ m_behind.toInt < u.2.2.2.2.1.toInt) ∧ (u.1.toInt ≤ 0 → r.toInt = (g_c 1462).toInt) ∧ (r.toInt < 3))) (fun (u : Int32 × Int32 × Int32 × Int32 × Int32 × Int32 × Int32 × Int64 × (Nat → Int64)) => [(h0, .inr (12, [.int m_status, .int m_thrown, .long m_above, .long m_under, .ref a_traySort, .ref a_trayMany, .ref a_numbers, .ref a_tape, .int m_taped, .int m_textEnd, .int m_faultKind, .int m_faultAt, .int u.1, .int u.2.1, .int u.2.2.1, .int u.2.2.2.1, .int u.2.2.2.2.1, .int u.2.2.2.2.2.1, .int u.2.2.2.2.2.2.1, .long u.2.2.2.2.2.2.2.1, .ref a_c, .ref a_words, .int m_markMany, .ref a_there, .ref a_tried, .ref a_best, .ref a_found, .int m_thereMany, .int m_foundMany, .int m_orderHow, .int m_orderRing, .int m_orderMany, .int m_hasBest, .long m_bestTop, .long m_bestBy, .ref a_weights, .ref a_shared, .int m_random, .int m_truePlace, .int m_trueWay, .int m_seconds, .int m_done, .int m_feelings, .int m_tries, .int m_leftOver, .int m_playDoor, .int m_playRing, .int m_isOpen, .int m_isOver, .int m_wasTried, .int m_hasPlayed, .ref a_feltNow, .ref a_last, .ref a_kept, .int m_hasSeconds, .int m_hasTurned, .int m_hasRound, .ref a_hasFeels, .ref a_isOn, .int m_firstAct, .long m_meanTop, .long m_meanBy, .ref a_order, .int m_rowMany, .int m_newSteps])), (a_tape, .inl (cA.1 2, 900, .inl g_tape)), (a_c, .inl (cA.1 0, 1825, .inl g_c)), (a_words, .inl (cA.1 1, 105, .inr (.inl u.2.2.2.2.2.2.2.2)))]) 0 0 := by
  have hk_0 : (0 : Int32).toInt = 0 := by decide +kernel
  have hk_3 : (3 : Int32).toInt = 3 := by decide +kernel
  have hk_6 : (6 : Int32).toInt = 6 := by decide +kernel
  have hk_97 : (97 : Int32).toInt = 97 := by decide +kernel
  refine z_start2i (own := RX12) (by decide) (Nat.le_of_ble_eq_true rfl) rfl ?_
  intro p e s m args below meth c A ls Q hx hb hml hts hown hK hE hT hP hD hS hA hl hret
  have hl : lv_has ls 5 [(0, .ref h0), (1, .int 2), (2, .int 3), (3, .int 13)] := hl
  refine lv_aload_n hx hb dX12_readNew_0 rfl (lv_at hl 0 rfl) ?_
  refine va_get (D := G) (ci := 12) (v := .ref a_c) (C := RX12) (T := TX12) (N := 65) hx hb hts inT12 hown hK hP 0 rfl rfl 20 (by decide) (hts _ tw_1905) (fun _ h9 => h9) rfl dX12_readNew_1 ?_
  refine lv_sipush (v := 1460) hx hb dX12_readNew_4 (by decide) ?_
  refine lv_iload_n hx hb dX12_readNew_7 rfl (lv_at hl 1 rfl) ?_
  refine lv_iadd hx hb dX12_readNew_8 ?_
  refine z_topi (y := 1462) (by decide +kernel) ?_
  refine va_iald hx hb hK hP 2 0 rfl rfl (z_in (i := 1462) (n := 1825) (by decide +kernel) (by decide +kernel)) dX12_readNew_9 ?_
  refine lv_topi (fun x_1 he_x_1 => ?_)
  have hr_x_1 := z_ctk hC_g_c he_x_1 (k := 1462) (lo := 0) (hi := 3) (by decide +kernel) (by decide +kernel) (by decide +kernel)
  have hv_x_1 := z_cv he_x_1 (k := 1462) (by decide +kernel)
  refine lv_istore (lv' := [(4, .int x_1), (0, .ref h0), (1, .int 2), (2, .int 3), (3, .int 13)]) hx hb dX12_readNew_10 hl (by decide) rfl (fun ls hl => ?_)
  refine lv_aload_n hx hb dX12_readNew_12 rfl (lv_at hl 1 rfl) ?_
  refine va_get (D := G) (ci := 12) (v := .int m_bad) (C := RX12) (T := TX12) (N := 65) hx hb hts inT12 hown hK hP 0 rfl rfl 12 (by decide) (hts _ tw_1897) (fun _ h9 => h9) rfl dX12_readNew_13 ?_
  refine lv_if_ne (tgt := 35) hx hb dX12_readNew_16 (by decide) (fun c_2 => ?_) (fun c_2 => ?_)
  · have b_3 := z_fneT c_2
    refine lv_aload_n hx hb dX12_readNew_35 rfl (lv_at hl 1 rfl) ?_
    refine va_get (D := G) (ci := 12) (v := .int m_bad) (C := RX12) (T := TX12) (N := 65) hx hb hts inT12 hown hK hP 0 rfl rfl 12 (by decide) (hts _ tw_1897) (fun _ h9 => h9) rfl dX12_readNew_36 ?_
    refine lv_if_le (tgt := 44) hx hb dX12_readNew_39 (by decide) (fun h9 => (z_no (by have h8 := z_fleT h9; omega))) (fun c_4 => ?_)
    have b_5 := z_fgtF c_4
    refine lv_iconst (v := 0) hx hb dX12_readNew_42 (by decide) ?_
    have hpost : (0 ≤ (0 : Int32).toInt ∧ (0 : Int32).toInt ≤ 2) ∧ (0 ≤ m_bad.toInt ∧ m_bad.toInt ≤ 9) ∧ (0 ≤ m_token.toInt ∧ m_token.toInt ≤ 4) ∧ (0 ≤ m_at.toInt ∧ m_at.toInt ≤ 900) ∧ (0 ≤ m_behind.toInt ∧ m_behind.toInt ≤ 900) ∧ (0 ≤ m_number.toInt ∧ m_number.toInt ≤ 9999) ∧ (0 ≤ m_letters.toInt ∧ m_letters.toInt ≤ 900) ∧ (m_behind.toInt ≤ m_behind.toInt) ∧ (0 < m_bad.toInt → 0 < m_bad.toInt) ∧ (m_bad.toInt ≤ 0 → m_token.toInt = 0 ∨ m_behind.toInt < m_behind.toInt) ∧ (m_bad.toInt ≤ 0 → (0 : Int32).toInt = (g_c 1462).toInt) ∧ ((0 : Int32).toInt < 3) := ⟨(by decide +kernel), hr_m_bad, hr_m_token, hr_m_at, hr_m_behind, hr_m_number, hr_m_letters, (by omega), (by omega), (by omega), (by omega), (by omega)⟩
    have hX_6 : F_r_readNew_2 m_textEnd m_bad m_badAt m_token m_at m_behind m_number m_letters m_word g_tape g_c g_words = (((0 : Int32), m_bad, m_badAt, m_token, m_at, m_behind, m_number, m_letters, m_word, g_words) : Int32 × Int32 × Int32 × Int32 × Int32 × Int32 × Int32 × Int32 × Int64 × (Nat → Int64)) := by
      refine (F_r_readNew_2_s ..).trans ?_
      try (extract_lets -merge -useContext +onlyGivenNames y9; have e9 : x_1 = y9 := (by first | exact he_x_1 | exact he_x_1.symm); clear_value y9; subst e9)
      refine (if_neg c_2).trans ?_
      exact rfl
    exact hret _ _ _ _ _ _ (m_bad, m_badAt, m_token, m_at, m_behind, m_number, m_letters, m_word, g_words) [0, 1, 2, 3] hP hD hS rfl (by decide) dX12_readNew_43 ⟨(congrArg (fun z9 => z9.1) hX_6).symm, (congrArg (fun z9 => z9.2.1) hX_6).symm, (congrArg (fun z9 => z9.2.2.1) hX_6).symm, (congrArg (fun z9 => z9.2.2.2.1) hX_6).symm, (congrArg (fun z9 => z9.2.2.2.2.1) hX_6).symm, (congrArg (fun z9 => z9.2.2.2.2.2.1) hX_6).symm, (congrArg (fun z9 => z9.2.2.2.2.2.2.1) hX_6).symm, (congrArg (fun z9 => z9.2.2.2.2.2.2.2.1) hX_6).symm, (congrArg (fun z9 => z9.2.2.2.2.2.2.2.2.1) hX_6).symm, (congrArg (fun z9 => z9.2.2.2.2.2.2.2.2.2) hX_6).symm, hpost⟩
  · have b_7 := z_feqF c_2
    refine lv_iload hx hb dX12_readNew_19 (lv_at hl 0 rfl) ?_
    refine lv_iload_n hx hb dX12_readNew_21 rfl (lv_at hl 3 rfl) ?_
    refine lv_icmp_ne (tgt := 35) hx hb dX12_readNew_22 (by decide) (fun c_8 => ?_) (fun c_8 => ?_)
    · have b_9 := z_fneT c_8
      refine lv_aload_n hx hb dX12_readNew_35 rfl (lv_at hl 1 rfl) ?_
      refine va_get (D := G) (ci := 12) (v := .int m_bad) (C := RX12) (T := TX12) (N := 65) hx hb hts inT12 hown hK hP 0 rfl rfl 12 (by decide) (hts _ tw_1897) (fun _ h9 => h9) rfl dX12_readNew_36 ?_
      refine lv_if_le (tgt := 44) hx hb dX12_readNew_39 (by decide) (fun c_10 => ?_) (fun h9 => (z_no (by have h8 := z_fgtF h9; omega)))
      have b_11 := z_fleT c_10
      refine lv_aload_n hx hb dX12_readNew_44 rfl (lv_at hl 1 rfl) ?_
      refine z_callVv (As := []) (rest := []) (wr := [(a_c, .inl (cA.1 0, 1825, .inl g_c)), (a_words, .inl (cA.1 1, 105, .inr (.inl g_words)))]) ⟨hx, hb, hml, hown, hts⟩ hK hE hT hP hD hS hA (r_next2 l G cA h0 m_status m_thrown m_above m_under a_traySort a_trayMany a_numbers a_tape m_taped m_textEnd m_faultKind m_faultAt m_bad m_badAt m_token m_at m_behind m_number m_letters m_word a_c a_words m_markMany a_there a_tried a_best a_found m_thereMany m_foundMany m_orderHow m_orderRing m_orderMany m_hasBest m_bestTop m_bestBy a_weights a_shared m_random m_truePlace m_trueWay m_seconds m_done m_feelings m_tries m_leftOver m_playDoor m_playRing m_isOpen m_isOver m_wasTried m_hasPlayed a_feltNow a_last a_kept m_hasSeconds m_hasTurned m_hasRound a_hasFeels a_isOn m_firstAct m_meanTop m_meanBy a_order m_rowMany m_newSteps g_tape hr_m_textEnd hr_m_at hr_m_behind hr_m_token hr_m_number hr_m_letters) lk_RX12_184 ⟨rfl, rfl⟩ ⟨Nat.le_of_ble_eq_true rfl, Nat.le_of_ble_eq_true rfl⟩ 12 rfl rfl rfl [0, 1] [2, 3] rfl rfl (by decide) rfl hl.1 rfl (lv_room (Nat.le_of_ble_eq_true rfl)) dX12_readNew_45 ⟨Nat.le_of_ble_eq_true rfl, Nat.le_of_ble_eq_true rfl⟩ (fun u_19 H locs hw hP hD hS => ?_)
      obtain ⟨n_12, n_13, n_14, n_15, n_16, n_17⟩ := u_19
      try dsimp only at hw
      obtain ⟨he_n_12, he_n_13, he_n_14, he_n_15, he_n_16, he_n_17, hw⟩ := hw
      obtain ⟨hr_n_12, hr_n_13, hr_n_14, hr_n_15, hr_n_16, hf_21, hf_22⟩ := hw
      refine lv_aload_n hx hb dX12_readNew_48 rfl (lv_at hl 1 rfl) ?_
      refine z_callVi (As := []) (rest := []) (wr := [(a_c, .inl (cA.1 0, 1825, .inl g_c)), (a_words, .inl (cA.1 1, 105, .inr (.inl g_words))), (a_tape, .inl (cA.1 2, 900, .inl g_tape))]) ⟨hx, hb, hml, hown, hts⟩ hK hE hT hP hD hS hA (r_isHouseName l G cA h0 m_status m_thrown m_above m_under a_traySort a_trayMany a_numbers a_tape m_taped m_textEnd m_faultKind m_faultAt m_bad m_badAt n_12 n_13 n_14 n_15 n_16 n_17 a_c a_words m_markMany a_there a_tried a_best a_found m_thereMany m_foundMany m_orderHow m_orderRing m_orderMany m_hasBest m_bestTop m_bestBy a_weights a_shared m_random m_truePlace m_trueWay m_seconds m_done m_feelings m_tries m_leftOver m_playDoor m_playRing m_isOpen m_isOver m_wasTried m_hasPlayed a_feltNow a_last a_kept m_hasSeconds m_hasTurned m_hasRound a_hasFeels a_isOn m_firstAct m_meanTop m_meanBy a_order m_rowMany m_newSteps hr_n_12 hr_n_16) lk_RX12_200 ⟨rfl, rfl⟩ ⟨Nat.le_of_ble_eq_true rfl, Nat.le_of_ble_eq_true rfl⟩ 12 rfl rfl rfl [2] [0, 1, 3] rfl rfl (by decide) rfl hl.1 rfl (lv_room (Nat.le_of_ble_eq_true rfl)) dX12_readNew_49 ⟨Nat.le_of_ble_eq_true rfl, Nat.le_of_ble_eq_true rfl⟩ (fun r_23 u_24 H locs hw hP hD hS => ?_)
      obtain ⟨he_r_23, hw⟩ := hw
      rcases hw with ⟨rfl, -⟩ | ⟨rfl, -⟩
      · skip
        refine lv_if_ne (tgt := 59) hx hb dX12_readNew_52 (by decide) (fun h9 => absurd (by decide +kernel) h9) (fun _ => ?_)
        refine lv_aload_n hx hb dX12_readNew_55 rfl (lv_at hl 1 rfl) ?_
        refine z_callVv (As := []) (rest := []) (wr := [(a_c, .inl (cA.1 0, 1825, .inl g_c)), (a_words, .inl (cA.1 1, 105, .inr (.inl g_words))), (a_tape, .inl (cA.1 2, 900, .inl g_tape))]) ⟨hx, hb, hml, hown, hts⟩ hK hE hT hP hD hS hA (r_wrong l G cA h0 m_status m_thrown m_above m_under a_traySort a_trayMany a_numbers a_tape m_taped m_textEnd m_faultKind m_faultAt m_bad m_badAt n_12 n_13 n_14 n_15 n_16 n_17 a_c a_words m_markMany a_there a_tried a_best a_found m_thereMany m_foundMany m_orderHow m_orderRing m_orderMany m_hasBest m_bestTop m_bestBy a_weights a_shared m_random m_truePlace m_trueWay m_seconds m_done m_feelings m_tries m_leftOver m_playDoor m_playRing m_isOpen m_isOver m_wasTried m_hasPlayed a_feltNow a_last a_kept m_hasSeconds m_hasTurned m_hasRound a_hasFeels a_isOn m_firstAct m_meanTop m_meanBy a_order m_rowMany m_newSteps hr_n_13 hr_m_bad hr_n_12) lk_RX12_187 ⟨rfl, rfl⟩ ⟨Nat.le_of_ble_eq_true rfl, Nat.le_of_ble_eq_true rfl⟩ 12 rfl rfl rfl [3] [0, 1, 2] rfl rfl (by decide) rfl hl.1 rfl (lv_room (Nat.le_of_ble_eq_true rfl)) dX12_readNew_56 ⟨Nat.le_of_ble_eq_true rfl, Nat.le_of_ble_eq_true rfl⟩ (fun u_29 H locs hw hP hD hS => ?_)
        obtain ⟨n_26, n_27⟩ := u_29
        try dsimp only at hw
        obtain ⟨he_n_26, he_n_27, hw⟩ := hw
        have hr_n_26 := hw
        refine lv_aload_n hx hb dX12_readNew_59 rfl (lv_at hl 1 rfl) ?_
        refine va_get (D := G) (ci := 12) (v := .int n_26) (C := RX12) (T := TX12) (N := 65) hx hb hts inT12 hown hK hP 3 rfl rfl 12 (by decide) (hts _ tw_1897) (fun _ h9 => h9) rfl dX12_readNew_60 ?_
        refine lv_if_ne (tgt := 82) hx hb dX12_readNew_63 (by decide) (fun c_31 => ?_) (fun h9 => (z_no (by have h8 := z_feqF h9; omega)))
        have b_32 := z_fneT c_31
        refine lv_aload_n hx hb dX12_readNew_82 rfl (lv_at hl 1 rfl) ?_
        refine va_get (D := G) (ci := 12) (v := .int n_26) (C := RX12) (T := TX12) (N := 65) hx hb hts inT12 hown hK hP 3 rfl rfl 12 (by decide) (hts _ tw_1897) (fun _ h9 => h9) rfl dX12_readNew_83 ?_
        refine lv_if_le (tgt := 91) hx hb dX12_readNew_86 (by decide) (fun h9 => (z_no (by have h8 := z_fleT h9; omega))) (fun c_33 => ?_)
        have b_34 := z_fgtF c_33
        refine lv_iconst (v := 0) hx hb dX12_readNew_89 (by decide) ?_
        have hpost : (0 ≤ (0 : Int32).toInt ∧ (0 : Int32).toInt ≤ 2) ∧ (0 ≤ n_26.toInt ∧ n_26.toInt ≤ 9) ∧ (0 ≤ n_12.toInt ∧ n_12.toInt ≤ 4) ∧ (0 ≤ n_13.toInt ∧ n_13.toInt ≤ 900) ∧ (0 ≤ n_14.toInt ∧ n_14.toInt ≤ 900) ∧ (0 ≤ n_15.toInt ∧ n_15.toInt ≤ 9999) ∧ (0 ≤ n_16.toInt ∧ n_16.toInt ≤ 900) ∧ (m_behind.toInt ≤ n_14.toInt) ∧ (0 < m_bad.toInt → 0 < n_26.toInt) ∧ (n_26.toInt ≤ 0 → n_12.toInt = 0 ∨ m_behind.toInt < n_14.toInt) ∧ (n_26.toInt ≤ 0 → (0 : Int32).toInt = (g_c 1462).toInt) ∧ ((0 : Int32).toInt < 3) := ⟨(by decide +kernel), (z_rgw hr_n_26 (by decide) (by decide)), hr_n_12, hr_n_13, hr_n_14, hr_n_15, hr_n_16, (by omega), (by omega), (by omega), (by omega), (by omega)⟩
        have hX_35 : F_r_readNew_2 m_textEnd m_bad m_badAt m_token m_at m_behind m_number m_letters m_word g_tape g_c g_words = (((0 : Int32), n_26, n_27, n_12, n_13, n_14, n_15, n_16, n_17, g_words) : Int32 × Int32 × Int32 × Int32 × Int32 × Int32 × Int32 × Int32 × Int64 × (Nat → Int64)) := by
          refine (F_r_readNew_2_s ..).trans ?_
          try (extract_lets -merge -useContext +onlyGivenNames y9; have e9 : x_1 = y9 := (by first | exact he_x_1 | exact he_x_1.symm); clear_value y9; subst e9)
          refine (if_pos c_2).trans ?_
          refine (if_neg c_8).trans ?_
          extract_lets -merge -useContext +onlyGivenNames w9 y3_0 y3_1 y3_2 y3_3 y3_4 y3_5; have e9 : (n_12, n_13, n_14, n_15, n_16, n_17) = w9 := ((z_tS he_n_12 (z_tS he_n_13 (z_tS he_n_14 (z_tS he_n_15 (z_tS he_n_16 he_n_17.symm)))))).symm; clear_value w9; subst e9
          extract_lets -merge -useContext +onlyGivenNames w9 y9; have e9 : (0 : Int32) = w9 := he_r_23; clear_value w9; subst e9
          refine (if_pos rfl).trans ?_
          extract_lets -merge -useContext +onlyGivenNames w9 y6_0 y6_1; have e9 : (n_26, n_27) = w9 := ((z_tS he_n_26 he_n_27.symm)).symm; clear_value w9; subst e9
          exact rfl
        exact hret _ _ _ _ _ _ (n_26, n_27, n_12, n_13, n_14, n_15, n_16, n_17, g_words) [3, 2, 0, 1] hP hD hS rfl (by decide) dX12_readNew_90 ⟨(congrArg (fun z9 => z9.1) hX_35).symm, (congrArg (fun z9 => z9.2.1) hX_35).symm, (congrArg (fun z9 => z9.2.2.1) hX_35).symm, (congrArg (fun z9 => z9.2.2.2.1) hX_35).symm, (congrArg (fun z9 => z9.2.2.2.2.1) hX_35).symm, (congrArg (fun z9 => z9.2.2.2.2.2.1) hX_35).symm, (congrArg (fun z9 => z9.2.2.2.2.2.2.1) hX_35).symm, (congrArg (fun z9 => z9.2.2.2.2.2.2.2.1) hX_35).symm, (congrArg (fun z9 => z9.2.2.2.2.2.2.2.2.1) hX_35).symm, (congrArg (fun z9 => z9.2.2.2.2.2.2.2.2.2) hX_35).symm, hpost⟩
      · skip
        refine lv_if_ne (tgt := 59) hx hb dX12_readNew_52 (by decide) (fun _ => ?_) (fun h9 => absurd h9 (by decide +kernel))
        refine lv_aload_n hx hb dX12_readNew_59 rfl (lv_at hl 1 rfl) ?_
        refine va_get (D := G) (ci := 12) (v := .int m_bad) (C := RX12) (T := TX12) (N := 65) hx hb hts inT12 hown hK hP 3 rfl rfl 12 (by decide) (hts _ tw_1897) (fun _ h9 => h9) rfl dX12_readNew_60 ?_
        refine lv_if_ne (tgt := 82) hx hb dX12_readNew_63 (by decide) (fun h9 => (z_no (by have h8 := z_fneT h9; omega))) (fun c_36 => ?_)
        have b_37 := z_feqF c_36
        refine lv_aload_n hx hb dX12_readNew_66 rfl (lv_at hl 1 rfl) ?_
        refine z_callVi (As := []) (rest := []) (wr := [(a_tape, .inl (cA.1 2, 900, .inl g_tape))]) ⟨hx, hb, hml, hown, hts⟩ hK hE hT hP hD hS hA (r_isTaken l G cA h0 m_status m_thrown m_above m_under a_traySort a_trayMany a_numbers a_tape m_taped m_textEnd m_faultKind m_faultAt m_bad m_badAt n_12 n_13 n_14 n_15 n_16 n_17 a_c a_words m_markMany a_there a_tried a_best a_found m_thereMany m_foundMany m_orderHow m_orderRing m_orderMany m_hasBest m_bestTop m_bestBy a_weights a_shared m_random m_truePlace m_trueWay m_seconds m_done m_feelings m_tries m_leftOver m_playDoor m_playRing m_isOpen m_isOver m_wasTried m_hasPlayed a_feltNow a_last a_kept m_hasSeconds m_hasTurned m_hasRound a_hasFeels a_isOn m_firstAct m_meanTop m_meanBy a_order m_rowMany m_newSteps g_c g_words hC_g_c) lk_RX12_204 ⟨rfl, rfl⟩ ⟨Nat.le_of_ble_eq_true rfl, Nat.le_of_ble_eq_true rfl⟩ 12 rfl rfl rfl [3, 0, 1] [2] rfl rfl (by decide) rfl hl.1 rfl (lv_room (Nat.le_of_ble_eq_true rfl)) dX12_readNew_67 ⟨Nat.le_of_ble_eq_true rfl, Nat.le_of_ble_eq_true rfl⟩ (fun r_38 u_39 H locs hw hP hD hS => ?_)
        obtain ⟨he_r_38, hw⟩ := hw
        rcases hw with ⟨rfl, -⟩ | ⟨rfl, -⟩
        · skip
          refine lv_if_eq (tgt := 82) hx hb dX12_readNew_70 (by decide) (fun _ => ?_) (fun h9 => absurd (by decide +kernel) h9)
          refine lv_aload_n hx hb dX12_readNew_82 rfl (lv_at hl 1 rfl) ?_
          refine va_get (D := G) (ci := 12) (v := .int m_bad) (C := RX12) (T := TX12) (N := 65) hx hb hts inT12 hown hK hP 1 rfl rfl 12 (by decide) (hts _ tw_1897) (fun _ h9 => h9) rfl dX12_readNew_83 ?_
          refine lv_if_le (tgt := 91) hx hb dX12_readNew_86 (by decide) (fun c_41 => ?_) (fun h9 => (z_no (by have h8 := z_fgtF h9; omega)))
          have b_42 := z_fleT c_41
          refine lv_aload_n hx hb dX12_readNew_91 rfl (lv_at hl 1 rfl) ?_
          refine va_get (D := G) (ci := 12) (v := .ref a_words) (C := RX12) (T := TX12) (N := 65) hx hb hts inT12 hown hK hP 1 rfl rfl 21 (by decide) (hts _ tw_1906) (fun _ h9 => h9) rfl dX12_readNew_92 ?_
          refine lv_bipush (v := 84) hx hb dX12_readNew_95 (by decide) ?_
          refine lv_iload_n hx hb dX12_readNew_97 rfl (lv_at hl 4 rfl) ?_
          refine lv_iadd hx hb dX12_readNew_98 ?_
          refine z_topi (y := 97) (by decide +kernel) ?_
          refine lv_iload hx hb dX12_readNew_99 (lv_at hl 0 rfl) ?_
          refine lv_iadd hx hb dX12_readNew_101 ?_
          refine lv_topi (fun x_43 he_x_43 => ?_)
          have hq_x_43 := z_addq he_x_43 hk_97 (rfl : x_1.toInt = _) (by omega) (by omega)
          refine lv_aload_n hx hb dX12_readNew_102 rfl (lv_at hl 1 rfl) ?_
          refine va_get (D := G) (ci := 12) (v := .long n_17) (C := RX12) (T := TX12) (N := 65) hx hb hts inT12 hown hK hP 1 rfl rfl 19 (by decide) (hts _ tw_1904) (fun _ h9 => h9) rfl dX12_readNew_103 ?_
          refine z_last hx hb hK hP hD hS 3 1 rfl rfl (z_inN (by omega) (by omega)) dX12_readNew_106 (fun g_44 hg_g_44 H locs hP hD hS => ?_)
          refine lv_aload_n hx hb dX12_readNew_107 rfl (lv_at hl 1 rfl) ?_
          refine z_callVv (As := []) (rest := []) (wr := [(a_c, .inl (cA.1 0, 1825, .inl g_c)), (a_words, .inl (cA.1 1, 105, .inr (.inl g_44)))]) ⟨hx, hb, hml, hown, hts⟩ hK hE hT hP hD hS hA (r_next2 l G cA h0 m_status m_thrown m_above m_under a_traySort a_trayMany a_numbers a_tape m_taped m_textEnd m_faultKind m_faultAt m_bad m_badAt n_12 n_13 n_14 n_15 n_16 n_17 a_c a_words m_markMany a_there a_tried a_best a_found m_thereMany m_foundMany m_orderHow m_orderRing m_orderMany m_hasBest m_bestTop m_bestBy a_weights a_shared m_random m_truePlace m_trueWay m_seconds m_done m_feelings m_tries m_leftOver m_playDoor m_playRing m_isOpen m_isOver m_wasTried m_hasPlayed a_feltNow a_last a_kept m_hasSeconds m_hasTurned m_hasRound a_hasFeels a_isOn m_firstAct m_meanTop m_meanBy a_order m_rowMany m_newSteps g_tape hr_m_textEnd hr_n_13 hr_n_14 hr_n_12 hr_n_15 hr_n_16) lk_RX12_184 ⟨rfl, rfl⟩ ⟨Nat.le_of_ble_eq_true rfl, Nat.le_of_ble_eq_true rfl⟩ 12 rfl rfl rfl [1, 0] [2, 3] rfl rfl (by decide) rfl hl.1 rfl (lv_room (Nat.le_of_ble_eq_true rfl)) dX12_readNew_108 ⟨Nat.le_of_ble_eq_true rfl, Nat.le_of_ble_eq_true rfl⟩ (fun u_52 H locs hw hP hD hS => ?_)
          obtain ⟨n_45, n_46, n_47, n_48, n_49, n_50⟩ := u_52
          try dsimp only at hw
          obtain ⟨he_n_45, he_n_46, he_n_47, he_n_48, he_n_49, he_n_50, hw⟩ := hw
          obtain ⟨hr_n_45, hr_n_46, hr_n_47, hr_n_48, hr_n_49, hf_54, hf_55⟩ := hw
          refine lv_iload hx hb dX12_readNew_111 (lv_at hl 0 rfl) ?_
          have hpost : (0 ≤ x_1.toInt ∧ x_1.toInt ≤ 2) ∧ (0 ≤ m_bad.toInt ∧ m_bad.toInt ≤ 9) ∧ (0 ≤ n_45.toInt ∧ n_45.toInt ≤ 4) ∧ (0 ≤ n_46.toInt ∧ n_46.toInt ≤ 900) ∧ (0 ≤ n_47.toInt ∧ n_47.toInt ≤ 900) ∧ (0 ≤ n_48.toInt ∧ n_48.toInt ≤ 9999) ∧ (0 ≤ n_49.toInt ∧ n_49.toInt ≤ 900) ∧ (m_behind.toInt ≤ n_47.toInt) ∧ (0 < m_bad.toInt → 0 < m_bad.toInt) ∧ (m_bad.toInt ≤ 0 → n_45.toInt = 0 ∨ m_behind.toInt < n_47.toInt) ∧ (m_bad.toInt ≤ 0 → x_1.toInt = (g_c 1462).toInt) ∧ (x_1.toInt < 3) := ⟨(by omega), hr_m_bad, hr_n_45, hr_n_46, hr_n_47, hr_n_48, hr_n_49, (by omega), (by omega), (by omega), (by omega), (by omega)⟩
          have hX_56 : F_r_readNew_2 m_textEnd m_bad m_badAt m_token m_at m_behind m_number m_letters m_word g_tape g_c g_words = ((x_1, m_bad, m_badAt, n_45, n_46, n_47, n_48, n_49, n_50, g_44) : Int32 × Int32 × Int32 × Int32 × Int32 × Int32 × Int32 × Int32 × Int64 × (Nat → Int64)) := by
            refine (F_r_readNew_2_s ..).trans ?_
            try (extract_lets -merge -useContext +onlyGivenNames y9; have e9 : x_1 = y9 := (by first | exact he_x_1 | exact he_x_1.symm); clear_value y9; subst e9)
            refine (if_pos c_2).trans ?_
            refine (if_neg c_8).trans ?_
            extract_lets -merge -useContext +onlyGivenNames w9 y3_0 y3_1 y3_2 y3_3 y3_4 y3_5; have e9 : (n_12, n_13, n_14, n_15, n_16, n_17) = w9 := ((z_tS he_n_12 (z_tS he_n_13 (z_tS he_n_14 (z_tS he_n_15 (z_tS he_n_16 he_n_17.symm)))))).symm; clear_value w9; subst e9
            extract_lets -merge -useContext +onlyGivenNames w9 y9; have e9 : (1 : Int32) = w9 := he_r_23; clear_value w9; subst e9
            refine (if_neg (show ¬ (1 : Int32) = 0 by decide)).trans ?_
            extract_lets -merge -useContext +onlyGivenNames w9 y9; have e9 : (0 : Int32) = w9 := he_r_38; clear_value w9; subst e9
            refine (if_pos rfl).trans ?_
            try (extract_lets -merge -useContext +onlyGivenNames y9; have e9 : x_43 = y9 := (by first | exact he_x_43 | exact he_x_43.symm); clear_value y9; subst e9)
            try (extract_lets -merge -useContext +onlyGivenNames y9; have e9 : g_44 = y9 := (by first | exact hg_g_44 | exact hg_g_44.symm); clear_value y9; subst e9)
            extract_lets -merge -useContext +onlyGivenNames w9 y10_0 y10_1 y10_2 y10_3 y10_4 y10_5; have e9 : (n_45, n_46, n_47, n_48, n_49, n_50) = w9 := ((z_tS he_n_45 (z_tS he_n_46 (z_tS he_n_47 (z_tS he_n_48 (z_tS he_n_49 he_n_50.symm)))))).symm; clear_value w9; subst e9
            exact rfl
          exact hret _ _ _ _ _ _ (m_bad, m_badAt, n_45, n_46, n_47, n_48, n_49, n_50, g_44) [2, 3, 0, 1] hP hD hS rfl (by decide) dX12_readNew_113 ⟨(congrArg (fun z9 => z9.1) hX_56).symm, (congrArg (fun z9 => z9.2.1) hX_56).symm, (congrArg (fun z9 => z9.2.2.1) hX_56).symm, (congrArg (fun z9 => z9.2.2.2.1) hX_56).symm, (congrArg (fun z9 => z9.2.2.2.2.1) hX_56).symm, (congrArg (fun z9 => z9.2.2.2.2.2.1) hX_56).symm, (congrArg (fun z9 => z9.2.2.2.2.2.2.1) hX_56).symm, (congrArg (fun z9 => z9.2.2.2.2.2.2.2.1) hX_56).symm, (congrArg (fun z9 => z9.2.2.2.2.2.2.2.2.1) hX_56).symm, (congrArg (fun z9 => z9.2.2.2.2.2.2.2.2.2) hX_56).symm, hpost⟩
        · skip
          refine lv_if_eq (tgt := 82) hx hb dX12_readNew_70 (by decide) (fun h9 => absurd h9 (by decide +kernel)) (fun _ => ?_)
          refine lv_aload_n hx hb dX12_readNew_73 rfl (lv_at hl 1 rfl) ?_
          refine lv_iconst (v := 3) hx hb dX12_readNew_74 (by decide) ?_
          refine lv_aload_n hx hb dX12_readNew_75 rfl (lv_at hl 1 rfl) ?_
          refine va_get (D := G) (ci := 12) (v := .int n_13) (C := RX12) (T := TX12) (N := 65) hx hb hts inT12 hown hK hP 1 rfl rfl 15 (by decide) (hts _ tw_1900) (fun _ h9 => h9) rfl dX12_readNew_76 ?_
          refine z_callVv (As := [.int 3, .int n_13]) (rest := []) (wr := [(a_tape, .inl (cA.1 2, 900, .inl g_tape)), (a_c, .inl (cA.1 0, 1825, .inl g_c)), (a_words, .inl (cA.1 1, 105, .inr (.inl g_words)))]) ⟨hx, hb, hml, hown, hts⟩ hK hE hT hP hD hS hA (r_fail l G cA h0 m_status m_thrown m_above m_under a_traySort a_trayMany a_numbers a_tape m_taped m_textEnd m_faultKind m_faultAt m_bad m_badAt n_12 n_13 n_14 n_15 n_16 n_17 a_c a_words m_markMany a_there a_tried a_best a_found m_thereMany m_foundMany m_orderHow m_orderRing m_orderMany m_hasBest m_bestTop m_bestBy a_weights a_shared m_random m_truePlace m_trueWay m_seconds m_done m_feelings m_tries m_leftOver m_playDoor m_playRing m_isOpen m_isOver m_wasTried m_hasPlayed a_feltNow a_last a_kept m_hasSeconds m_hasTurned m_hasRound a_hasFeels a_isOn m_firstAct m_meanTop m_meanBy a_order m_rowMany m_newSteps 3 n_13 (by decide +kernel) hr_m_bad) lk_RX12_180 ⟨rfl, rfl⟩ ⟨Nat.le_of_ble_eq_true rfl, Nat.le_of_ble_eq_true rfl⟩ 12 rfl rfl rfl [1] [0, 2, 3] rfl rfl (by decide) rfl hl.1 rfl (lv_room (Nat.le_of_ble_eq_true rfl)) dX12_readNew_79 ⟨Nat.le_of_ble_eq_true rfl, Nat.le_of_ble_eq_true rfl⟩ (fun u_60 H locs hw hP hD hS => ?_)
          obtain ⟨n_57, n_58⟩ := u_60
          try dsimp only at hw
          obtain ⟨he_n_57, he_n_58, hw⟩ := hw
          obtain ⟨hr_n_57, hf_62⟩ := hw
          refine lv_aload_n hx hb dX12_readNew_82 rfl (lv_at hl 1 rfl) ?_
          refine va_get (D := G) (ci := 12) (v := .int n_57) (C := RX12) (T := TX12) (N := 65) hx hb hts inT12 hown hK hP 3 rfl rfl 12 (by decide) (hts _ tw_1897) (fun _ h9 => h9) rfl dX12_readNew_83 ?_
          refine lv_if_le (tgt := 91) hx hb dX12_readNew_86 (by decide) (fun h9 => (z_no (by have h8 := z_fleT h9; omega))) (fun c_63 => ?_)
          have b_64 := z_fgtF c_63
          refine lv_iconst (v := 0) hx hb dX12_readNew_89 (by decide) ?_
          have hpost : (0 ≤ (0 : Int32).toInt ∧ (0 : Int32).toInt ≤ 2) ∧ (0 ≤ n_57.toInt ∧ n_57.toInt ≤ 9) ∧ (0 ≤ n_12.toInt ∧ n_12.toInt ≤ 4) ∧ (0 ≤ n_13.toInt ∧ n_13.toInt ≤ 900) ∧ (0 ≤ n_14.toInt ∧ n_14.toInt ≤ 900) ∧ (0 ≤ n_15.toInt ∧ n_15.toInt ≤ 9999) ∧ (0 ≤ n_16.toInt ∧ n_16.toInt ≤ 900) ∧ (m_behind.toInt ≤ n_14.toInt) ∧ (0 < m_bad.toInt → 0 < n_57.toInt) ∧ (n_57.toInt ≤ 0 → n_12.toInt = 0 ∨ m_behind.toInt < n_14.toInt) ∧ (n_57.toInt ≤ 0 → (0 : Int32).toInt = (g_c 1462).toInt) ∧ ((0 : Int32).toInt < 3) := ⟨(by decide +kernel), (z_rgw hr_n_57 (by decide) (by decide)), hr_n_12, hr_n_13, hr_n_14, hr_n_15, hr_n_16, (by omega), (by omega), (by omega), (by omega), (by omega)⟩
          have hX_65 : F_r_readNew_2 m_textEnd m_bad m_badAt m_token m_at m_behind m_number m_letters m_word g_tape g_c g_words = (((0 : Int32), n_57, n_58, n_12, n_13, n_14, n_15, n_16, n_17, g_words) : Int32 × Int32 × Int32 × Int32 × Int32 × Int32 × Int32 × Int32 × Int64 × (Nat → Int64)) := by
            refine (F_r_readNew_2_s ..).trans ?_
            try (extract_lets -merge -useContext +onlyGivenNames y9; have e9 : x_1 = y9 := (by first | exact he_x_1 | exact he_x_1.symm); clear_value y9; subst e9)
            refine (if_pos c_2).trans ?_
            refine (if_neg c_8).trans ?_
            extract_lets -merge -useContext +onlyGivenNames w9 y3_0 y3_1 y3_2 y3_3 y3_4 y3_5; have e9 : (n_12, n_13, n_14, n_15, n_16, n_17) = w9 := ((z_tS he_n_12 (z_tS he_n_13 (z_tS he_n_14 (z_tS he_n_15 (z_tS he_n_16 he_n_17.symm)))))).symm; clear_value w9; subst e9
            extract_lets -merge -useContext +onlyGivenNames w9 y9; have e9 : (1 : Int32) = w9 := he_r_23; clear_value w9; subst e9
            refine (if_neg (show ¬ (1 : Int32) = 0 by decide)).trans ?_
            extract_lets -merge -useContext +onlyGivenNames w9 y9; have e9 : (1 : Int32) = w9 := he_r_38; clear_value w9; subst e9
            refine (if_neg (show ¬ (1 : Int32) = 0 by decide)).trans ?_
            extract_lets -merge -useContext +onlyGivenNames w9 y8_0 y8_1; have e9 : (n_57, n_58) = w9 := ((z_tS he_n_57 he_n_58.symm)).symm; clear_value w9; subst e9
            exact rfl
          exact hret _ _ _ _ _ _ (n_57, n_58, n_12, n_13, n_14, n_15, n_16, n_17, g_words) [3, 0, 1, 2] hP hD hS rfl (by decide) dX12_readNew_90 ⟨(congrArg (fun z9 => z9.1) hX_65).symm, (congrArg (fun z9 => z9.2.1) hX_65).symm, (congrArg (fun z9 => z9.2.2.1) hX_65).symm, (congrArg (fun z9 => z9.2.2.2.1) hX_65).symm, (congrArg (fun z9 => z9.2.2.2.2.1) hX_65).symm, (congrArg (fun z9 => z9.2.2.2.2.2.1) hX_65).symm, (congrArg (fun z9 => z9.2.2.2.2.2.2.1) hX_65).symm, (congrArg (fun z9 => z9.2.2.2.2.2.2.2.1) hX_65).symm, (congrArg (fun z9 => z9.2.2.2.2.2.2.2.2.1) hX_65).symm, (congrArg (fun z9 => z9.2.2.2.2.2.2.2.2.2) hX_65).symm, hpost⟩
    · have b_66 := z_feqF c_8
      refine lv_aload_n hx hb dX12_readNew_25 rfl (lv_at hl 1 rfl) ?_
      refine lv_bipush (v := 6) hx hb dX12_readNew_26 (by decide) ?_
      refine lv_aload_n hx hb dX12_readNew_28 rfl (lv_at hl 1 rfl) ?_
      refine va_get (D := G) (ci := 12) (v := .int m_at) (C := RX12) (T := TX12) (N := 65) hx hb hts inT12 hown hK hP 0 rfl rfl 15 (by decide) (hts _ tw_1900) (fun _ h9 => h9) rfl dX12_readNew_29 ?_
      refine z_callVv (As := [.int 6, .int m_at]) (rest := []) (wr := [(a_tape, .inl (cA.1 2, 900, .inl g_tape)), (a_c, .inl (cA.1 0, 1825, .inl g_c)), (a_words, .inl (cA.1 1, 105, .inr (.inl g_words)))]) ⟨hx, hb, hml, hown, hts⟩ hK hE hT hP hD hS hA (r_fail l G cA h0 m_status m_thrown m_above m_under a_traySort a_trayMany a_numbers a_tape m_taped m_textEnd m_faultKind m_faultAt m_bad m_badAt m_token m_at m_behind m_number m_letters m_word a_c a_words m_markMany a_there a_tried a_best a_found m_thereMany m_foundMany m_orderHow m_orderRing m_orderMany m_hasBest m_bestTop m_bestBy a_weights a_shared m_random m_truePlace m_trueWay m_seconds m_done m_feelings m_tries m_leftOver m_playDoor m_playRing m_isOpen m_isOver m_wasTried m_hasPlayed a_feltNow a_last a_kept m_hasSeconds m_hasTurned m_hasRound a_hasFeels a_isOn m_firstAct m_meanTop m_meanBy a_order m_rowMany m_newSteps 6 m_at (by decide +kernel) hr_m_bad) lk_RX12_180 ⟨rfl, rfl⟩ ⟨Nat.le_of_ble_eq_true rfl, Nat.le_of_ble_eq_true rfl⟩ 12 rfl rfl rfl [0] [1, 2, 3] rfl rfl (by decide) rfl hl.1 rfl (lv_room (Nat.le_of_ble_eq_true rfl)) dX12_readNew_32 ⟨Nat.le_of_ble_eq_true rfl, Nat.le_of_ble_eq_true rfl⟩ (fun u_70 H locs hw hP hD hS => ?_)
      obtain ⟨n_67, n_68⟩ := u_70
      try dsimp only at hw
      obtain ⟨he_n_67, he_n_68, hw⟩ := hw
      obtain ⟨hr_n_67, hf_72⟩ := hw
      refine lv_aload_n hx hb dX12_readNew_35 rfl (lv_at hl 1 rfl) ?_
      refine va_get (D := G) (ci := 12) (v := .int n_67) (C := RX12) (T := TX12) (N := 65) hx hb hts inT12 hown hK hP 3 rfl rfl 12 (by decide) (hts _ tw_1897) (fun _ h9 => h9) rfl dX12_readNew_36 ?_
      refine lv_if_le (tgt := 44) hx hb dX12_readNew_39 (by decide) (fun h9 => (z_no (by have h8 := z_fleT h9; omega))) (fun c_73 => ?_)
      have b_74 := z_fgtF c_73
      refine lv_iconst (v := 0) hx hb dX12_readNew_42 (by decide) ?_
      have hpost : (0 ≤ (0 : Int32).toInt ∧ (0 : Int32).toInt ≤ 2) ∧ (0 ≤ n_67.toInt ∧ n_67.toInt ≤ 9) ∧ (0 ≤ m_token.toInt ∧ m_token.toInt ≤ 4) ∧ (0 ≤ m_at.toInt ∧ m_at.toInt ≤ 900) ∧ (0 ≤ m_behind.toInt ∧ m_behind.toInt ≤ 900) ∧ (0 ≤ m_number.toInt ∧ m_number.toInt ≤ 9999) ∧ (0 ≤ m_letters.toInt ∧ m_letters.toInt ≤ 900) ∧ (m_behind.toInt ≤ m_behind.toInt) ∧ (0 < m_bad.toInt → 0 < n_67.toInt) ∧ (n_67.toInt ≤ 0 → m_token.toInt = 0 ∨ m_behind.toInt < m_behind.toInt) ∧ (n_67.toInt ≤ 0 → (0 : Int32).toInt = (g_c 1462).toInt) ∧ ((0 : Int32).toInt < 3) := ⟨(by decide +kernel), (z_rgw hr_n_67 (by decide) (by decide)), hr_m_token, hr_m_at, hr_m_behind, hr_m_number, hr_m_letters, (by omega), (by omega), (by omega), (by omega), (by omega)⟩
      have hX_75 : F_r_readNew_2 m_textEnd m_bad m_badAt m_token m_at m_behind m_number m_letters m_word g_tape g_c g_words = (((0 : Int32), n_67, n_68, m_token, m_at, m_behind, m_number, m_letters, m_word, g_words) : Int32 × Int32 × Int32 × Int32 × Int32 × Int32 × Int32 × Int32 × Int64 × (Nat → Int64)) := by
        refine (F_r_readNew_2_s ..).trans ?_
        try (extract_lets -merge -useContext +onlyGivenNames y9; have e9 : x_1 = y9 := (by first | exact he_x_1 | exact he_x_1.symm); clear_value y9; subst e9)
        refine (if_pos c_2).trans ?_
        refine (if_pos c_8).trans ?_
        extract_lets -merge -useContext +onlyGivenNames w9 y3_0 y3_1; have e9 : (n_67, n_68) = w9 := ((z_tS he_n_67 he_n_68.symm)).symm; clear_value w9; subst e9
        exact rfl
      exact hret _ _ _ _ _ _ (n_67, n_68, m_token, m_at, m_behind, m_number, m_letters, m_word, g_words) [3, 0, 1, 2] hP hD hS rfl (by decide) dX12_readNew_43 ⟨(congrArg (fun z9 => z9.1) hX_75).symm, (congrArg (fun z9 => z9.2.1) hX_75).symm, (congrArg (fun z9 => z9.2.2.1) hX_75).symm, (congrArg (fun z9 => z9.2.2.2.1) hX_75).symm, (congrArg (fun z9 => z9.2.2.2.2.1) hX_75).symm, (congrArg (fun z9 => z9.2.2.2.2.2.1) hX_75).symm, (congrArg (fun z9 => z9.2.2.2.2.2.2.1) hX_75).symm, (congrArg (fun z9 => z9.2.2.2.2.2.2.2.1) hX_75).symm, (congrArg (fun z9 => z9.2.2.2.2.2.2.2.2.1) hX_75).symm, (congrArg (fun z9 => z9.2.2.2.2.2.2.2.2.2) hX_75).symm, hpost⟩
set_option maxHeartbeats 40000000 in
set_option maxRecDepth 100000 in
theorem r_readOld_2 (l : Launch) (G : va_G) (cA : zCA) (h0 : Nat) (m_status : Int32) (m_thrown : Int32) (m_above : Int64) (m_under : Int64) (a_traySort : Nat) (a_trayMany : Nat) (a_numbers : Nat) (a_tape : Nat) (m_taped : Int32) (m_textEnd : Int32) (m_faultKind : Int32) (m_faultAt : Int32) (m_bad : Int32) (m_badAt : Int32) (m_token : Int32) (m_at : Int32) (m_behind : Int32) (m_number : Int32) (m_letters : Int32) (m_word : Int64) (a_c : Nat) (a_words : Nat) (m_markMany : Int32) (a_there : Nat) (a_tried : Nat) (a_best : Nat) (a_found : Nat) (m_thereMany : Int32) (m_foundMany : Int32) (m_orderHow : Int32) (m_orderRing : Int32) (m_orderMany : Int32) (m_hasBest : Int32) (m_bestTop : Int64) (m_bestBy : Int64) (a_weights : Nat) (a_shared : Nat) (m_random : Int32) (m_truePlace : Int32) (m_trueWay : Int32) (m_seconds : Int32) (m_done : Int32) (m_feelings : Int32) (m_tries : Int32) (m_leftOver : Int32) (m_playDoor : Int32) (m_playRing : Int32) (m_isOpen : Int32) (m_isOver : Int32) (m_wasTried : Int32) (m_hasPlayed : Int32) (a_feltNow : Nat) (a_last : Nat) (a_kept : Nat) (m_hasSeconds : Int32) (m_hasTurned : Int32) (m_hasRound : Int32) (a_hasFeels : Nat) (a_isOn : Nat) (m_firstAct : Int32) (m_meanTop : Int64) (m_meanBy : Int64) (a_order : Nat) (m_rowMany : Int32) (m_newSteps : Int32) (g_c : Nat → Int32) (g_words : Nat → Int64) (hr_m_at : 0 ≤ m_at.toInt ∧ m_at.toInt ≤ 900) (hr_m_bad : 0 ≤ m_bad.toInt ∧ m_bad.toInt ≤ 9) (hr_m_token : 0 ≤ m_token.toInt ∧ m_token.toInt ≤ 4) (hr_m_letters : 0 ≤ m_letters.toInt ∧ m_letters.toInt ≤ 900) (hC_g_c : zC g_c) : zCi l yX12_readOld cX12_readOld 4 (some .int) ({ frames := 3, cells := 0, slots := 0, locals := 67 }) G cA [.ref h0, .int 2, .int 13] [(h0, .inr (12, [.int m_status, .int m_thrown, .long m_above, .long m_under, .ref a_traySort, .ref a_trayMany, .ref a_numbers, .ref a_tape, .int m_taped, .int m_textEnd, .int m_faultKind, .int m_faultAt, .int m_bad, .int m_badAt, .int m_token, .int m_at, .int m_behind, .int m_number, .int m_letters, .long m_word, .ref a_c, .ref a_words, .int m_markMany, .ref a_there, .ref a_tried, .ref a_best, .ref a_found, .int m_thereMany, .int m_foundMany, .int m_orderHow, .int m_orderRing, .int m_orderMany, .int m_hasBest, .long m_bestTop, .long m_bestBy, .ref a_weights, .ref a_shared, .int m_random, .int m_truePlace, .int m_trueWay, .int m_seconds, .int m_done, .int m_feelings, .int m_tries, .int m_leftOver, .int m_playDoor, .int m_playRing, .int m_isOpen, .int m_isOver, .int m_wasTried, .int m_hasPlayed, .ref a_feltNow, .ref a_last, .ref a_kept, .int m_hasSeconds, .int m_hasTurned, .int m_hasRound, .ref a_hasFeels, .ref a_isOn, .int m_firstAct, .long m_meanTop, .long m_meanBy, .ref a_order, .int m_rowMany, .int m_newSteps])), (a_c, .inl (cA.1 0, 1825, .inl g_c)), (a_words, .inl (cA.1 1, 105, .inr (.inl g_words)))] (S := Int32 × Int32) (fun (r : Int32) (u : Int32 × Int32) => (r = (F_r_readOld_2 m_bad m_badAt m_token m_at m_letters m_word g_c g_words).1) ∧ (u.1 = (F_r_readOld_2 m_bad m_badAt m_token m_at m_letters m_word g_c g_words).2.1) ∧ (u.2 = (F_r_readOld_2 m_bad m_badAt m_token m_at m_letters m_word g_c g_words).2.2) ∧ (((-1) ≤ r.toInt ∧ r.toInt ≤ 2) ∧ (0 ≤ u.1.toInt ∧ u.1.toInt ≤ 9) ∧ (m_behind.toInt ≤ m_behind.toInt) ∧ (0 < m_bad.toInt → 0 < u.1.toInt) ∧ (u.1.toInt ≤ 0 → 0 ≤ r.toInt ∧ r.toInt < (g_c 1462).toInt))) (fun (u : Int32 × Int32) => [(h0, .inr (12, [.int m_status, .int m_thrown, .long m_above, .long m_under, .ref a_traySort, .ref a_trayMany, .ref a_numbers, .ref a_tape, .int m_taped, .int m_textEnd, .int m_faultKind, .int m_faultAt, .int u.1, .int u.2, .int m_token, .int m_at, .int m_behind, .int m_number, .int m_letters, .long m_word, .ref a_c, .ref a_words, .int m_markMany, .ref a_there, .ref a_tried, .ref a_best, .ref a_found, .int m_thereMany, .int m_foundMany, .int m_orderHow, .int m_orderRing, .int m_orderMany, .int m_hasBest, .long m_bestTop, .long m_bestBy, .ref a_weights, .ref a_shared, .int m_random, .int m_truePlace, .int m_trueWay, .int m_seconds, .int m_done, .int m_feelings, .int m_tries, .int m_leftOver, .int m_playDoor, .int m_playRing, .int m_isOpen, .int m_isOver, .int m_wasTried, .int m_hasPlayed, .ref a_feltNow, .ref a_last, .ref a_kept, .int m_hasSeconds, .int m_hasTurned, .int m_hasRound, .ref a_hasFeels, .ref a_isOn, .int m_firstAct, .long m_meanTop, .long m_meanBy, .ref a_order, .int m_rowMany, .int m_newSteps])), (a_c, .inl (cA.1 0, 1825, .inl g_c)), (a_words, .inl (cA.1 1, 105, .inr (.inl g_words)))]) 0 0 := by
  have hk_0 : (0 : Int32).toInt = 0 := by decide +kernel
  have hk_3 : (3 : Int32).toInt = 3 := by decide +kernel
  have hk_4 : (4 : Int32).toInt = 4 := by decide +kernel
  have hk_13 : (13 : Int32).toInt = 13 := by decide +kernel
  refine z_start2i (own := RX12) (by decide) (Nat.le_of_ble_eq_true rfl) rfl ?_
  intro p e s m args below meth c A ls Q hx hb hml hts hown hK hE hT hP hD hS hA hl hret
  have hl : lv_has ls 4 [(0, .ref h0), (1, .int 2), (2, .int 13)] := hl
  refine lv_aload_n hx hb dX12_readOld_0 rfl (lv_at hl 0 rfl) ?_
  refine va_get (D := G) (ci := 12) (v := .int m_bad) (C := RX12) (T := TX12) (N := 65) hx hb hts inT12 hown hK hP 0 rfl rfl 12 (by decide) (hts _ tw_1897) (fun _ h9 => h9) rfl dX12_readOld_1 ?_
  refine lv_if_ne (tgt := 18) hx hb dX12_readOld_4 (by decide) (fun c_1 => ?_) (fun c_1 => ?_)
  · have b_2 := z_fneT c_1
    refine lv_aload_n hx hb dX12_readOld_18 rfl (lv_at hl 0 rfl) ?_
    refine va_get (D := G) (ci := 12) (v := .int m_bad) (C := RX12) (T := TX12) (N := 65) hx hb hts inT12 hown hK hP 0 rfl rfl 12 (by decide) (hts _ tw_1897) (fun _ h9 => h9) rfl dX12_readOld_19 ?_
    refine lv_if_ne (tgt := 44) hx hb dX12_readOld_22 (by decide) (fun c_3 => ?_) (fun h9 => (z_no (by have h8 := z_feqF h9; omega)))
    have b_4 := z_fneT c_3
    refine lv_iconst (v := 0) hx hb dX12_readOld_44 (by decide) ?_
    refine lv_istore_n (lv' := [(3, .int 0), (0, .ref h0), (1, .int 2), (2, .int 13)]) hx hb dX12_readOld_45 rfl hl (by decide) rfl (fun ls hl => ?_)
    refine lv_aload_n hx hb dX12_readOld_46 rfl (lv_at hl 1 rfl) ?_
    refine va_get (D := G) (ci := 12) (v := .int m_bad) (C := RX12) (T := TX12) (N := 65) hx hb hts inT12 hown hK hP 0 rfl rfl 12 (by decide) (hts _ tw_1897) (fun _ h9 => h9) rfl dX12_readOld_47 ?_
    refine lv_if_ne (tgt := 66) hx hb dX12_readOld_50 (by decide) (fun c_5 => ?_) (fun h9 => (z_no (by have h8 := z_feqF h9; omega)))
    have b_6 := z_fneT c_5
    refine lv_iload_n hx hb dX12_readOld_66 rfl (lv_at hl 0 rfl) ?_
    have hpost : ((-1) ≤ (0 : Int32).toInt ∧ (0 : Int32).toInt ≤ 2) ∧ (0 ≤ m_bad.toInt ∧ m_bad.toInt ≤ 9) ∧ (m_behind.toInt ≤ m_behind.toInt) ∧ (0 < m_bad.toInt → 0 < m_bad.toInt) ∧ (m_bad.toInt ≤ 0 → 0 ≤ (0 : Int32).toInt ∧ (0 : Int32).toInt < (g_c 1462).toInt) := ⟨(by decide +kernel), hr_m_bad, (by omega), (by omega), (by omega)⟩
    have hX_7 : F_r_readOld_2 m_bad m_badAt m_token m_at m_letters m_word g_c g_words = (((0 : Int32), m_bad, m_badAt) : Int32 × Int32 × Int32) := by
      refine (F_r_readOld_2_s ..).trans ?_
      refine (if_neg c_1).trans ?_
      exact rfl
    exact hret _ _ _ _ _ _ (m_bad, m_badAt) [0, 1, 2] hP hD hS rfl (by decide) dX12_readOld_67 ⟨(congrArg (fun z9 => z9.1) hX_7).symm, (congrArg (fun z9 => z9.2.1) hX_7).symm, (congrArg (fun z9 => z9.2.2) hX_7).symm, hpost⟩
  · have b_8 := z_feqF c_1
    refine lv_aload_n hx hb dX12_readOld_7 rfl (lv_at hl 0 rfl) ?_
    refine z_callVi (As := []) (rest := []) (wr := [(a_c, .inl (cA.1 0, 1825, .inl g_c)), (a_words, .inl (cA.1 1, 105, .inr (.inl g_words)))]) ⟨hx, hb, hml, hown, hts⟩ hK hE hT hP hD hS hA (r_isHouseName l G cA h0 m_status m_thrown m_above m_under a_traySort a_trayMany a_numbers a_tape m_taped m_textEnd m_faultKind m_faultAt m_bad m_badAt m_token m_at m_behind m_number m_letters m_word a_c a_words m_markMany a_there a_tried a_best a_found m_thereMany m_foundMany m_orderHow m_orderRing m_orderMany m_hasBest m_bestTop m_bestBy a_weights a_shared m_random m_truePlace m_trueWay m_seconds m_done m_feelings m_tries m_leftOver m_playDoor m_playRing m_isOpen m_isOver m_wasTried m_hasPlayed a_feltNow a_last a_kept m_hasSeconds m_hasTurned m_hasRound a_hasFeels a_isOn m_firstAct m_meanTop m_meanBy a_order m_rowMany m_newSteps hr_m_token hr_m_letters) lk_RX12_200 ⟨rfl, rfl⟩ ⟨Nat.le_of_ble_eq_true rfl, Nat.le_of_ble_eq_true rfl⟩ 12 rfl rfl rfl [0] [1, 2] rfl rfl (by decide) rfl hl.1 rfl (lv_room (Nat.le_of_ble_eq_true rfl)) dX12_readOld_8 ⟨Nat.le_of_ble_eq_true rfl, Nat.le_of_ble_eq_true rfl⟩ (fun r_9 u_10 H locs hw hP hD hS => ?_)
    obtain ⟨he_r_9, hw⟩ := hw
    rcases hw with ⟨rfl, -⟩ | ⟨rfl, -⟩
    · skip
      refine lv_if_ne (tgt := 18) hx hb dX12_readOld_11 (by decide) (fun h9 => absurd (by decide +kernel) h9) (fun _ => ?_)
      refine lv_aload_n hx hb dX12_readOld_14 rfl (lv_at hl 0 rfl) ?_
      refine z_callVv (As := []) (rest := []) (wr := [(a_c, .inl (cA.1 0, 1825, .inl g_c)), (a_words, .inl (cA.1 1, 105, .inr (.inl g_words)))]) ⟨hx, hb, hml, hown, hts⟩ hK hE hT hP hD hS hA (r_wrong l G cA h0 m_status m_thrown m_above m_under a_traySort a_trayMany a_numbers a_tape m_taped m_textEnd m_faultKind m_faultAt m_bad m_badAt m_token m_at m_behind m_number m_letters m_word a_c a_words m_markMany a_there a_tried a_best a_found m_thereMany m_foundMany m_orderHow m_orderRing m_orderMany m_hasBest m_bestTop m_bestBy a_weights a_shared m_random m_truePlace m_trueWay m_seconds m_done m_feelings m_tries m_leftOver m_playDoor m_playRing m_isOpen m_isOver m_wasTried m_hasPlayed a_feltNow a_last a_kept m_hasSeconds m_hasTurned m_hasRound a_hasFeels a_isOn m_firstAct m_meanTop m_meanBy a_order m_rowMany m_newSteps hr_m_at hr_m_bad hr_m_token) lk_RX12_187 ⟨rfl, rfl⟩ ⟨Nat.le_of_ble_eq_true rfl, Nat.le_of_ble_eq_true rfl⟩ 12 rfl rfl rfl [2] [0, 1] rfl rfl (by decide) rfl hl.1 rfl (lv_room (Nat.le_of_ble_eq_true rfl)) dX12_readOld_15 ⟨Nat.le_of_ble_eq_true rfl, Nat.le_of_ble_eq_true rfl⟩ (fun u_15 H locs hw hP hD hS => ?_)
      obtain ⟨n_12, n_13⟩ := u_15
      try dsimp only at hw
      obtain ⟨he_n_12, he_n_13, hw⟩ := hw
      have hr_n_12 := hw
      refine lv_aload_n hx hb dX12_readOld_18 rfl (lv_at hl 0 rfl) ?_
      refine va_get (D := G) (ci := 12) (v := .int n_12) (C := RX12) (T := TX12) (N := 65) hx hb hts inT12 hown hK hP 2 rfl rfl 12 (by decide) (hts _ tw_1897) (fun _ h9 => h9) rfl dX12_readOld_19 ?_
      refine lv_if_ne (tgt := 44) hx hb dX12_readOld_22 (by decide) (fun c_17 => ?_) (fun h9 => (z_no (by have h8 := z_feqF h9; omega)))
      have b_18 := z_fneT c_17
      refine lv_iconst (v := 0) hx hb dX12_readOld_44 (by decide) ?_
      refine lv_istore_n (lv' := [(3, .int 0), (0, .ref h0), (1, .int 2), (2, .int 13)]) hx hb dX12_readOld_45 rfl hl (by decide) rfl (fun ls hl => ?_)
      refine lv_aload_n hx hb dX12_readOld_46 rfl (lv_at hl 1 rfl) ?_
      refine va_get (D := G) (ci := 12) (v := .int n_12) (C := RX12) (T := TX12) (N := 65) hx hb hts inT12 hown hK hP 2 rfl rfl 12 (by decide) (hts _ tw_1897) (fun _ h9 => h9) rfl dX12_readOld_47 ?_
      refine lv_if_ne (tgt := 66) hx hb dX12_readOld_50 (by decide) (fun c_19 => ?_) (fun h9 => (z_no (by have h8 := z_feqF h9; omega)))
      have b_20 := z_fneT c_19
      refine lv_iload_n hx hb dX12_readOld_66 rfl (lv_at hl 0 rfl) ?_
      have hpost : ((-1) ≤ (0 : Int32).toInt ∧ (0 : Int32).toInt ≤ 2) ∧ (0 ≤ n_12.toInt ∧ n_12.toInt ≤ 9) ∧ (m_behind.toInt ≤ m_behind.toInt) ∧ (0 < m_bad.toInt → 0 < n_12.toInt) ∧ (n_12.toInt ≤ 0 → 0 ≤ (0 : Int32).toInt ∧ (0 : Int32).toInt < (g_c 1462).toInt) := ⟨(by decide +kernel), (z_rgw hr_n_12 (by decide) (by decide)), (by omega), (by omega), (by omega)⟩
      have hX_21 : F_r_readOld_2 m_bad m_badAt m_token m_at m_letters m_word g_c g_words = (((0 : Int32), n_12, n_13) : Int32 × Int32 × Int32) := by
        refine (F_r_readOld_2_s ..).trans ?_
        refine (if_pos c_1).trans ?_
        extract_lets -merge -useContext +onlyGivenNames w9 y9; have e9 : (0 : Int32) = w9 := he_r_9; clear_value w9; subst e9
        refine (if_pos rfl).trans ?_
        extract_lets -merge -useContext +onlyGivenNames w9 y3_0 y3_1; have e9 : (n_12, n_13) = w9 := ((z_tS he_n_12 he_n_13.symm)).symm; clear_value w9; subst e9
        exact rfl
      exact hret _ _ _ _ _ _ (n_12, n_13) [2, 0, 1] hP hD hS rfl (by decide) dX12_readOld_67 ⟨(congrArg (fun z9 => z9.1) hX_21).symm, (congrArg (fun z9 => z9.2.1) hX_21).symm, (congrArg (fun z9 => z9.2.2) hX_21).symm, hpost⟩
    · skip
      refine lv_if_ne (tgt := 18) hx hb dX12_readOld_11 (by decide) (fun _ => ?_) (fun h9 => absurd h9 (by decide +kernel))
      refine lv_aload_n hx hb dX12_readOld_18 rfl (lv_at hl 0 rfl) ?_
      refine va_get (D := G) (ci := 12) (v := .int m_bad) (C := RX12) (T := TX12) (N := 65) hx hb hts inT12 hown hK hP 2 rfl rfl 12 (by decide) (hts _ tw_1897) (fun _ h9 => h9) rfl dX12_readOld_19 ?_
      refine lv_if_ne (tgt := 44) hx hb dX12_readOld_22 (by decide) (fun h9 => (z_no (by have h8 := z_fneT h9; omega))) (fun c_22 => ?_)
      have b_23 := z_feqF c_22
      refine lv_aload_n hx hb dX12_readOld_25 rfl (lv_at hl 0 rfl) ?_
      refine lv_iconst (v := 4) hx hb dX12_readOld_26 (by decide) ?_
      refine lv_iload_n hx hb dX12_readOld_27 rfl (lv_at hl 2 rfl) ?_
      refine lv_aload_n hx hb dX12_readOld_28 rfl (lv_at hl 0 rfl) ?_
      refine va_get (D := G) (ci := 12) (v := .ref a_c) (C := RX12) (T := TX12) (N := 65) hx hb hts inT12 hown hK hP 2 rfl rfl 20 (by decide) (hts _ tw_1905) (fun _ h9 => h9) rfl dX12_readOld_29 ?_
      refine lv_sipush (v := 1460) hx hb dX12_readOld_32 (by decide) ?_
      refine lv_iload_n hx hb dX12_readOld_35 rfl (lv_at hl 1 rfl) ?_
      refine lv_iadd hx hb dX12_readOld_36 ?_
      refine z_topi (y := 1462) (by decide +kernel) ?_
      refine va_iald hx hb hK hP 0 0 rfl rfl (z_in (i := 1462) (n := 1825) (by decide +kernel) (by decide +kernel)) dX12_readOld_37 ?_
      refine lv_topi (fun x_24 he_x_24 => ?_)
      have hr_x_24 := z_ctk hC_g_c he_x_24 (k := 1462) (lo := 0) (hi := 3) (by decide +kernel) (by decide +kernel) (by decide +kernel)
      have hv_x_24 := z_cv he_x_24 (k := 1462) (by decide +kernel)
      refine z_callVi (As := [.int 4, .int 13, .int x_24]) (rest := []) (wr := [(a_c, .inl (cA.1 0, 1825, .inl g_c))]) ⟨hx, hb, hml, hown, hts⟩ hK hE hT hP hD hS hA (r_named_4_13 l G cA h0 m_status m_thrown m_above m_under a_traySort a_trayMany a_numbers a_tape m_taped m_textEnd m_faultKind m_faultAt m_bad m_badAt m_token m_at m_behind m_number m_letters m_word a_c a_words m_markMany a_there a_tried a_best a_found m_thereMany m_foundMany m_orderHow m_orderRing m_orderMany m_hasBest m_bestTop m_bestBy a_weights a_shared m_random m_truePlace m_trueWay m_seconds m_done m_feelings m_tries m_leftOver m_playDoor m_playRing m_isOpen m_isOver m_wasTried m_hasPlayed a_feltNow a_last a_kept m_hasSeconds m_hasTurned m_hasRound a_hasFeels a_isOn m_firstAct m_meanTop m_meanBy a_order m_rowMany m_newSteps g_words x_24 hr_x_24) lk_RX12_196 ⟨rfl, rfl⟩ ⟨Nat.le_of_ble_eq_true rfl, Nat.le_of_ble_eq_true rfl⟩ 12 rfl rfl rfl [2, 1] [0] rfl rfl (by decide) rfl hl.1 rfl (lv_room (Nat.le_of_ble_eq_true rfl)) dX12_readOld_38 ⟨Nat.le_of_ble_eq_true rfl, Nat.le_of_ble_eq_true rfl⟩ (fun r_25 u_26 H locs hw hP hD hS => ?_)
      obtain ⟨he_r_25, hw⟩ := hw
      obtain ⟨hr_r_25, hf_28⟩ := hw
      refine lv_goto (tgt := 45) hx hb dX12_readOld_41 (by decide) ?_
      refine lv_istore_n (lv' := [(3, .int r_25), (0, .ref h0), (1, .int 2), (2, .int 13)]) hx hb dX12_readOld_45 rfl hl (by decide) rfl (fun ls hl => ?_)
      refine lv_aload_n hx hb dX12_readOld_46 rfl (lv_at hl 1 rfl) ?_
      refine va_get (D := G) (ci := 12) (v := .int m_bad) (C := RX12) (T := TX12) (N := 65) hx hb hts inT12 hown hK hP 1 rfl rfl 12 (by decide) (hts _ tw_1897) (fun _ h9 => h9) rfl dX12_readOld_47 ?_
      refine lv_if_ne (tgt := 66) hx hb dX12_readOld_50 (by decide) (fun h9 => (z_no (by have h8 := z_fneT h9; omega))) (fun c_29 => ?_)
      have b_30 := z_feqF c_29
      refine lv_iload_n hx hb dX12_readOld_53 rfl (lv_at hl 0 rfl) ?_
      refine lv_if_ge (tgt := 66) hx hb dX12_readOld_54 (by decide) (fun c_31 => ?_) (fun c_31 => ?_)
      · have b_32 := z_fgeT c_31
        refine lv_iload_n hx hb dX12_readOld_66 rfl (lv_at hl 0 rfl) ?_
        have hpost : ((-1) ≤ r_25.toInt ∧ r_25.toInt ≤ 2) ∧ (0 ≤ m_bad.toInt ∧ m_bad.toInt ≤ 9) ∧ (m_behind.toInt ≤ m_behind.toInt) ∧ (0 < m_bad.toInt → 0 < m_bad.toInt) ∧ (m_bad.toInt ≤ 0 → 0 ≤ r_25.toInt ∧ r_25.toInt < (g_c 1462).toInt) := ⟨hr_r_25, hr_m_bad, (by omega), (by omega), (by omega)⟩
        have hX_33 : F_r_readOld_2 m_bad m_badAt m_token m_at m_letters m_word g_c g_words = ((r_25, m_bad, m_badAt) : Int32 × Int32 × Int32) := by
          refine (F_r_readOld_2_s ..).trans ?_
          refine (if_pos c_1).trans ?_
          extract_lets -merge -useContext +onlyGivenNames w9 y9; have e9 : (1 : Int32) = w9 := he_r_9; clear_value w9; subst e9
          refine (if_neg (show ¬ (1 : Int32) = 0 by decide)).trans ?_
          try (extract_lets -merge -useContext +onlyGivenNames y9; have e9 : x_24 = y9 := (by first | exact he_x_24 | exact he_x_24.symm); clear_value y9; subst e9)
          extract_lets -merge -useContext +onlyGivenNames w9 y9; have e9 : r_25 = w9 := he_r_25; clear_value w9; subst e9
          refine (if_pos c_31).trans ?_
          exact rfl
        exact hret _ _ _ _ _ _ (m_bad, m_badAt) [1, 0, 2] hP hD hS rfl (by decide) dX12_readOld_67 ⟨(congrArg (fun z9 => z9.1) hX_33).symm, (congrArg (fun z9 => z9.2.1) hX_33).symm, (congrArg (fun z9 => z9.2.2) hX_33).symm, hpost⟩
      · have b_34 := z_fltF c_31
        refine lv_aload_n hx hb dX12_readOld_57 rfl (lv_at hl 1 rfl) ?_
        refine lv_iconst (v := 3) hx hb dX12_readOld_58 (by decide) ?_
        refine lv_aload_n hx hb dX12_readOld_59 rfl (lv_at hl 1 rfl) ?_
        refine va_get (D := G) (ci := 12) (v := .int m_at) (C := RX12) (T := TX12) (N := 65) hx hb hts inT12 hown hK hP 1 rfl rfl 15 (by decide) (hts _ tw_1900) (fun _ h9 => h9) rfl dX12_readOld_60 ?_
        refine z_callVv (As := [.int 3, .int m_at]) (rest := []) (wr := [(a_c, .inl (cA.1 0, 1825, .inl g_c)), (a_words, .inl (cA.1 1, 105, .inr (.inl g_words)))]) ⟨hx, hb, hml, hown, hts⟩ hK hE hT hP hD hS hA (r_fail l G cA h0 m_status m_thrown m_above m_under a_traySort a_trayMany a_numbers a_tape m_taped m_textEnd m_faultKind m_faultAt m_bad m_badAt m_token m_at m_behind m_number m_letters m_word a_c a_words m_markMany a_there a_tried a_best a_found m_thereMany m_foundMany m_orderHow m_orderRing m_orderMany m_hasBest m_bestTop m_bestBy a_weights a_shared m_random m_truePlace m_trueWay m_seconds m_done m_feelings m_tries m_leftOver m_playDoor m_playRing m_isOpen m_isOver m_wasTried m_hasPlayed a_feltNow a_last a_kept m_hasSeconds m_hasTurned m_hasRound a_hasFeels a_isOn m_firstAct m_meanTop m_meanBy a_order m_rowMany m_newSteps 3 m_at (by decide +kernel) hr_m_bad) lk_RX12_180 ⟨rfl, rfl⟩ ⟨Nat.le_of_ble_eq_true rfl, Nat.le_of_ble_eq_true rfl⟩ 12 rfl rfl rfl [1] [0, 2] rfl rfl (by decide) rfl hl.1 rfl (lv_room (Nat.le_of_ble_eq_true rfl)) dX12_readOld_63 ⟨Nat.le_of_ble_eq_true rfl, Nat.le_of_ble_eq_true rfl⟩ (fun u_38 H locs hw hP hD hS => ?_)
        obtain ⟨n_35, n_36⟩ := u_38
        try dsimp only at hw
        obtain ⟨he_n_35, he_n_36, hw⟩ := hw
        obtain ⟨hr_n_35, hf_40⟩ := hw
        refine lv_iload_n hx hb dX12_readOld_66 rfl (lv_at hl 0 rfl) ?_
        have hpost : ((-1) ≤ r_25.toInt ∧ r_25.toInt ≤ 2) ∧ (0 ≤ n_35.toInt ∧ n_35.toInt ≤ 9) ∧ (m_behind.toInt ≤ m_behind.toInt) ∧ (0 < m_bad.toInt → 0 < n_35.toInt) ∧ (n_35.toInt ≤ 0 → 0 ≤ r_25.toInt ∧ r_25.toInt < (g_c 1462).toInt) := ⟨hr_r_25, (z_rgw hr_n_35 (by decide) (by decide)), (by omega), (by omega), (by omega)⟩
        have hX_41 : F_r_readOld_2 m_bad m_badAt m_token m_at m_letters m_word g_c g_words = ((r_25, n_35, n_36) : Int32 × Int32 × Int32) := by
          refine (F_r_readOld_2_s ..).trans ?_
          refine (if_pos c_1).trans ?_
          extract_lets -merge -useContext +onlyGivenNames w9 y9; have e9 : (1 : Int32) = w9 := he_r_9; clear_value w9; subst e9
          refine (if_neg (show ¬ (1 : Int32) = 0 by decide)).trans ?_
          try (extract_lets -merge -useContext +onlyGivenNames y9; have e9 : x_24 = y9 := (by first | exact he_x_24 | exact he_x_24.symm); clear_value y9; subst e9)
          extract_lets -merge -useContext +onlyGivenNames w9 y9; have e9 : r_25 = w9 := he_r_25; clear_value w9; subst e9
          refine (if_neg c_31).trans ?_
          extract_lets -merge -useContext +onlyGivenNames w9 y6_0 y6_1; have e9 : (n_35, n_36) = w9 := ((z_tS he_n_35 he_n_36.symm)).symm; clear_value w9; subst e9
          exact rfl
        exact hret _ _ _ _ _ _ (n_35, n_36) [2, 0, 1] hP hD hS rfl (by decide) dX12_readOld_67 ⟨(congrArg (fun z9 => z9.1) hX_41).symm, (congrArg (fun z9 => z9.2.1) hX_41).symm, (congrArg (fun z9 => z9.2.2) hX_41).symm, hpost⟩
set_option maxHeartbeats 40000000 in
set_option maxRecDepth 100000 in
theorem r_readNew_3 (l : Launch) (G : va_G) (cA : zCA) (h0 : Nat) (m_status : Int32) (m_thrown : Int32) (m_above : Int64) (m_under : Int64) (a_traySort : Nat) (a_trayMany : Nat) (a_numbers : Nat) (a_tape : Nat) (m_taped : Int32) (m_textEnd : Int32) (m_faultKind : Int32) (m_faultAt : Int32) (m_bad : Int32) (m_badAt : Int32) (m_token : Int32) (m_at : Int32) (m_behind : Int32) (m_number : Int32) (m_letters : Int32) (m_word : Int64) (a_c : Nat) (a_words : Nat) (m_markMany : Int32) (a_there : Nat) (a_tried : Nat) (a_best : Nat) (a_found : Nat) (m_thereMany : Int32) (m_foundMany : Int32) (m_orderHow : Int32) (m_orderRing : Int32) (m_orderMany : Int32) (m_hasBest : Int32) (m_bestTop : Int64) (m_bestBy : Int64) (a_weights : Nat) (a_shared : Nat) (m_random : Int32) (m_truePlace : Int32) (m_trueWay : Int32) (m_seconds : Int32) (m_done : Int32) (m_feelings : Int32) (m_tries : Int32) (m_leftOver : Int32) (m_playDoor : Int32) (m_playRing : Int32) (m_isOpen : Int32) (m_isOver : Int32) (m_wasTried : Int32) (m_hasPlayed : Int32) (a_feltNow : Nat) (a_last : Nat) (a_kept : Nat) (m_hasSeconds : Int32) (m_hasTurned : Int32) (m_hasRound : Int32) (a_hasFeels : Nat) (a_isOn : Nat) (m_firstAct : Int32) (m_meanTop : Int64) (m_meanBy : Int64) (a_order : Nat) (m_rowMany : Int32) (m_newSteps : Int32) (g_tape : Nat → Int32) (g_c : Nat → Int32) (g_words : Nat → Int64) (hr_m_textEnd : 0 ≤ m_textEnd.toInt ∧ m_textEnd.toInt ≤ 900) (hr_m_at : 0 ≤ m_at.toInt ∧ m_at.toInt ≤ 900) (hr_m_behind : 0 ≤ m_behind.toInt ∧ m_behind.toInt ≤ 900) (hr_m_bad : 0 ≤ m_bad.toInt ∧ m_bad.toInt ≤ 9) (hr_m_token : 0 ≤ m_token.toInt ∧ m_token.toInt ≤ 4) (hr_m_number : 0 ≤ m_number.toInt ∧ m_number.toInt ≤ 9999) (hr_m_letters : 0 ≤ m_letters.toInt ∧ m_letters.toInt ≤ 900) (hC_g_c : zC g_c) : zCi l yX12_readNew cX12_readNew 5 (some .int) ({ frames := 3, cells := 0, slots := 0, locals := 67 }) G cA [.ref h0, .int 3, .int 5, .int 16] [(h0, .inr (12, [.int m_status, .int m_thrown, .long m_above, .long m_under, .ref a_traySort, .ref a_trayMany, .ref a_numbers, .ref a_tape, .int m_taped, .int m_textEnd, .int m_faultKind, .int m_faultAt, .int m_bad, .int m_badAt, .int m_token, .int m_at, .int m_behind, .int m_number, .int m_letters, .long m_word, .ref a_c, .ref a_words, .int m_markMany, .ref a_there, .ref a_tried, .ref a_best, .ref a_found, .int m_thereMany, .int m_foundMany, .int m_orderHow, .int m_orderRing, .int m_orderMany, .int m_hasBest, .long m_bestTop, .long m_bestBy, .ref a_weights, .ref a_shared, .int m_random, .int m_truePlace, .int m_trueWay, .int m_seconds, .int m_done, .int m_feelings, .int m_tries, .int m_leftOver, .int m_playDoor, .int m_playRing, .int m_isOpen, .int m_isOver, .int m_wasTried, .int m_hasPlayed, .ref a_feltNow, .ref a_last, .ref a_kept, .int m_hasSeconds, .int m_hasTurned, .int m_hasRound, .ref a_hasFeels, .ref a_isOn, .int m_firstAct, .long m_meanTop, .long m_meanBy, .ref a_order, .int m_rowMany, .int m_newSteps])), (a_tape, .inl (cA.1 2, 900, .inl g_tape)), (a_c, .inl (cA.1 0, 1825, .inl g_c)), (a_words, .inl (cA.1 1, 105, .inr (.inl g_words)))] (S := Int32 × Int32 × Int32 × Int32 × Int32 × Int32 × Int32 × Int64 × (Nat → Int64)) (fun (r : Int32) (u : Int32 × Int32 × Int32 × Int32 × Int32 × Int32 × Int32 × Int64 × (Nat → Int64)) => (r = (F_r_readNew_3 m_textEnd m_bad m_badAt m_token m_at m_behind m_number m_letters m_word g_tape g_c g_words).1) ∧ (u.1 = (F_r_readNew_3 m_textEnd m_bad m_badAt m_token m_at m_behind m_number m_letters m_word g_tape g_c g_words).2.1) ∧ (u.2.1 = (F_r_readNew_3 m_textEnd m_bad m_badAt m_token m_at m_behind m_number m_letters m_word g_tape g_c g_words).2.2.1) ∧ (u.2.2.1 = (F_r_readNew_3 m_textEnd m_bad m_badAt m_token m_at m_behind m_number m_letters m_word g_tape g_c g_words).2.2.2.1) ∧ (u.2.2.2.1 = (F_r_readNew_3 m_textEnd m_bad m_badAt m_token m_at m_behind m_number m_letters m_word g_tape g_c g_words).2.2.2.2.1) ∧ (u.2.2.2.2.1 = (F_r_readNew_3 m_textEnd m_bad m_badAt m_token m_at m_behind m_number m_letters m_word g_tape g_c g_words).2.2.2.2.2.1) ∧ (u.2.2.2.2.2.1 = (F_r_readNew_3 m_textEnd m_bad m_badAt m_token m_at m_behind m_number m_letters m_word g_tape g_c g_words).2.2.2.2.2.2.1) ∧ (u.2.2.2.2.2.2.1 = (F_r_readNew_3 m_textEnd m_bad m_badAt m_token m_at m_behind m_number m_letters m_word g_tape g_c g_words).2.2.2.2.2.2.2.1) ∧ (u.2.2.2.2.2.2.2.1 = (F_r_readNew_3 m_textEnd m_bad m_badAt m_token m_at m_behind m_number m_letters m_word g_tape g_c g_words).2.2.2.2.2.2.2.2.1) ∧ (u.2.2.2.2.2.2.2.2 = (F_r_readNew_3 m_textEnd m_bad m_badAt m_token m_at m_behind m_number m_letters m_word g_tape g_c g_words).2.2.2.2.2.2.2.2.2) ∧ ((0 ≤ r.toInt ∧ r.toInt ≤ 4) ∧ (0 ≤ u.1.toInt ∧ u.1.toInt ≤ 9) ∧ (0 ≤ u.2.2.1.toInt ∧ u.2.2.1.toInt ≤ 4) ∧ (0 ≤ u.2.2.2.1.toInt ∧ u.2.2.2.1.toInt ≤ 900) ∧ (0 ≤ u.2.2.2.2.1.toInt ∧ u.2.2.2.2.1.toInt ≤ 900) ∧ (0 ≤ u.2.2.2.2.2.1.toInt ∧ u.2.2.2.2.2.1.toInt ≤ 9999) ∧ (0 ≤ u.2.2.2.2.2.2.1.toInt ∧ u.2.2.2.2.2.2.1.toInt ≤ 900) ∧ (m_behind.toInt ≤ u.2.2.2.2.1.toInt) ∧ (0 < m_bad.toInt → 0 < u.1.toInt) ∧ (u.1.toInt ≤ 0 → u.2.2.1.toInt = 0 ∨ m_behind.toInt < u.2.2.2.2.1.toInt) ∧ (u.1.toInt ≤ 0 → r.toInt = (g_c 1463).toInt) ∧ (r.toInt < 5))) (fun (u : Int32 × Int32 × Int32 × Int32 × Int32 × Int32 × Int32 × Int64 × (Nat → Int64)) => [(h0, .inr (12, [.int m_status, .int m_thrown, .long m_above, .long m_under, .ref a_traySort, .ref a_trayMany, .ref a_numbers, .ref a_tape, .int m_taped, .int m_textEnd, .int m_faultKind, .int m_faultAt, .int u.1, .int u.2.1, .int u.2.2.1, .int u.2.2.2.1, .int u.2.2.2.2.1, .int u.2.2.2.2.2.1, .int u.2.2.2.2.2.2.1, .long u.2.2.2.2.2.2.2.1, .ref a_c, .ref a_words, .int m_markMany, .ref a_there, .ref a_tried, .ref a_best, .ref a_found, .int m_thereMany, .int m_foundMany, .int m_orderHow, .int m_orderRing, .int m_orderMany, .int m_hasBest, .long m_bestTop, .long m_bestBy, .ref a_weights, .ref a_shared, .int m_random, .int m_truePlace, .int m_trueWay, .int m_seconds, .int m_done, .int m_feelings, .int m_tries, .int m_leftOver, .int m_playDoor, .int m_playRing, .int m_isOpen, .int m_isOver, .int m_wasTried, .int m_hasPlayed, .ref a_feltNow, .ref a_last, .ref a_kept, .int m_hasSeconds, .int m_hasTurned, .int m_hasRound, .ref a_hasFeels, .ref a_isOn, .int m_firstAct, .long m_meanTop, .long m_meanBy, .ref a_order, .int m_rowMany, .int m_newSteps])), (a_tape, .inl (cA.1 2, 900, .inl g_tape)), (a_c, .inl (cA.1 0, 1825, .inl g_c)), (a_words, .inl (cA.1 1, 105, .inr (.inl u.2.2.2.2.2.2.2.2)))]) 0 0 := by
  have hk_0 : (0 : Int32).toInt = 0 := by decide +kernel
  have hk_3 : (3 : Int32).toInt = 3 := by decide +kernel
  have hk_5 : (5 : Int32).toInt = 5 := by decide +kernel
  have hk_6 : (6 : Int32).toInt = 6 := by decide +kernel
  have hk_100 : (100 : Int32).toInt = 100 := by decide +kernel
  refine z_start2i (own := RX12) (by decide) (Nat.le_of_ble_eq_true rfl) rfl ?_
  intro p e s m args below meth c A ls Q hx hb hml hts hown hK hE hT hP hD hS hA hl hret
  have hl : lv_has ls 5 [(0, .ref h0), (1, .int 3), (2, .int 5), (3, .int 16)] := hl
  refine lv_aload_n hx hb dX12_readNew_0 rfl (lv_at hl 0 rfl) ?_
  refine va_get (D := G) (ci := 12) (v := .ref a_c) (C := RX12) (T := TX12) (N := 65) hx hb hts inT12 hown hK hP 0 rfl rfl 20 (by decide) (hts _ tw_1905) (fun _ h9 => h9) rfl dX12_readNew_1 ?_
  refine lv_sipush (v := 1460) hx hb dX12_readNew_4 (by decide) ?_
  refine lv_iload_n hx hb dX12_readNew_7 rfl (lv_at hl 1 rfl) ?_
  refine lv_iadd hx hb dX12_readNew_8 ?_
  refine z_topi (y := 1463) (by decide +kernel) ?_
  refine va_iald hx hb hK hP 2 0 rfl rfl (z_in (i := 1463) (n := 1825) (by decide +kernel) (by decide +kernel)) dX12_readNew_9 ?_
  refine lv_topi (fun x_1 he_x_1 => ?_)
  have hr_x_1 := z_ctk hC_g_c he_x_1 (k := 1463) (lo := 0) (hi := 5) (by decide +kernel) (by decide +kernel) (by decide +kernel)
  have hv_x_1 := z_cv he_x_1 (k := 1463) (by decide +kernel)
  refine lv_istore (lv' := [(4, .int x_1), (0, .ref h0), (1, .int 3), (2, .int 5), (3, .int 16)]) hx hb dX12_readNew_10 hl (by decide) rfl (fun ls hl => ?_)
  refine lv_aload_n hx hb dX12_readNew_12 rfl (lv_at hl 1 rfl) ?_
  refine va_get (D := G) (ci := 12) (v := .int m_bad) (C := RX12) (T := TX12) (N := 65) hx hb hts inT12 hown hK hP 0 rfl rfl 12 (by decide) (hts _ tw_1897) (fun _ h9 => h9) rfl dX12_readNew_13 ?_
  refine lv_if_ne (tgt := 35) hx hb dX12_readNew_16 (by decide) (fun c_2 => ?_) (fun c_2 => ?_)
  · have b_3 := z_fneT c_2
    refine lv_aload_n hx hb dX12_readNew_35 rfl (lv_at hl 1 rfl) ?_
    refine va_get (D := G) (ci := 12) (v := .int m_bad) (C := RX12) (T := TX12) (N := 65) hx hb hts inT12 hown hK hP 0 rfl rfl 12 (by decide) (hts _ tw_1897) (fun _ h9 => h9) rfl dX12_readNew_36 ?_
    refine lv_if_le (tgt := 44) hx hb dX12_readNew_39 (by decide) (fun h9 => (z_no (by have h8 := z_fleT h9; omega))) (fun c_4 => ?_)
    have b_5 := z_fgtF c_4
    refine lv_iconst (v := 0) hx hb dX12_readNew_42 (by decide) ?_
    have hpost : (0 ≤ (0 : Int32).toInt ∧ (0 : Int32).toInt ≤ 4) ∧ (0 ≤ m_bad.toInt ∧ m_bad.toInt ≤ 9) ∧ (0 ≤ m_token.toInt ∧ m_token.toInt ≤ 4) ∧ (0 ≤ m_at.toInt ∧ m_at.toInt ≤ 900) ∧ (0 ≤ m_behind.toInt ∧ m_behind.toInt ≤ 900) ∧ (0 ≤ m_number.toInt ∧ m_number.toInt ≤ 9999) ∧ (0 ≤ m_letters.toInt ∧ m_letters.toInt ≤ 900) ∧ (m_behind.toInt ≤ m_behind.toInt) ∧ (0 < m_bad.toInt → 0 < m_bad.toInt) ∧ (m_bad.toInt ≤ 0 → m_token.toInt = 0 ∨ m_behind.toInt < m_behind.toInt) ∧ (m_bad.toInt ≤ 0 → (0 : Int32).toInt = (g_c 1463).toInt) ∧ ((0 : Int32).toInt < 5) := ⟨(by decide +kernel), hr_m_bad, hr_m_token, hr_m_at, hr_m_behind, hr_m_number, hr_m_letters, (by omega), (by omega), (by omega), (by omega), (by omega)⟩
    have hX_6 : F_r_readNew_3 m_textEnd m_bad m_badAt m_token m_at m_behind m_number m_letters m_word g_tape g_c g_words = (((0 : Int32), m_bad, m_badAt, m_token, m_at, m_behind, m_number, m_letters, m_word, g_words) : Int32 × Int32 × Int32 × Int32 × Int32 × Int32 × Int32 × Int32 × Int64 × (Nat → Int64)) := by
      refine (F_r_readNew_3_s ..).trans ?_
      try (extract_lets -merge -useContext +onlyGivenNames y9; have e9 : x_1 = y9 := (by first | exact he_x_1 | exact he_x_1.symm); clear_value y9; subst e9)
      refine (if_neg c_2).trans ?_
      exact rfl
    exact hret _ _ _ _ _ _ (m_bad, m_badAt, m_token, m_at, m_behind, m_number, m_letters, m_word, g_words) [0, 1, 2, 3] hP hD hS rfl (by decide) dX12_readNew_43 ⟨(congrArg (fun z9 => z9.1) hX_6).symm, (congrArg (fun z9 => z9.2.1) hX_6).symm, (congrArg (fun z9 => z9.2.2.1) hX_6).symm, (congrArg (fun z9 => z9.2.2.2.1) hX_6).symm, (congrArg (fun z9 => z9.2.2.2.2.1) hX_6).symm, (congrArg (fun z9 => z9.2.2.2.2.2.1) hX_6).symm, (congrArg (fun z9 => z9.2.2.2.2.2.2.1) hX_6).symm, (congrArg (fun z9 => z9.2.2.2.2.2.2.2.1) hX_6).symm, (congrArg (fun z9 => z9.2.2.2.2.2.2.2.2.1) hX_6).symm, (congrArg (fun z9 => z9.2.2.2.2.2.2.2.2.2) hX_6).symm, hpost⟩
  · have b_7 := z_feqF c_2
    refine lv_iload hx hb dX12_readNew_19 (lv_at hl 0 rfl) ?_
    refine lv_iload_n hx hb dX12_readNew_21 rfl (lv_at hl 3 rfl) ?_
    refine lv_icmp_ne (tgt := 35) hx hb dX12_readNew_22 (by decide) (fun c_8 => ?_) (fun c_8 => ?_)
    · have b_9 := z_fneT c_8
      refine lv_aload_n hx hb dX12_readNew_35 rfl (lv_at hl 1 rfl) ?_
      refine va_get (D := G) (ci := 12) (v := .int m_bad) (C := RX12) (T := TX12) (N := 65) hx hb hts inT12 hown hK hP 0 rfl rfl 12 (by decide) (hts _ tw_1897) (fun _ h9 => h9) rfl dX12_readNew_36 ?_
      refine lv_if_le (tgt := 44) hx hb dX12_readNew_39 (by decide) (fun c_10 => ?_) (fun h9 => (z_no (by have h8 := z_fgtF h9; omega)))
      have b_11 := z_fleT c_10
      refine lv_aload_n hx hb dX12_readNew_44 rfl (lv_at hl 1 rfl) ?_
      refine z_callVv (As := []) (rest := []) (wr := [(a_c, .inl (cA.1 0, 1825, .inl g_c)), (a_words, .inl (cA.1 1, 105, .inr (.inl g_words)))]) ⟨hx, hb, hml, hown, hts⟩ hK hE hT hP hD hS hA (r_next2 l G cA h0 m_status m_thrown m_above m_under a_traySort a_trayMany a_numbers a_tape m_taped m_textEnd m_faultKind m_faultAt m_bad m_badAt m_token m_at m_behind m_number m_letters m_word a_c a_words m_markMany a_there a_tried a_best a_found m_thereMany m_foundMany m_orderHow m_orderRing m_orderMany m_hasBest m_bestTop m_bestBy a_weights a_shared m_random m_truePlace m_trueWay m_seconds m_done m_feelings m_tries m_leftOver m_playDoor m_playRing m_isOpen m_isOver m_wasTried m_hasPlayed a_feltNow a_last a_kept m_hasSeconds m_hasTurned m_hasRound a_hasFeels a_isOn m_firstAct m_meanTop m_meanBy a_order m_rowMany m_newSteps g_tape hr_m_textEnd hr_m_at hr_m_behind hr_m_token hr_m_number hr_m_letters) lk_RX12_184 ⟨rfl, rfl⟩ ⟨Nat.le_of_ble_eq_true rfl, Nat.le_of_ble_eq_true rfl⟩ 12 rfl rfl rfl [0, 1] [2, 3] rfl rfl (by decide) rfl hl.1 rfl (lv_room (Nat.le_of_ble_eq_true rfl)) dX12_readNew_45 ⟨Nat.le_of_ble_eq_true rfl, Nat.le_of_ble_eq_true rfl⟩ (fun u_19 H locs hw hP hD hS => ?_)
      obtain ⟨n_12, n_13, n_14, n_15, n_16, n_17⟩ := u_19
      try dsimp only at hw
      obtain ⟨he_n_12, he_n_13, he_n_14, he_n_15, he_n_16, he_n_17, hw⟩ := hw
      obtain ⟨hr_n_12, hr_n_13, hr_n_14, hr_n_15, hr_n_16, hf_21, hf_22⟩ := hw
      refine lv_aload_n hx hb dX12_readNew_48 rfl (lv_at hl 1 rfl) ?_
      refine z_callVi (As := []) (rest := []) (wr := [(a_c, .inl (cA.1 0, 1825, .inl g_c)), (a_words, .inl (cA.1 1, 105, .inr (.inl g_words))), (a_tape, .inl (cA.1 2, 900, .inl g_tape))]) ⟨hx, hb, hml, hown, hts⟩ hK hE hT hP hD hS hA (r_isHouseName l G cA h0 m_status m_thrown m_above m_under a_traySort a_trayMany a_numbers a_tape m_taped m_textEnd m_faultKind m_faultAt m_bad m_badAt n_12 n_13 n_14 n_15 n_16 n_17 a_c a_words m_markMany a_there a_tried a_best a_found m_thereMany m_foundMany m_orderHow m_orderRing m_orderMany m_hasBest m_bestTop m_bestBy a_weights a_shared m_random m_truePlace m_trueWay m_seconds m_done m_feelings m_tries m_leftOver m_playDoor m_playRing m_isOpen m_isOver m_wasTried m_hasPlayed a_feltNow a_last a_kept m_hasSeconds m_hasTurned m_hasRound a_hasFeels a_isOn m_firstAct m_meanTop m_meanBy a_order m_rowMany m_newSteps hr_n_12 hr_n_16) lk_RX12_200 ⟨rfl, rfl⟩ ⟨Nat.le_of_ble_eq_true rfl, Nat.le_of_ble_eq_true rfl⟩ 12 rfl rfl rfl [2] [0, 1, 3] rfl rfl (by decide) rfl hl.1 rfl (lv_room (Nat.le_of_ble_eq_true rfl)) dX12_readNew_49 ⟨Nat.le_of_ble_eq_true rfl, Nat.le_of_ble_eq_true rfl⟩ (fun r_23 u_24 H locs hw hP hD hS => ?_)
      obtain ⟨he_r_23, hw⟩ := hw
      rcases hw with ⟨rfl, -⟩ | ⟨rfl, -⟩
      · skip
        refine lv_if_ne (tgt := 59) hx hb dX12_readNew_52 (by decide) (fun h9 => absurd (by decide +kernel) h9) (fun _ => ?_)
        refine lv_aload_n hx hb dX12_readNew_55 rfl (lv_at hl 1 rfl) ?_
        refine z_callVv (As := []) (rest := []) (wr := [(a_c, .inl (cA.1 0, 1825, .inl g_c)), (a_words, .inl (cA.1 1, 105, .inr (.inl g_words))), (a_tape, .inl (cA.1 2, 900, .inl g_tape))]) ⟨hx, hb, hml, hown, hts⟩ hK hE hT hP hD hS hA (r_wrong l G cA h0 m_status m_thrown m_above m_under a_traySort a_trayMany a_numbers a_tape m_taped m_textEnd m_faultKind m_faultAt m_bad m_badAt n_12 n_13 n_14 n_15 n_16 n_17 a_c a_words m_markMany a_there a_tried a_best a_found m_thereMany m_foundMany m_orderHow m_orderRing m_orderMany m_hasBest m_bestTop m_bestBy a_weights a_shared m_random m_truePlace m_trueWay m_seconds m_done m_feelings m_tries m_leftOver m_playDoor m_playRing m_isOpen m_isOver m_wasTried m_hasPlayed a_feltNow a_last a_kept m_hasSeconds m_hasTurned m_hasRound a_hasFeels a_isOn m_firstAct m_meanTop m_meanBy a_order m_rowMany m_newSteps hr_n_13 hr_m_bad hr_n_12) lk_RX12_187 ⟨rfl, rfl⟩ ⟨Nat.le_of_ble_eq_true rfl, Nat.le_of_ble_eq_true rfl⟩ 12 rfl rfl rfl [3] [0, 1, 2] rfl rfl (by decide) rfl hl.1 rfl (lv_room (Nat.le_of_ble_eq_true rfl)) dX12_readNew_56 ⟨Nat.le_of_ble_eq_true rfl, Nat.le_of_ble_eq_true rfl⟩ (fun u_29 H locs hw hP hD hS => ?_)
        obtain ⟨n_26, n_27⟩ := u_29
        try dsimp only at hw
        obtain ⟨he_n_26, he_n_27, hw⟩ := hw
        have hr_n_26 := hw
        refine lv_aload_n hx hb dX12_readNew_59 rfl (lv_at hl 1 rfl) ?_
        refine va_get (D := G) (ci := 12) (v := .int n_26) (C := RX12) (T := TX12) (N := 65) hx hb hts inT12 hown hK hP 3 rfl rfl 12 (by decide) (hts _ tw_1897) (fun _ h9 => h9) rfl dX12_readNew_60 ?_
        refine lv_if_ne (tgt := 82) hx hb dX12_readNew_63 (by decide) (fun c_31 => ?_) (fun h9 => (z_no (by have h8 := z_feqF h9; omega)))
        have b_32 := z_fneT c_31
        refine lv_aload_n hx hb dX12_readNew_82 rfl (lv_at hl 1 rfl) ?_
        refine va_get (D := G) (ci := 12) (v := .int n_26) (C := RX12) (T := TX12) (N := 65) hx hb hts inT12 hown hK hP 3 rfl rfl 12 (by decide) (hts _ tw_1897) (fun _ h9 => h9) rfl dX12_readNew_83 ?_
        refine lv_if_le (tgt := 91) hx hb dX12_readNew_86 (by decide) (fun h9 => (z_no (by have h8 := z_fleT h9; omega))) (fun c_33 => ?_)
        have b_34 := z_fgtF c_33
        refine lv_iconst (v := 0) hx hb dX12_readNew_89 (by decide) ?_
        have hpost : (0 ≤ (0 : Int32).toInt ∧ (0 : Int32).toInt ≤ 4) ∧ (0 ≤ n_26.toInt ∧ n_26.toInt ≤ 9) ∧ (0 ≤ n_12.toInt ∧ n_12.toInt ≤ 4) ∧ (0 ≤ n_13.toInt ∧ n_13.toInt ≤ 900) ∧ (0 ≤ n_14.toInt ∧ n_14.toInt ≤ 900) ∧ (0 ≤ n_15.toInt ∧ n_15.toInt ≤ 9999) ∧ (0 ≤ n_16.toInt ∧ n_16.toInt ≤ 900) ∧ (m_behind.toInt ≤ n_14.toInt) ∧ (0 < m_bad.toInt → 0 < n_26.toInt) ∧ (n_26.toInt ≤ 0 → n_12.toInt = 0 ∨ m_behind.toInt < n_14.toInt) ∧ (n_26.toInt ≤ 0 → (0 : Int32).toInt = (g_c 1463).toInt) ∧ ((0 : Int32).toInt < 5) := ⟨(by decide +kernel), (z_rgw hr_n_26 (by decide) (by decide)), hr_n_12, hr_n_13, hr_n_14, hr_n_15, hr_n_16, (by omega), (by omega), (by omega), (by omega), (by omega)⟩
        have hX_35 : F_r_readNew_3 m_textEnd m_bad m_badAt m_token m_at m_behind m_number m_letters m_word g_tape g_c g_words = (((0 : Int32), n_26, n_27, n_12, n_13, n_14, n_15, n_16, n_17, g_words) : Int32 × Int32 × Int32 × Int32 × Int32 × Int32 × Int32 × Int32 × Int64 × (Nat → Int64)) := by
          refine (F_r_readNew_3_s ..).trans ?_
          try (extract_lets -merge -useContext +onlyGivenNames y9; have e9 : x_1 = y9 := (by first | exact he_x_1 | exact he_x_1.symm); clear_value y9; subst e9)
          refine (if_pos c_2).trans ?_
          refine (if_neg c_8).trans ?_
          extract_lets -merge -useContext +onlyGivenNames w9 y3_0 y3_1 y3_2 y3_3 y3_4 y3_5; have e9 : (n_12, n_13, n_14, n_15, n_16, n_17) = w9 := ((z_tS he_n_12 (z_tS he_n_13 (z_tS he_n_14 (z_tS he_n_15 (z_tS he_n_16 he_n_17.symm)))))).symm; clear_value w9; subst e9
          extract_lets -merge -useContext +onlyGivenNames w9 y9; have e9 : (0 : Int32) = w9 := he_r_23; clear_value w9; subst e9
          refine (if_pos rfl).trans ?_
          extract_lets -merge -useContext +onlyGivenNames w9 y6_0 y6_1; have e9 : (n_26, n_27) = w9 := ((z_tS he_n_26 he_n_27.symm)).symm; clear_value w9; subst e9
          exact rfl
        exact hret _ _ _ _ _ _ (n_26, n_27, n_12, n_13, n_14, n_15, n_16, n_17, g_words) [3, 2, 0, 1] hP hD hS rfl (by decide) dX12_readNew_90 ⟨(congrArg (fun z9 => z9.1) hX_35).symm, (congrArg (fun z9 => z9.2.1) hX_35).symm, (congrArg (fun z9 => z9.2.2.1) hX_35).symm, (congrArg (fun z9 => z9.2.2.2.1) hX_35).symm, (congrArg (fun z9 => z9.2.2.2.2.1) hX_35).symm, (congrArg (fun z9 => z9.2.2.2.2.2.1) hX_35).symm, (congrArg (fun z9 => z9.2.2.2.2.2.2.1) hX_35).symm, (congrArg (fun z9 => z9.2.2.2.2.2.2.2.1) hX_35).symm, (congrArg (fun z9 => z9.2.2.2.2.2.2.2.2.1) hX_35).symm, (congrArg (fun z9 => z9.2.2.2.2.2.2.2.2.2) hX_35).symm, hpost⟩
      · skip
        refine lv_if_ne (tgt := 59) hx hb dX12_readNew_52 (by decide) (fun _ => ?_) (fun h9 => absurd h9 (by decide +kernel))
        refine lv_aload_n hx hb dX12_readNew_59 rfl (lv_at hl 1 rfl) ?_
        refine va_get (D := G) (ci := 12) (v := .int m_bad) (C := RX12) (T := TX12) (N := 65) hx hb hts inT12 hown hK hP 3 rfl rfl 12 (by decide) (hts _ tw_1897) (fun _ h9 => h9) rfl dX12_readNew_60 ?_
        refine lv_if_ne (tgt := 82) hx hb dX12_readNew_63 (by decide) (fun h9 => (z_no (by have h8 := z_fneT h9; omega))) (fun c_36 => ?_)
        have b_37 := z_feqF c_36
        refine lv_aload_n hx hb dX12_readNew_66 rfl (lv_at hl 1 rfl) ?_
        refine z_callVi (As := []) (rest := []) (wr := [(a_tape, .inl (cA.1 2, 900, .inl g_tape))]) ⟨hx, hb, hml, hown, hts⟩ hK hE hT hP hD hS hA (r_isTaken l G cA h0 m_status m_thrown m_above m_under a_traySort a_trayMany a_numbers a_tape m_taped m_textEnd m_faultKind m_faultAt m_bad m_badAt n_12 n_13 n_14 n_15 n_16 n_17 a_c a_words m_markMany a_there a_tried a_best a_found m_thereMany m_foundMany m_orderHow m_orderRing m_orderMany m_hasBest m_bestTop m_bestBy a_weights a_shared m_random m_truePlace m_trueWay m_seconds m_done m_feelings m_tries m_leftOver m_playDoor m_playRing m_isOpen m_isOver m_wasTried m_hasPlayed a_feltNow a_last a_kept m_hasSeconds m_hasTurned m_hasRound a_hasFeels a_isOn m_firstAct m_meanTop m_meanBy a_order m_rowMany m_newSteps g_c g_words hC_g_c) lk_RX12_204 ⟨rfl, rfl⟩ ⟨Nat.le_of_ble_eq_true rfl, Nat.le_of_ble_eq_true rfl⟩ 12 rfl rfl rfl [3, 0, 1] [2] rfl rfl (by decide) rfl hl.1 rfl (lv_room (Nat.le_of_ble_eq_true rfl)) dX12_readNew_67 ⟨Nat.le_of_ble_eq_true rfl, Nat.le_of_ble_eq_true rfl⟩ (fun r_38 u_39 H locs hw hP hD hS => ?_)
        obtain ⟨he_r_38, hw⟩ := hw
        rcases hw with ⟨rfl, -⟩ | ⟨rfl, -⟩
        · skip
          refine lv_if_eq (tgt := 82) hx hb dX12_readNew_70 (by decide) (fun _ => ?_) (fun h9 => absurd (by decide +kernel) h9)
          refine lv_aload_n hx hb dX12_readNew_82 rfl (lv_at hl 1 rfl) ?_
          refine va_get (D := G) (ci := 12) (v := .int m_bad) (C := RX12) (T := TX12) (N := 65) hx hb hts inT12 hown hK hP 1 rfl rfl 12 (by decide) (hts _ tw_1897) (fun _ h9 => h9) rfl dX12_readNew_83 ?_
          refine lv_if_le (tgt := 91) hx hb dX12_readNew_86 (by decide) (fun c_41 => ?_) (fun h9 => (z_no (by have h8 := z_fgtF h9; omega)))
          have b_42 := z_fleT c_41
          refine lv_aload_n hx hb dX12_readNew_91 rfl (lv_at hl 1 rfl) ?_
          refine va_get (D := G) (ci := 12) (v := .ref a_words) (C := RX12) (T := TX12) (N := 65) hx hb hts inT12 hown hK hP 1 rfl rfl 21 (by decide) (hts _ tw_1906) (fun _ h9 => h9) rfl dX12_readNew_92 ?_
          refine lv_bipush (v := 84) hx hb dX12_readNew_95 (by decide) ?_
          refine lv_iload_n hx hb dX12_readNew_97 rfl (lv_at hl 4 rfl) ?_
          refine lv_iadd hx hb dX12_readNew_98 ?_
          refine z_topi (y := 100) (by decide +kernel) ?_
          refine lv_iload hx hb dX12_readNew_99 (lv_at hl 0 rfl) ?_
          refine lv_iadd hx hb dX12_readNew_101 ?_
          refine lv_topi (fun x_43 he_x_43 => ?_)
          have hq_x_43 := z_addq he_x_43 hk_100 (rfl : x_1.toInt = _) (by omega) (by omega)
          refine lv_aload_n hx hb dX12_readNew_102 rfl (lv_at hl 1 rfl) ?_
          refine va_get (D := G) (ci := 12) (v := .long n_17) (C := RX12) (T := TX12) (N := 65) hx hb hts inT12 hown hK hP 1 rfl rfl 19 (by decide) (hts _ tw_1904) (fun _ h9 => h9) rfl dX12_readNew_103 ?_
          refine z_last hx hb hK hP hD hS 3 1 rfl rfl (z_inN (by omega) (by omega)) dX12_readNew_106 (fun g_44 hg_g_44 H locs hP hD hS => ?_)
          refine lv_aload_n hx hb dX12_readNew_107 rfl (lv_at hl 1 rfl) ?_
          refine z_callVv (As := []) (rest := []) (wr := [(a_c, .inl (cA.1 0, 1825, .inl g_c)), (a_words, .inl (cA.1 1, 105, .inr (.inl g_44)))]) ⟨hx, hb, hml, hown, hts⟩ hK hE hT hP hD hS hA (r_next2 l G cA h0 m_status m_thrown m_above m_under a_traySort a_trayMany a_numbers a_tape m_taped m_textEnd m_faultKind m_faultAt m_bad m_badAt n_12 n_13 n_14 n_15 n_16 n_17 a_c a_words m_markMany a_there a_tried a_best a_found m_thereMany m_foundMany m_orderHow m_orderRing m_orderMany m_hasBest m_bestTop m_bestBy a_weights a_shared m_random m_truePlace m_trueWay m_seconds m_done m_feelings m_tries m_leftOver m_playDoor m_playRing m_isOpen m_isOver m_wasTried m_hasPlayed a_feltNow a_last a_kept m_hasSeconds m_hasTurned m_hasRound a_hasFeels a_isOn m_firstAct m_meanTop m_meanBy a_order m_rowMany m_newSteps g_tape hr_m_textEnd hr_n_13 hr_n_14 hr_n_12 hr_n_15 hr_n_16) lk_RX12_184 ⟨rfl, rfl⟩ ⟨Nat.le_of_ble_eq_true rfl, Nat.le_of_ble_eq_true rfl⟩ 12 rfl rfl rfl [1, 0] [2, 3] rfl rfl (by decide) rfl hl.1 rfl (lv_room (Nat.le_of_ble_eq_true rfl)) dX12_readNew_108 ⟨Nat.le_of_ble_eq_true rfl, Nat.le_of_ble_eq_true rfl⟩ (fun u_52 H locs hw hP hD hS => ?_)
          obtain ⟨n_45, n_46, n_47, n_48, n_49, n_50⟩ := u_52
          try dsimp only at hw
          obtain ⟨he_n_45, he_n_46, he_n_47, he_n_48, he_n_49, he_n_50, hw⟩ := hw
          obtain ⟨hr_n_45, hr_n_46, hr_n_47, hr_n_48, hr_n_49, hf_54, hf_55⟩ := hw
          refine lv_iload hx hb dX12_readNew_111 (lv_at hl 0 rfl) ?_
          have hpost : (0 ≤ x_1.toInt ∧ x_1.toInt ≤ 4) ∧ (0 ≤ m_bad.toInt ∧ m_bad.toInt ≤ 9) ∧ (0 ≤ n_45.toInt ∧ n_45.toInt ≤ 4) ∧ (0 ≤ n_46.toInt ∧ n_46.toInt ≤ 900) ∧ (0 ≤ n_47.toInt ∧ n_47.toInt ≤ 900) ∧ (0 ≤ n_48.toInt ∧ n_48.toInt ≤ 9999) ∧ (0 ≤ n_49.toInt ∧ n_49.toInt ≤ 900) ∧ (m_behind.toInt ≤ n_47.toInt) ∧ (0 < m_bad.toInt → 0 < m_bad.toInt) ∧ (m_bad.toInt ≤ 0 → n_45.toInt = 0 ∨ m_behind.toInt < n_47.toInt) ∧ (m_bad.toInt ≤ 0 → x_1.toInt = (g_c 1463).toInt) ∧ (x_1.toInt < 5) := ⟨(by omega), hr_m_bad, hr_n_45, hr_n_46, hr_n_47, hr_n_48, hr_n_49, (by omega), (by omega), (by omega), (by omega), (by omega)⟩
          have hX_56 : F_r_readNew_3 m_textEnd m_bad m_badAt m_token m_at m_behind m_number m_letters m_word g_tape g_c g_words = ((x_1, m_bad, m_badAt, n_45, n_46, n_47, n_48, n_49, n_50, g_44) : Int32 × Int32 × Int32 × Int32 × Int32 × Int32 × Int32 × Int32 × Int64 × (Nat → Int64)) := by
            refine (F_r_readNew_3_s ..).trans ?_
            try (extract_lets -merge -useContext +onlyGivenNames y9; have e9 : x_1 = y9 := (by first | exact he_x_1 | exact he_x_1.symm); clear_value y9; subst e9)
            refine (if_pos c_2).trans ?_
            refine (if_neg c_8).trans ?_
            extract_lets -merge -useContext +onlyGivenNames w9 y3_0 y3_1 y3_2 y3_3 y3_4 y3_5; have e9 : (n_12, n_13, n_14, n_15, n_16, n_17) = w9 := ((z_tS he_n_12 (z_tS he_n_13 (z_tS he_n_14 (z_tS he_n_15 (z_tS he_n_16 he_n_17.symm)))))).symm; clear_value w9; subst e9
            extract_lets -merge -useContext +onlyGivenNames w9 y9; have e9 : (1 : Int32) = w9 := he_r_23; clear_value w9; subst e9
            refine (if_neg (show ¬ (1 : Int32) = 0 by decide)).trans ?_
            extract_lets -merge -useContext +onlyGivenNames w9 y9; have e9 : (0 : Int32) = w9 := he_r_38; clear_value w9; subst e9
            refine (if_pos rfl).trans ?_
            try (extract_lets -merge -useContext +onlyGivenNames y9; have e9 : x_43 = y9 := (by first | exact he_x_43 | exact he_x_43.symm); clear_value y9; subst e9)
            try (extract_lets -merge -useContext +onlyGivenNames y9; have e9 : g_44 = y9 := (by first | exact hg_g_44 | exact hg_g_44.symm); clear_value y9; subst e9)
            extract_lets -merge -useContext +onlyGivenNames w9 y10_0 y10_1 y10_2 y10_3 y10_4 y10_5; have e9 : (n_45, n_46, n_47, n_48, n_49, n_50) = w9 := ((z_tS he_n_45 (z_tS he_n_46 (z_tS he_n_47 (z_tS he_n_48 (z_tS he_n_49 he_n_50.symm)))))).symm; clear_value w9; subst e9
            exact rfl
          exact hret _ _ _ _ _ _ (m_bad, m_badAt, n_45, n_46, n_47, n_48, n_49, n_50, g_44) [2, 3, 0, 1] hP hD hS rfl (by decide) dX12_readNew_113 ⟨(congrArg (fun z9 => z9.1) hX_56).symm, (congrArg (fun z9 => z9.2.1) hX_56).symm, (congrArg (fun z9 => z9.2.2.1) hX_56).symm, (congrArg (fun z9 => z9.2.2.2.1) hX_56).symm, (congrArg (fun z9 => z9.2.2.2.2.1) hX_56).symm, (congrArg (fun z9 => z9.2.2.2.2.2.1) hX_56).symm, (congrArg (fun z9 => z9.2.2.2.2.2.2.1) hX_56).symm, (congrArg (fun z9 => z9.2.2.2.2.2.2.2.1) hX_56).symm, (congrArg (fun z9 => z9.2.2.2.2.2.2.2.2.1) hX_56).symm, (congrArg (fun z9 => z9.2.2.2.2.2.2.2.2.2) hX_56).symm, hpost⟩
        · skip
          refine lv_if_eq (tgt := 82) hx hb dX12_readNew_70 (by decide) (fun h9 => absurd h9 (by decide +kernel)) (fun _ => ?_)
          refine lv_aload_n hx hb dX12_readNew_73 rfl (lv_at hl 1 rfl) ?_
          refine lv_iconst (v := 3) hx hb dX12_readNew_74 (by decide) ?_
          refine lv_aload_n hx hb dX12_readNew_75 rfl (lv_at hl 1 rfl) ?_
          refine va_get (D := G) (ci := 12) (v := .int n_13) (C := RX12) (T := TX12) (N := 65) hx hb hts inT12 hown hK hP 1 rfl rfl 15 (by decide) (hts _ tw_1900) (fun _ h9 => h9) rfl dX12_readNew_76 ?_
          refine z_callVv (As := [.int 3, .int n_13]) (rest := []) (wr := [(a_tape, .inl (cA.1 2, 900, .inl g_tape)), (a_c, .inl (cA.1 0, 1825, .inl g_c)), (a_words, .inl (cA.1 1, 105, .inr (.inl g_words)))]) ⟨hx, hb, hml, hown, hts⟩ hK hE hT hP hD hS hA (r_fail l G cA h0 m_status m_thrown m_above m_under a_traySort a_trayMany a_numbers a_tape m_taped m_textEnd m_faultKind m_faultAt m_bad m_badAt n_12 n_13 n_14 n_15 n_16 n_17 a_c a_words m_markMany a_there a_tried a_best a_found m_thereMany m_foundMany m_orderHow m_orderRing m_orderMany m_hasBest m_bestTop m_bestBy a_weights a_shared m_random m_truePlace m_trueWay m_seconds m_done m_feelings m_tries m_leftOver m_playDoor m_playRing m_isOpen m_isOver m_wasTried m_hasPlayed a_feltNow a_last a_kept m_hasSeconds m_hasTurned m_hasRound a_hasFeels a_isOn m_firstAct m_meanTop m_meanBy a_order m_rowMany m_newSteps 3 n_13 (by decide +kernel) hr_m_bad) lk_RX12_180 ⟨rfl, rfl⟩ ⟨Nat.le_of_ble_eq_true rfl, Nat.le_of_ble_eq_true rfl⟩ 12 rfl rfl rfl [1] [0, 2, 3] rfl rfl (by decide) rfl hl.1 rfl (lv_room (Nat.le_of_ble_eq_true rfl)) dX12_readNew_79 ⟨Nat.le_of_ble_eq_true rfl, Nat.le_of_ble_eq_true rfl⟩ (fun u_60 H locs hw hP hD hS => ?_)
          obtain ⟨n_57, n_58⟩ := u_60
          try dsimp only at hw
          obtain ⟨he_n_57, he_n_58, hw⟩ := hw
          obtain ⟨hr_n_57, hf_62⟩ := hw
          refine lv_aload_n hx hb dX12_readNew_82 rfl (lv_at hl 1 rfl) ?_
          refine va_get (D := G) (ci := 12) (v := .int n_57) (C := RX12) (T := TX12) (N := 65) hx hb hts inT12 hown hK hP 3 rfl rfl 12 (by decide) (hts _ tw_1897) (fun _ h9 => h9) rfl dX12_readNew_83 ?_
          refine lv_if_le (tgt := 91) hx hb dX12_readNew_86 (by decide) (fun h9 => (z_no (by have h8 := z_fleT h9; omega))) (fun c_63 => ?_)
          have b_64 := z_fgtF c_63
          refine lv_iconst (v := 0) hx hb dX12_readNew_89 (by decide) ?_
          have hpost : (0 ≤ (0 : Int32).toInt ∧ (0 : Int32).toInt ≤ 4) ∧ (0 ≤ n_57.toInt ∧ n_57.toInt ≤ 9) ∧ (0 ≤ n_12.toInt ∧ n_12.toInt ≤ 4) ∧ (0 ≤ n_13.toInt ∧ n_13.toInt ≤ 900) ∧ (0 ≤ n_14.toInt ∧ n_14.toInt ≤ 900) ∧ (0 ≤ n_15.toInt ∧ n_15.toInt ≤ 9999) ∧ (0 ≤ n_16.toInt ∧ n_16.toInt ≤ 900) ∧ (m_behind.toInt ≤ n_14.toInt) ∧ (0 < m_bad.toInt → 0 < n_57.toInt) ∧ (n_57.toInt ≤ 0 → n_12.toInt = 0 ∨ m_behind.toInt < n_14.toInt) ∧ (n_57.toInt ≤ 0 → (0 : Int32).toInt = (g_c 1463).toInt) ∧ ((0 : Int32).toInt < 5) := ⟨(by decide +kernel), (z_rgw hr_n_57 (by decide) (by decide)), hr_n_12, hr_n_13, hr_n_14, hr_n_15, hr_n_16, (by omega), (by omega), (by omega), (by omega), (by omega)⟩
          have hX_65 : F_r_readNew_3 m_textEnd m_bad m_badAt m_token m_at m_behind m_number m_letters m_word g_tape g_c g_words = (((0 : Int32), n_57, n_58, n_12, n_13, n_14, n_15, n_16, n_17, g_words) : Int32 × Int32 × Int32 × Int32 × Int32 × Int32 × Int32 × Int32 × Int64 × (Nat → Int64)) := by
            refine (F_r_readNew_3_s ..).trans ?_
            try (extract_lets -merge -useContext +onlyGivenNames y9; have e9 : x_1 = y9 := (by first | exact he_x_1 | exact he_x_1.symm); clear_value y9; subst e9)
            refine (if_pos c_2).trans ?_
            refine (if_neg c_8).trans ?_
            extract_lets -merge -useContext +onlyGivenNames w9 y3_0 y3_1 y3_2 y3_3 y3_4 y3_5; have e9 : (n_12, n_13, n_14, n_15, n_16, n_17) = w9 := ((z_tS he_n_12 (z_tS he_n_13 (z_tS he_n_14 (z_tS he_n_15 (z_tS he_n_16 he_n_17.symm)))))).symm; clear_value w9; subst e9
            extract_lets -merge -useContext +onlyGivenNames w9 y9; have e9 : (1 : Int32) = w9 := he_r_23; clear_value w9; subst e9
            refine (if_neg (show ¬ (1 : Int32) = 0 by decide)).trans ?_
            extract_lets -merge -useContext +onlyGivenNames w9 y9; have e9 : (1 : Int32) = w9 := he_r_38; clear_value w9; subst e9
            refine (if_neg (show ¬ (1 : Int32) = 0 by decide)).trans ?_
            extract_lets -merge -useContext +onlyGivenNames w9 y8_0 y8_1; have e9 : (n_57, n_58) = w9 := ((z_tS he_n_57 he_n_58.symm)).symm; clear_value w9; subst e9
            exact rfl
          exact hret _ _ _ _ _ _ (n_57, n_58, n_12, n_13, n_14, n_15, n_16, n_17, g_words) [3, 0, 1, 2] hP hD hS rfl (by decide) dX12_readNew_90 ⟨(congrArg (fun z9 => z9.1) hX_65).symm, (congrArg (fun z9 => z9.2.1) hX_65).symm, (congrArg (fun z9 => z9.2.2.1) hX_65).symm, (congrArg (fun z9 => z9.2.2.2.1) hX_65).symm, (congrArg (fun z9 => z9.2.2.2.2.1) hX_65).symm, (congrArg (fun z9 => z9.2.2.2.2.2.1) hX_65).symm, (congrArg (fun z9 => z9.2.2.2.2.2.2.1) hX_65).symm, (congrArg (fun z9 => z9.2.2.2.2.2.2.2.1) hX_65).symm, (congrArg (fun z9 => z9.2.2.2.2.2.2.2.2.1) hX_65).symm, (congrArg (fun z9 => z9.2.2.2.2.2.2.2.2.2) hX_65).symm, hpost⟩
    · have b_66 := z_feqF c_8
      refine lv_aload_n hx hb dX12_readNew_25 rfl (lv_at hl 1 rfl) ?_
      refine lv_bipush (v := 6) hx hb dX12_readNew_26 (by decide) ?_
      refine lv_aload_n hx hb dX12_readNew_28 rfl (lv_at hl 1 rfl) ?_
      refine va_get (D := G) (ci := 12) (v := .int m_at) (C := RX12) (T := TX12) (N := 65) hx hb hts inT12 hown hK hP 0 rfl rfl 15 (by decide) (hts _ tw_1900) (fun _ h9 => h9) rfl dX12_readNew_29 ?_
      refine z_callVv (As := [.int 6, .int m_at]) (rest := []) (wr := [(a_tape, .inl (cA.1 2, 900, .inl g_tape)), (a_c, .inl (cA.1 0, 1825, .inl g_c)), (a_words, .inl (cA.1 1, 105, .inr (.inl g_words)))]) ⟨hx, hb, hml, hown, hts⟩ hK hE hT hP hD hS hA (r_fail l G cA h0 m_status m_thrown m_above m_under a_traySort a_trayMany a_numbers a_tape m_taped m_textEnd m_faultKind m_faultAt m_bad m_badAt m_token m_at m_behind m_number m_letters m_word a_c a_words m_markMany a_there a_tried a_best a_found m_thereMany m_foundMany m_orderHow m_orderRing m_orderMany m_hasBest m_bestTop m_bestBy a_weights a_shared m_random m_truePlace m_trueWay m_seconds m_done m_feelings m_tries m_leftOver m_playDoor m_playRing m_isOpen m_isOver m_wasTried m_hasPlayed a_feltNow a_last a_kept m_hasSeconds m_hasTurned m_hasRound a_hasFeels a_isOn m_firstAct m_meanTop m_meanBy a_order m_rowMany m_newSteps 6 m_at (by decide +kernel) hr_m_bad) lk_RX12_180 ⟨rfl, rfl⟩ ⟨Nat.le_of_ble_eq_true rfl, Nat.le_of_ble_eq_true rfl⟩ 12 rfl rfl rfl [0] [1, 2, 3] rfl rfl (by decide) rfl hl.1 rfl (lv_room (Nat.le_of_ble_eq_true rfl)) dX12_readNew_32 ⟨Nat.le_of_ble_eq_true rfl, Nat.le_of_ble_eq_true rfl⟩ (fun u_70 H locs hw hP hD hS => ?_)
      obtain ⟨n_67, n_68⟩ := u_70
      try dsimp only at hw
      obtain ⟨he_n_67, he_n_68, hw⟩ := hw
      obtain ⟨hr_n_67, hf_72⟩ := hw
      refine lv_aload_n hx hb dX12_readNew_35 rfl (lv_at hl 1 rfl) ?_
      refine va_get (D := G) (ci := 12) (v := .int n_67) (C := RX12) (T := TX12) (N := 65) hx hb hts inT12 hown hK hP 3 rfl rfl 12 (by decide) (hts _ tw_1897) (fun _ h9 => h9) rfl dX12_readNew_36 ?_
      refine lv_if_le (tgt := 44) hx hb dX12_readNew_39 (by decide) (fun h9 => (z_no (by have h8 := z_fleT h9; omega))) (fun c_73 => ?_)
      have b_74 := z_fgtF c_73
      refine lv_iconst (v := 0) hx hb dX12_readNew_42 (by decide) ?_
      have hpost : (0 ≤ (0 : Int32).toInt ∧ (0 : Int32).toInt ≤ 4) ∧ (0 ≤ n_67.toInt ∧ n_67.toInt ≤ 9) ∧ (0 ≤ m_token.toInt ∧ m_token.toInt ≤ 4) ∧ (0 ≤ m_at.toInt ∧ m_at.toInt ≤ 900) ∧ (0 ≤ m_behind.toInt ∧ m_behind.toInt ≤ 900) ∧ (0 ≤ m_number.toInt ∧ m_number.toInt ≤ 9999) ∧ (0 ≤ m_letters.toInt ∧ m_letters.toInt ≤ 900) ∧ (m_behind.toInt ≤ m_behind.toInt) ∧ (0 < m_bad.toInt → 0 < n_67.toInt) ∧ (n_67.toInt ≤ 0 → m_token.toInt = 0 ∨ m_behind.toInt < m_behind.toInt) ∧ (n_67.toInt ≤ 0 → (0 : Int32).toInt = (g_c 1463).toInt) ∧ ((0 : Int32).toInt < 5) := ⟨(by decide +kernel), (z_rgw hr_n_67 (by decide) (by decide)), hr_m_token, hr_m_at, hr_m_behind, hr_m_number, hr_m_letters, (by omega), (by omega), (by omega), (by omega), (by omega)⟩
      have hX_75 : F_r_readNew_3 m_textEnd m_bad m_badAt m_token m_at m_behind m_number m_letters m_word g_tape g_c g_words = (((0 : Int32), n_67, n_68, m_token, m_at, m_behind, m_number, m_letters, m_word, g_words) : Int32 × Int32 × Int32 × Int32 × Int32 × Int32 × Int32 × Int32 × Int64 × (Nat → Int64)) := by
        refine (F_r_readNew_3_s ..).trans ?_
        try (extract_lets -merge -useContext +onlyGivenNames y9; have e9 : x_1 = y9 := (by first | exact he_x_1 | exact he_x_1.symm); clear_value y9; subst e9)
        refine (if_pos c_2).trans ?_
        refine (if_pos c_8).trans ?_
        extract_lets -merge -useContext +onlyGivenNames w9 y3_0 y3_1; have e9 : (n_67, n_68) = w9 := ((z_tS he_n_67 he_n_68.symm)).symm; clear_value w9; subst e9
        exact rfl
      exact hret _ _ _ _ _ _ (n_67, n_68, m_token, m_at, m_behind, m_number, m_letters, m_word, g_words) [3, 0, 1, 2] hP hD hS rfl (by decide) dX12_readNew_43 ⟨(congrArg (fun z9 => z9.1) hX_75).symm, (congrArg (fun z9 => z9.2.1) hX_75).symm, (congrArg (fun z9 => z9.2.2.1) hX_75).symm, (congrArg (fun z9 => z9.2.2.2.1) hX_75).symm, (congrArg (fun z9 => z9.2.2.2.2.1) hX_75).symm, (congrArg (fun z9 => z9.2.2.2.2.2.1) hX_75).symm, (congrArg (fun z9 => z9.2.2.2.2.2.2.1) hX_75).symm, (congrArg (fun z9 => z9.2.2.2.2.2.2.2.1) hX_75).symm, (congrArg (fun z9 => z9.2.2.2.2.2.2.2.2.1) hX_75).symm, (congrArg (fun z9 => z9.2.2.2.2.2.2.2.2.2) hX_75).symm, hpost⟩
set_option maxHeartbeats 40000000 in
set_option maxRecDepth 100000 in
theorem r_readOld_3 (l : Launch) (G : va_G) (cA : zCA) (h0 : Nat) (m_status : Int32) (m_thrown : Int32) (m_above : Int64) (m_under : Int64) (a_traySort : Nat) (a_trayMany : Nat) (a_numbers : Nat) (a_tape : Nat) (m_taped : Int32) (m_textEnd : Int32) (m_faultKind : Int32) (m_faultAt : Int32) (m_bad : Int32) (m_badAt : Int32) (m_token : Int32) (m_at : Int32) (m_behind : Int32) (m_number : Int32) (m_letters : Int32) (m_word : Int64) (a_c : Nat) (a_words : Nat) (m_markMany : Int32) (a_there : Nat) (a_tried : Nat) (a_best : Nat) (a_found : Nat) (m_thereMany : Int32) (m_foundMany : Int32) (m_orderHow : Int32) (m_orderRing : Int32) (m_orderMany : Int32) (m_hasBest : Int32) (m_bestTop : Int64) (m_bestBy : Int64) (a_weights : Nat) (a_shared : Nat) (m_random : Int32) (m_truePlace : Int32) (m_trueWay : Int32) (m_seconds : Int32) (m_done : Int32) (m_feelings : Int32) (m_tries : Int32) (m_leftOver : Int32) (m_playDoor : Int32) (m_playRing : Int32) (m_isOpen : Int32) (m_isOver : Int32) (m_wasTried : Int32) (m_hasPlayed : Int32) (a_feltNow : Nat) (a_last : Nat) (a_kept : Nat) (m_hasSeconds : Int32) (m_hasTurned : Int32) (m_hasRound : Int32) (a_hasFeels : Nat) (a_isOn : Nat) (m_firstAct : Int32) (m_meanTop : Int64) (m_meanBy : Int64) (a_order : Nat) (m_rowMany : Int32) (m_newSteps : Int32) (g_c : Nat → Int32) (g_words : Nat → Int64) (hr_m_at : 0 ≤ m_at.toInt ∧ m_at.toInt ≤ 900) (hr_m_bad : 0 ≤ m_bad.toInt ∧ m_bad.toInt ≤ 9) (hr_m_token : 0 ≤ m_token.toInt ∧ m_token.toInt ≤ 4) (hr_m_letters : 0 ≤ m_letters.toInt ∧ m_letters.toInt ≤ 900) (hC_g_c : zC g_c) : zCi l yX12_readOld cX12_readOld 4 (some .int) ({ frames := 3, cells := 0, slots := 0, locals := 67 }) G cA [.ref h0, .int 3, .int 16] [(h0, .inr (12, [.int m_status, .int m_thrown, .long m_above, .long m_under, .ref a_traySort, .ref a_trayMany, .ref a_numbers, .ref a_tape, .int m_taped, .int m_textEnd, .int m_faultKind, .int m_faultAt, .int m_bad, .int m_badAt, .int m_token, .int m_at, .int m_behind, .int m_number, .int m_letters, .long m_word, .ref a_c, .ref a_words, .int m_markMany, .ref a_there, .ref a_tried, .ref a_best, .ref a_found, .int m_thereMany, .int m_foundMany, .int m_orderHow, .int m_orderRing, .int m_orderMany, .int m_hasBest, .long m_bestTop, .long m_bestBy, .ref a_weights, .ref a_shared, .int m_random, .int m_truePlace, .int m_trueWay, .int m_seconds, .int m_done, .int m_feelings, .int m_tries, .int m_leftOver, .int m_playDoor, .int m_playRing, .int m_isOpen, .int m_isOver, .int m_wasTried, .int m_hasPlayed, .ref a_feltNow, .ref a_last, .ref a_kept, .int m_hasSeconds, .int m_hasTurned, .int m_hasRound, .ref a_hasFeels, .ref a_isOn, .int m_firstAct, .long m_meanTop, .long m_meanBy, .ref a_order, .int m_rowMany, .int m_newSteps])), (a_c, .inl (cA.1 0, 1825, .inl g_c)), (a_words, .inl (cA.1 1, 105, .inr (.inl g_words)))] (S := Int32 × Int32) (fun (r : Int32) (u : Int32 × Int32) => (r = (F_r_readOld_3 m_bad m_badAt m_token m_at m_letters m_word g_c g_words).1) ∧ (u.1 = (F_r_readOld_3 m_bad m_badAt m_token m_at m_letters m_word g_c g_words).2.1) ∧ (u.2 = (F_r_readOld_3 m_bad m_badAt m_token m_at m_letters m_word g_c g_words).2.2) ∧ (((-1) ≤ r.toInt ∧ r.toInt ≤ 4) ∧ (0 ≤ u.1.toInt ∧ u.1.toInt ≤ 9) ∧ (m_behind.toInt ≤ m_behind.toInt) ∧ (0 < m_bad.toInt → 0 < u.1.toInt) ∧ (u.1.toInt ≤ 0 → 0 ≤ r.toInt ∧ r.toInt < (g_c 1463).toInt))) (fun (u : Int32 × Int32) => [(h0, .inr (12, [.int m_status, .int m_thrown, .long m_above, .long m_under, .ref a_traySort, .ref a_trayMany, .ref a_numbers, .ref a_tape, .int m_taped, .int m_textEnd, .int m_faultKind, .int m_faultAt, .int u.1, .int u.2, .int m_token, .int m_at, .int m_behind, .int m_number, .int m_letters, .long m_word, .ref a_c, .ref a_words, .int m_markMany, .ref a_there, .ref a_tried, .ref a_best, .ref a_found, .int m_thereMany, .int m_foundMany, .int m_orderHow, .int m_orderRing, .int m_orderMany, .int m_hasBest, .long m_bestTop, .long m_bestBy, .ref a_weights, .ref a_shared, .int m_random, .int m_truePlace, .int m_trueWay, .int m_seconds, .int m_done, .int m_feelings, .int m_tries, .int m_leftOver, .int m_playDoor, .int m_playRing, .int m_isOpen, .int m_isOver, .int m_wasTried, .int m_hasPlayed, .ref a_feltNow, .ref a_last, .ref a_kept, .int m_hasSeconds, .int m_hasTurned, .int m_hasRound, .ref a_hasFeels, .ref a_isOn, .int m_firstAct, .long m_meanTop, .long m_meanBy, .ref a_order, .int m_rowMany, .int m_newSteps])), (a_c, .inl (cA.1 0, 1825, .inl g_c)), (a_words, .inl (cA.1 1, 105, .inr (.inl g_words)))]) 0 0 := by
  have hk_0 : (0 : Int32).toInt = 0 := by decide +kernel
  have hk_3 : (3 : Int32).toInt = 3 := by decide +kernel
  have hk_4 : (4 : Int32).toInt = 4 := by decide +kernel
  have hk_16 : (16 : Int32).toInt = 16 := by decide +kernel
  refine z_start2i (own := RX12) (by decide) (Nat.le_of_ble_eq_true rfl) rfl ?_
  intro p e s m args below meth c A ls Q hx hb hml hts hown hK hE hT hP hD hS hA hl hret
  have hl : lv_has ls 4 [(0, .ref h0), (1, .int 3), (2, .int 16)] := hl
  refine lv_aload_n hx hb dX12_readOld_0 rfl (lv_at hl 0 rfl) ?_
  refine va_get (D := G) (ci := 12) (v := .int m_bad) (C := RX12) (T := TX12) (N := 65) hx hb hts inT12 hown hK hP 0 rfl rfl 12 (by decide) (hts _ tw_1897) (fun _ h9 => h9) rfl dX12_readOld_1 ?_
  refine lv_if_ne (tgt := 18) hx hb dX12_readOld_4 (by decide) (fun c_1 => ?_) (fun c_1 => ?_)
  · have b_2 := z_fneT c_1
    refine lv_aload_n hx hb dX12_readOld_18 rfl (lv_at hl 0 rfl) ?_
    refine va_get (D := G) (ci := 12) (v := .int m_bad) (C := RX12) (T := TX12) (N := 65) hx hb hts inT12 hown hK hP 0 rfl rfl 12 (by decide) (hts _ tw_1897) (fun _ h9 => h9) rfl dX12_readOld_19 ?_
    refine lv_if_ne (tgt := 44) hx hb dX12_readOld_22 (by decide) (fun c_3 => ?_) (fun h9 => (z_no (by have h8 := z_feqF h9; omega)))
    have b_4 := z_fneT c_3
    refine lv_iconst (v := 0) hx hb dX12_readOld_44 (by decide) ?_
    refine lv_istore_n (lv' := [(3, .int 0), (0, .ref h0), (1, .int 3), (2, .int 16)]) hx hb dX12_readOld_45 rfl hl (by decide) rfl (fun ls hl => ?_)
    refine lv_aload_n hx hb dX12_readOld_46 rfl (lv_at hl 1 rfl) ?_
    refine va_get (D := G) (ci := 12) (v := .int m_bad) (C := RX12) (T := TX12) (N := 65) hx hb hts inT12 hown hK hP 0 rfl rfl 12 (by decide) (hts _ tw_1897) (fun _ h9 => h9) rfl dX12_readOld_47 ?_
    refine lv_if_ne (tgt := 66) hx hb dX12_readOld_50 (by decide) (fun c_5 => ?_) (fun h9 => (z_no (by have h8 := z_feqF h9; omega)))
    have b_6 := z_fneT c_5
    refine lv_iload_n hx hb dX12_readOld_66 rfl (lv_at hl 0 rfl) ?_
    have hpost : ((-1) ≤ (0 : Int32).toInt ∧ (0 : Int32).toInt ≤ 4) ∧ (0 ≤ m_bad.toInt ∧ m_bad.toInt ≤ 9) ∧ (m_behind.toInt ≤ m_behind.toInt) ∧ (0 < m_bad.toInt → 0 < m_bad.toInt) ∧ (m_bad.toInt ≤ 0 → 0 ≤ (0 : Int32).toInt ∧ (0 : Int32).toInt < (g_c 1463).toInt) := ⟨(by decide +kernel), hr_m_bad, (by omega), (by omega), (by omega)⟩
    have hX_7 : F_r_readOld_3 m_bad m_badAt m_token m_at m_letters m_word g_c g_words = (((0 : Int32), m_bad, m_badAt) : Int32 × Int32 × Int32) := by
      refine (F_r_readOld_3_s ..).trans ?_
      refine (if_neg c_1).trans ?_
      exact rfl
    exact hret _ _ _ _ _ _ (m_bad, m_badAt) [0, 1, 2] hP hD hS rfl (by decide) dX12_readOld_67 ⟨(congrArg (fun z9 => z9.1) hX_7).symm, (congrArg (fun z9 => z9.2.1) hX_7).symm, (congrArg (fun z9 => z9.2.2) hX_7).symm, hpost⟩
  · have b_8 := z_feqF c_1
    refine lv_aload_n hx hb dX12_readOld_7 rfl (lv_at hl 0 rfl) ?_
    refine z_callVi (As := []) (rest := []) (wr := [(a_c, .inl (cA.1 0, 1825, .inl g_c)), (a_words, .inl (cA.1 1, 105, .inr (.inl g_words)))]) ⟨hx, hb, hml, hown, hts⟩ hK hE hT hP hD hS hA (r_isHouseName l G cA h0 m_status m_thrown m_above m_under a_traySort a_trayMany a_numbers a_tape m_taped m_textEnd m_faultKind m_faultAt m_bad m_badAt m_token m_at m_behind m_number m_letters m_word a_c a_words m_markMany a_there a_tried a_best a_found m_thereMany m_foundMany m_orderHow m_orderRing m_orderMany m_hasBest m_bestTop m_bestBy a_weights a_shared m_random m_truePlace m_trueWay m_seconds m_done m_feelings m_tries m_leftOver m_playDoor m_playRing m_isOpen m_isOver m_wasTried m_hasPlayed a_feltNow a_last a_kept m_hasSeconds m_hasTurned m_hasRound a_hasFeels a_isOn m_firstAct m_meanTop m_meanBy a_order m_rowMany m_newSteps hr_m_token hr_m_letters) lk_RX12_200 ⟨rfl, rfl⟩ ⟨Nat.le_of_ble_eq_true rfl, Nat.le_of_ble_eq_true rfl⟩ 12 rfl rfl rfl [0] [1, 2] rfl rfl (by decide) rfl hl.1 rfl (lv_room (Nat.le_of_ble_eq_true rfl)) dX12_readOld_8 ⟨Nat.le_of_ble_eq_true rfl, Nat.le_of_ble_eq_true rfl⟩ (fun r_9 u_10 H locs hw hP hD hS => ?_)
    obtain ⟨he_r_9, hw⟩ := hw
    rcases hw with ⟨rfl, -⟩ | ⟨rfl, -⟩
    · skip
      refine lv_if_ne (tgt := 18) hx hb dX12_readOld_11 (by decide) (fun h9 => absurd (by decide +kernel) h9) (fun _ => ?_)
      refine lv_aload_n hx hb dX12_readOld_14 rfl (lv_at hl 0 rfl) ?_
      refine z_callVv (As := []) (rest := []) (wr := [(a_c, .inl (cA.1 0, 1825, .inl g_c)), (a_words, .inl (cA.1 1, 105, .inr (.inl g_words)))]) ⟨hx, hb, hml, hown, hts⟩ hK hE hT hP hD hS hA (r_wrong l G cA h0 m_status m_thrown m_above m_under a_traySort a_trayMany a_numbers a_tape m_taped m_textEnd m_faultKind m_faultAt m_bad m_badAt m_token m_at m_behind m_number m_letters m_word a_c a_words m_markMany a_there a_tried a_best a_found m_thereMany m_foundMany m_orderHow m_orderRing m_orderMany m_hasBest m_bestTop m_bestBy a_weights a_shared m_random m_truePlace m_trueWay m_seconds m_done m_feelings m_tries m_leftOver m_playDoor m_playRing m_isOpen m_isOver m_wasTried m_hasPlayed a_feltNow a_last a_kept m_hasSeconds m_hasTurned m_hasRound a_hasFeels a_isOn m_firstAct m_meanTop m_meanBy a_order m_rowMany m_newSteps hr_m_at hr_m_bad hr_m_token) lk_RX12_187 ⟨rfl, rfl⟩ ⟨Nat.le_of_ble_eq_true rfl, Nat.le_of_ble_eq_true rfl⟩ 12 rfl rfl rfl [2] [0, 1] rfl rfl (by decide) rfl hl.1 rfl (lv_room (Nat.le_of_ble_eq_true rfl)) dX12_readOld_15 ⟨Nat.le_of_ble_eq_true rfl, Nat.le_of_ble_eq_true rfl⟩ (fun u_15 H locs hw hP hD hS => ?_)
      obtain ⟨n_12, n_13⟩ := u_15
      try dsimp only at hw
      obtain ⟨he_n_12, he_n_13, hw⟩ := hw
      have hr_n_12 := hw
      refine lv_aload_n hx hb dX12_readOld_18 rfl (lv_at hl 0 rfl) ?_
      refine va_get (D := G) (ci := 12) (v := .int n_12) (C := RX12) (T := TX12) (N := 65) hx hb hts inT12 hown hK hP 2 rfl rfl 12 (by decide) (hts _ tw_1897) (fun _ h9 => h9) rfl dX12_readOld_19 ?_
      refine lv_if_ne (tgt := 44) hx hb dX12_readOld_22 (by decide) (fun c_17 => ?_) (fun h9 => (z_no (by have h8 := z_feqF h9; omega)))
      have b_18 := z_fneT c_17
      refine lv_iconst (v := 0) hx hb dX12_readOld_44 (by decide) ?_
      refine lv_istore_n (lv' := [(3, .int 0), (0, .ref h0), (1, .int 3), (2, .int 16)]) hx hb dX12_readOld_45 rfl hl (by decide) rfl (fun ls hl => ?_)
      refine lv_aload_n hx hb dX12_readOld_46 rfl (lv_at hl 1 rfl) ?_
      refine va_get (D := G) (ci := 12) (v := .int n_12) (C := RX12) (T := TX12) (N := 65) hx hb hts inT12 hown hK hP 2 rfl rfl 12 (by decide) (hts _ tw_1897) (fun _ h9 => h9) rfl dX12_readOld_47 ?_
      refine lv_if_ne (tgt := 66) hx hb dX12_readOld_50 (by decide) (fun c_19 => ?_) (fun h9 => (z_no (by have h8 := z_feqF h9; omega)))
      have b_20 := z_fneT c_19
      refine lv_iload_n hx hb dX12_readOld_66 rfl (lv_at hl 0 rfl) ?_
      have hpost : ((-1) ≤ (0 : Int32).toInt ∧ (0 : Int32).toInt ≤ 4) ∧ (0 ≤ n_12.toInt ∧ n_12.toInt ≤ 9) ∧ (m_behind.toInt ≤ m_behind.toInt) ∧ (0 < m_bad.toInt → 0 < n_12.toInt) ∧ (n_12.toInt ≤ 0 → 0 ≤ (0 : Int32).toInt ∧ (0 : Int32).toInt < (g_c 1463).toInt) := ⟨(by decide +kernel), (z_rgw hr_n_12 (by decide) (by decide)), (by omega), (by omega), (by omega)⟩
      have hX_21 : F_r_readOld_3 m_bad m_badAt m_token m_at m_letters m_word g_c g_words = (((0 : Int32), n_12, n_13) : Int32 × Int32 × Int32) := by
        refine (F_r_readOld_3_s ..).trans ?_
        refine (if_pos c_1).trans ?_
        extract_lets -merge -useContext +onlyGivenNames w9 y9; have e9 : (0 : Int32) = w9 := he_r_9; clear_value w9; subst e9
        refine (if_pos rfl).trans ?_
        extract_lets -merge -useContext +onlyGivenNames w9 y3_0 y3_1; have e9 : (n_12, n_13) = w9 := ((z_tS he_n_12 he_n_13.symm)).symm; clear_value w9; subst e9
        exact rfl
      exact hret _ _ _ _ _ _ (n_12, n_13) [2, 0, 1] hP hD hS rfl (by decide) dX12_readOld_67 ⟨(congrArg (fun z9 => z9.1) hX_21).symm, (congrArg (fun z9 => z9.2.1) hX_21).symm, (congrArg (fun z9 => z9.2.2) hX_21).symm, hpost⟩
    · skip
      refine lv_if_ne (tgt := 18) hx hb dX12_readOld_11 (by decide) (fun _ => ?_) (fun h9 => absurd h9 (by decide +kernel))
      refine lv_aload_n hx hb dX12_readOld_18 rfl (lv_at hl 0 rfl) ?_
      refine va_get (D := G) (ci := 12) (v := .int m_bad) (C := RX12) (T := TX12) (N := 65) hx hb hts inT12 hown hK hP 2 rfl rfl 12 (by decide) (hts _ tw_1897) (fun _ h9 => h9) rfl dX12_readOld_19 ?_
      refine lv_if_ne (tgt := 44) hx hb dX12_readOld_22 (by decide) (fun h9 => (z_no (by have h8 := z_fneT h9; omega))) (fun c_22 => ?_)
      have b_23 := z_feqF c_22
      refine lv_aload_n hx hb dX12_readOld_25 rfl (lv_at hl 0 rfl) ?_
      refine lv_iconst (v := 4) hx hb dX12_readOld_26 (by decide) ?_
      refine lv_iload_n hx hb dX12_readOld_27 rfl (lv_at hl 2 rfl) ?_
      refine lv_aload_n hx hb dX12_readOld_28 rfl (lv_at hl 0 rfl) ?_
      refine va_get (D := G) (ci := 12) (v := .ref a_c) (C := RX12) (T := TX12) (N := 65) hx hb hts inT12 hown hK hP 2 rfl rfl 20 (by decide) (hts _ tw_1905) (fun _ h9 => h9) rfl dX12_readOld_29 ?_
      refine lv_sipush (v := 1460) hx hb dX12_readOld_32 (by decide) ?_
      refine lv_iload_n hx hb dX12_readOld_35 rfl (lv_at hl 1 rfl) ?_
      refine lv_iadd hx hb dX12_readOld_36 ?_
      refine z_topi (y := 1463) (by decide +kernel) ?_
      refine va_iald hx hb hK hP 0 0 rfl rfl (z_in (i := 1463) (n := 1825) (by decide +kernel) (by decide +kernel)) dX12_readOld_37 ?_
      refine lv_topi (fun x_24 he_x_24 => ?_)
      have hr_x_24 := z_ctk hC_g_c he_x_24 (k := 1463) (lo := 0) (hi := 5) (by decide +kernel) (by decide +kernel) (by decide +kernel)
      have hv_x_24 := z_cv he_x_24 (k := 1463) (by decide +kernel)
      refine z_callVi (As := [.int 4, .int 16, .int x_24]) (rest := []) (wr := [(a_c, .inl (cA.1 0, 1825, .inl g_c))]) ⟨hx, hb, hml, hown, hts⟩ hK hE hT hP hD hS hA (r_named_4_16 l G cA h0 m_status m_thrown m_above m_under a_traySort a_trayMany a_numbers a_tape m_taped m_textEnd m_faultKind m_faultAt m_bad m_badAt m_token m_at m_behind m_number m_letters m_word a_c a_words m_markMany a_there a_tried a_best a_found m_thereMany m_foundMany m_orderHow m_orderRing m_orderMany m_hasBest m_bestTop m_bestBy a_weights a_shared m_random m_truePlace m_trueWay m_seconds m_done m_feelings m_tries m_leftOver m_playDoor m_playRing m_isOpen m_isOver m_wasTried m_hasPlayed a_feltNow a_last a_kept m_hasSeconds m_hasTurned m_hasRound a_hasFeels a_isOn m_firstAct m_meanTop m_meanBy a_order m_rowMany m_newSteps g_words x_24 hr_x_24) lk_RX12_196 ⟨rfl, rfl⟩ ⟨Nat.le_of_ble_eq_true rfl, Nat.le_of_ble_eq_true rfl⟩ 12 rfl rfl rfl [2, 1] [0] rfl rfl (by decide) rfl hl.1 rfl (lv_room (Nat.le_of_ble_eq_true rfl)) dX12_readOld_38 ⟨Nat.le_of_ble_eq_true rfl, Nat.le_of_ble_eq_true rfl⟩ (fun r_25 u_26 H locs hw hP hD hS => ?_)
      obtain ⟨he_r_25, hw⟩ := hw
      obtain ⟨hr_r_25, hf_28⟩ := hw
      refine lv_goto (tgt := 45) hx hb dX12_readOld_41 (by decide) ?_
      refine lv_istore_n (lv' := [(3, .int r_25), (0, .ref h0), (1, .int 3), (2, .int 16)]) hx hb dX12_readOld_45 rfl hl (by decide) rfl (fun ls hl => ?_)
      refine lv_aload_n hx hb dX12_readOld_46 rfl (lv_at hl 1 rfl) ?_
      refine va_get (D := G) (ci := 12) (v := .int m_bad) (C := RX12) (T := TX12) (N := 65) hx hb hts inT12 hown hK hP 1 rfl rfl 12 (by decide) (hts _ tw_1897) (fun _ h9 => h9) rfl dX12_readOld_47 ?_
      refine lv_if_ne (tgt := 66) hx hb dX12_readOld_50 (by decide) (fun h9 => (z_no (by have h8 := z_fneT h9; omega))) (fun c_29 => ?_)
      have b_30 := z_feqF c_29
      refine lv_iload_n hx hb dX12_readOld_53 rfl (lv_at hl 0 rfl) ?_
      refine lv_if_ge (tgt := 66) hx hb dX12_readOld_54 (by decide) (fun c_31 => ?_) (fun c_31 => ?_)
      · have b_32 := z_fgeT c_31
        refine lv_iload_n hx hb dX12_readOld_66 rfl (lv_at hl 0 rfl) ?_
        have hpost : ((-1) ≤ r_25.toInt ∧ r_25.toInt ≤ 4) ∧ (0 ≤ m_bad.toInt ∧ m_bad.toInt ≤ 9) ∧ (m_behind.toInt ≤ m_behind.toInt) ∧ (0 < m_bad.toInt → 0 < m_bad.toInt) ∧ (m_bad.toInt ≤ 0 → 0 ≤ r_25.toInt ∧ r_25.toInt < (g_c 1463).toInt) := ⟨hr_r_25, hr_m_bad, (by omega), (by omega), (by omega)⟩
        have hX_33 : F_r_readOld_3 m_bad m_badAt m_token m_at m_letters m_word g_c g_words = ((r_25, m_bad, m_badAt) : Int32 × Int32 × Int32) := by
          refine (F_r_readOld_3_s ..).trans ?_
          refine (if_pos c_1).trans ?_
          extract_lets -merge -useContext +onlyGivenNames w9 y9; have e9 : (1 : Int32) = w9 := he_r_9; clear_value w9; subst e9
          refine (if_neg (show ¬ (1 : Int32) = 0 by decide)).trans ?_
          try (extract_lets -merge -useContext +onlyGivenNames y9; have e9 : x_24 = y9 := (by first | exact he_x_24 | exact he_x_24.symm); clear_value y9; subst e9)
          extract_lets -merge -useContext +onlyGivenNames w9 y9; have e9 : r_25 = w9 := he_r_25; clear_value w9; subst e9
          refine (if_pos c_31).trans ?_
          exact rfl
        exact hret _ _ _ _ _ _ (m_bad, m_badAt) [1, 0, 2] hP hD hS rfl (by decide) dX12_readOld_67 ⟨(congrArg (fun z9 => z9.1) hX_33).symm, (congrArg (fun z9 => z9.2.1) hX_33).symm, (congrArg (fun z9 => z9.2.2) hX_33).symm, hpost⟩
      · have b_34 := z_fltF c_31
        refine lv_aload_n hx hb dX12_readOld_57 rfl (lv_at hl 1 rfl) ?_
        refine lv_iconst (v := 3) hx hb dX12_readOld_58 (by decide) ?_
        refine lv_aload_n hx hb dX12_readOld_59 rfl (lv_at hl 1 rfl) ?_
        refine va_get (D := G) (ci := 12) (v := .int m_at) (C := RX12) (T := TX12) (N := 65) hx hb hts inT12 hown hK hP 1 rfl rfl 15 (by decide) (hts _ tw_1900) (fun _ h9 => h9) rfl dX12_readOld_60 ?_
        refine z_callVv (As := [.int 3, .int m_at]) (rest := []) (wr := [(a_c, .inl (cA.1 0, 1825, .inl g_c)), (a_words, .inl (cA.1 1, 105, .inr (.inl g_words)))]) ⟨hx, hb, hml, hown, hts⟩ hK hE hT hP hD hS hA (r_fail l G cA h0 m_status m_thrown m_above m_under a_traySort a_trayMany a_numbers a_tape m_taped m_textEnd m_faultKind m_faultAt m_bad m_badAt m_token m_at m_behind m_number m_letters m_word a_c a_words m_markMany a_there a_tried a_best a_found m_thereMany m_foundMany m_orderHow m_orderRing m_orderMany m_hasBest m_bestTop m_bestBy a_weights a_shared m_random m_truePlace m_trueWay m_seconds m_done m_feelings m_tries m_leftOver m_playDoor m_playRing m_isOpen m_isOver m_wasTried m_hasPlayed a_feltNow a_last a_kept m_hasSeconds m_hasTurned m_hasRound a_hasFeels a_isOn m_firstAct m_meanTop m_meanBy a_order m_rowMany m_newSteps 3 m_at (by decide +kernel) hr_m_bad) lk_RX12_180 ⟨rfl, rfl⟩ ⟨Nat.le_of_ble_eq_true rfl, Nat.le_of_ble_eq_true rfl⟩ 12 rfl rfl rfl [1] [0, 2] rfl rfl (by decide) rfl hl.1 rfl (lv_room (Nat.le_of_ble_eq_true rfl)) dX12_readOld_63 ⟨Nat.le_of_ble_eq_true rfl, Nat.le_of_ble_eq_true rfl⟩ (fun u_38 H locs hw hP hD hS => ?_)
        obtain ⟨n_35, n_36⟩ := u_38
        try dsimp only at hw
        obtain ⟨he_n_35, he_n_36, hw⟩ := hw
        obtain ⟨hr_n_35, hf_40⟩ := hw
        refine lv_iload_n hx hb dX12_readOld_66 rfl (lv_at hl 0 rfl) ?_
        have hpost : ((-1) ≤ r_25.toInt ∧ r_25.toInt ≤ 4) ∧ (0 ≤ n_35.toInt ∧ n_35.toInt ≤ 9) ∧ (m_behind.toInt ≤ m_behind.toInt) ∧ (0 < m_bad.toInt → 0 < n_35.toInt) ∧ (n_35.toInt ≤ 0 → 0 ≤ r_25.toInt ∧ r_25.toInt < (g_c 1463).toInt) := ⟨hr_r_25, (z_rgw hr_n_35 (by decide) (by decide)), (by omega), (by omega), (by omega)⟩
        have hX_41 : F_r_readOld_3 m_bad m_badAt m_token m_at m_letters m_word g_c g_words = ((r_25, n_35, n_36) : Int32 × Int32 × Int32) := by
          refine (F_r_readOld_3_s ..).trans ?_
          refine (if_pos c_1).trans ?_
          extract_lets -merge -useContext +onlyGivenNames w9 y9; have e9 : (1 : Int32) = w9 := he_r_9; clear_value w9; subst e9
          refine (if_neg (show ¬ (1 : Int32) = 0 by decide)).trans ?_
          try (extract_lets -merge -useContext +onlyGivenNames y9; have e9 : x_24 = y9 := (by first | exact he_x_24 | exact he_x_24.symm); clear_value y9; subst e9)
          extract_lets -merge -useContext +onlyGivenNames w9 y9; have e9 : r_25 = w9 := he_r_25; clear_value w9; subst e9
          refine (if_neg c_31).trans ?_
          extract_lets -merge -useContext +onlyGivenNames w9 y6_0 y6_1; have e9 : (n_35, n_36) = w9 := ((z_tS he_n_35 he_n_36.symm)).symm; clear_value w9; subst e9
          exact rfl
        exact hret _ _ _ _ _ _ (n_35, n_36) [2, 0, 1] hP hD hS rfl (by decide) dX12_readOld_67 ⟨(congrArg (fun z9 => z9.1) hX_41).symm, (congrArg (fun z9 => z9.2.1) hX_41).symm, (congrArg (fun z9 => z9.2.2) hX_41).symm, hpost⟩
set_option maxHeartbeats 40000000 in
set_option maxRecDepth 100000 in
theorem r_isFeature (l : Launch) (G : va_G) (cA : zCA) (h0 : Nat) (m_status : Int32) (m_thrown : Int32) (m_above : Int64) (m_under : Int64) (a_traySort : Nat) (a_trayMany : Nat) (a_numbers : Nat) (a_tape : Nat) (m_taped : Int32) (m_textEnd : Int32) (m_faultKind : Int32) (m_faultAt : Int32) (m_bad : Int32) (m_badAt : Int32) (m_token : Int32) (m_at : Int32) (m_behind : Int32) (m_number : Int32) (m_letters : Int32) (m_word : Int64) (a_c : Nat) (a_words : Nat) (m_markMany : Int32) (a_there : Nat) (a_tried : Nat) (a_best : Nat) (a_found : Nat) (m_thereMany : Int32) (m_foundMany : Int32) (m_orderHow : Int32) (m_orderRing : Int32) (m_orderMany : Int32) (m_hasBest : Int32) (m_bestTop : Int64) (m_bestBy : Int64) (a_weights : Nat) (a_shared : Nat) (m_random : Int32) (m_truePlace : Int32) (m_trueWay : Int32) (m_seconds : Int32) (m_done : Int32) (m_feelings : Int32) (m_tries : Int32) (m_leftOver : Int32) (m_playDoor : Int32) (m_playRing : Int32) (m_isOpen : Int32) (m_isOver : Int32) (m_wasTried : Int32) (m_hasPlayed : Int32) (a_feltNow : Nat) (a_last : Nat) (a_kept : Nat) (m_hasSeconds : Int32) (m_hasTurned : Int32) (m_hasRound : Int32) (a_hasFeels : Nat) (a_isOn : Nat) (m_firstAct : Int32) (m_meanTop : Int64) (m_meanBy : Int64) (a_order : Nat) (m_rowMany : Int32) (m_newSteps : Int32) (g_c : Nat → Int32) (k : Int32) (hC_g_c : zC g_c) : zCi l yX12_isFeature cX12_isFeature 2 (some .boolean) ({ frames := 1, cells := 0, slots := 0, locals := 25 }) G cA [.ref h0, .int k] [(h0, .inr (12, [.int m_status, .int m_thrown, .long m_above, .long m_under, .ref a_traySort, .ref a_trayMany, .ref a_numbers, .ref a_tape, .int m_taped, .int m_textEnd, .int m_faultKind, .int m_faultAt, .int m_bad, .int m_badAt, .int m_token, .int m_at, .int m_behind, .int m_number, .int m_letters, .long m_word, .ref a_c, .ref a_words, .int m_markMany, .ref a_there, .ref a_tried, .ref a_best, .ref a_found, .int m_thereMany, .int m_foundMany, .int m_orderHow, .int m_orderRing, .int m_orderMany, .int m_hasBest, .long m_bestTop, .long m_bestBy, .ref a_weights, .ref a_shared, .int m_random, .int m_truePlace, .int m_trueWay, .int m_seconds, .int m_done, .int m_feelings, .int m_tries, .int m_leftOver, .int m_playDoor, .int m_playRing, .int m_isOpen, .int m_isOver, .int m_wasTried, .int m_hasPlayed, .ref a_feltNow, .ref a_last, .ref a_kept, .int m_hasSeconds, .int m_hasTurned, .int m_hasRound, .ref a_hasFeels, .ref a_isOn, .int m_firstAct, .long m_meanTop, .long m_meanBy, .ref a_order, .int m_rowMany, .int m_newSteps])), (a_c, .inl (cA.1 0, 1825, .inl g_c))] (S := Unit) (fun (r : Int32) (u : Unit) => (r = (F_r_isFeature g_c k)) ∧ ((r = 0 ∧ True) ∨ (r = 1 ∧ (0 ≤ k.toInt ∧ k.toInt < (g_c 0).toInt) ∧ (k.toInt ≤ 2)))) (fun (u : Unit) => [(h0, .inr (12, [.int m_status, .int m_thrown, .long m_above, .long m_under, .ref a_traySort, .ref a_trayMany, .ref a_numbers, .ref a_tape, .int m_taped, .int m_textEnd, .int m_faultKind, .int m_faultAt, .int m_bad, .int m_badAt, .int m_token, .int m_at, .int m_behind, .int m_number, .int m_letters, .long m_word, .ref a_c, .ref a_words, .int m_markMany, .ref a_there, .ref a_tried, .ref a_best, .ref a_found, .int m_thereMany, .int m_foundMany, .int m_orderHow, .int m_orderRing, .int m_orderMany, .int m_hasBest, .long m_bestTop, .long m_bestBy, .ref a_weights, .ref a_shared, .int m_random, .int m_truePlace, .int m_trueWay, .int m_seconds, .int m_done, .int m_feelings, .int m_tries, .int m_leftOver, .int m_playDoor, .int m_playRing, .int m_isOpen, .int m_isOver, .int m_wasTried, .int m_hasPlayed, .ref a_feltNow, .ref a_last, .ref a_kept, .int m_hasSeconds, .int m_hasTurned, .int m_hasRound, .ref a_hasFeels, .ref a_isOn, .int m_firstAct, .long m_meanTop, .long m_meanBy, .ref a_order, .int m_rowMany, .int m_newSteps])), (a_c, .inl (cA.1 0, 1825, .inl g_c))]) 0 0 := by
  have hk_1 : (1 : Int32).toInt = 1 := by decide +kernel
  have hkl_0 : (0 : Int64).toInt = 0 := by decide +kernel
  refine z_start2z (own := RX12) (by decide) (Nat.le_of_ble_eq_true rfl) rfl ?_
  intro p e s m args below meth c A ls Q hx hb hml hts hown hK hE hT hP hD hS hA hl hret
  have hl : lv_has ls 2 [(0, .ref h0), (1, .int k)] := hl
  refine lv_iload_n hx hb dX12_isFeature_0 rfl (lv_at hl 1 rfl) ?_
  refine lv_i2l (v := (k).toInt64) hx hb dX12_isFeature_1 rfl ?_
  refine lv_topl (fun x_1 he_x_1 => ?_)
  have hq_x_1 := z_i2l he_x_1
  have hL_k := z_full k
  refine lv_lconst (v := 0) hx hb dX12_isFeature_2 (by decide) ?_
  refine lv_aload_n hx hb dX12_isFeature_3 rfl (lv_at hl 0 rfl) ?_
  refine va_get (D := G) (ci := 12) (v := .ref a_c) (C := RX12) (T := TX12) (N := 65) hx hb hts inT12 hown hK hP 0 rfl rfl 20 (by decide) (hts _ tw_1905) (fun _ h9 => h9) rfl dX12_isFeature_4 ?_
  refine lv_iconst (v := 0) hx hb dX12_isFeature_7 (by decide) ?_
  refine va_iald hx hb hK hP 1 0 rfl rfl (z_in (i := 0) (n := 1825) (by decide +kernel) (by decide +kernel)) dX12_isFeature_8 ?_
  refine lv_topi (fun x_2 he_x_2 => ?_)
  have hr_x_2 := z_ctk hC_g_c he_x_2 (k := 0) (lo := 0) (hi := 3) (by decide +kernel) (by decide +kernel) (by decide +kernel)
  have hv_x_2 := z_cv he_x_2 (k := 0) (by decide +kernel)
  refine lv_iconst (v := 1) hx hb dX12_isFeature_9 (by decide) ?_
  refine lv_isub hx hb dX12_isFeature_10 ?_
  refine lv_topi (fun x_3 he_x_3 => ?_)
  have hq_x_3 := z_subq he_x_3 (rfl : x_2.toInt = _) hk_1 (by omega) (by omega)
  refine lv_i2l (v := (x_3).toInt64) hx hb dX12_isFeature_11 rfl ?_
  refine lv_topl (fun x_4 he_x_4 => ?_)
  have hq_x_4 := z_i2l he_x_4
  refine z_callSi (As := [.long x_1, .long 0, .long x_4]) (rest := []) (wr := [(h0, .inr (12, [.int m_status, .int m_thrown, .long m_above, .long m_under, .ref a_traySort, .ref a_trayMany, .ref a_numbers, .ref a_tape, .int m_taped, .int m_textEnd, .int m_faultKind, .int m_faultAt, .int m_bad, .int m_badAt, .int m_token, .int m_at, .int m_behind, .int m_number, .int m_letters, .long m_word, .ref a_c, .ref a_words, .int m_markMany, .ref a_there, .ref a_tried, .ref a_best, .ref a_found, .int m_thereMany, .int m_foundMany, .int m_orderHow, .int m_orderRing, .int m_orderMany, .int m_hasBest, .long m_bestTop, .long m_bestBy, .ref a_weights, .ref a_shared, .int m_random, .int m_truePlace, .int m_trueWay, .int m_seconds, .int m_done, .int m_feelings, .int m_tries, .int m_leftOver, .int m_playDoor, .int m_playRing, .int m_isOpen, .int m_isOver, .int m_wasTried, .int m_hasPlayed, .ref a_feltNow, .ref a_last, .ref a_kept, .int m_hasSeconds, .int m_hasTurned, .int m_hasRound, .ref a_hasFeels, .ref a_isOn, .int m_firstAct, .long m_meanTop, .long m_meanBy, .ref a_order, .int m_rowMany, .int m_newSteps])), (a_c, .inl (cA.1 0, 1825, .inl g_c))]) ⟨hx, hb, hml, hown, hts⟩ hK hE hT hP hD hS hA (r_isIn l G cA x_1 0 x_4) lk_RX12_117 ⟨rfl, rfl⟩ ⟨Nat.le_of_ble_eq_true rfl, Nat.le_of_ble_eq_true rfl⟩ [] [0, 1] rfl rfl (by decide) rfl hl.1 rfl (lv_room (Nat.le_of_ble_eq_true rfl)) dX12_isFeature_12 ⟨Nat.le_of_ble_eq_true rfl, Nat.le_of_ble_eq_true rfl⟩ (fun r_5 u_6 H locs hw hP hD hS => ?_)
  obtain ⟨he_r_5, hw⟩ := hw
  rcases hw with ⟨rfl, hf_8⟩ | ⟨rfl, hf_9⟩
  · skip
    have hpost : ((0 : Int32) = 0 ∧ True) ∨ ((0 : Int32) = 1 ∧ (0 ≤ k.toInt ∧ k.toInt < (g_c 0).toInt) ∧ (k.toInt ≤ 2)) := (Or.inl ⟨rfl, trivial⟩)
    have hX_10 : F_r_isFeature g_c k = ((0 : Int32) : Int32) := by
      refine (F_r_isFeature_s ..).trans ?_
      try (extract_lets -merge -useContext +onlyGivenNames y9; have e9 : x_1 = y9 := (by first | exact he_x_1 | exact he_x_1.symm); clear_value y9; subst e9)
      try (extract_lets -merge -useContext +onlyGivenNames y9; have e9 : x_2 = y9 := (by first | exact he_x_2 | exact he_x_2.symm); clear_value y9; subst e9)
      try (extract_lets -merge -useContext +onlyGivenNames y9; have e9 : x_3 = y9 := (by first | exact he_x_3 | exact he_x_3.symm); clear_value y9; subst e9)
      try (extract_lets -merge -useContext +onlyGivenNames y9; have e9 : x_4 = y9 := (by first | exact he_x_4 | exact he_x_4.symm); clear_value y9; subst e9)
      extract_lets -merge -useContext +onlyGivenNames w9 y9; have e9 : (0 : Int32) = w9 := he_r_5; clear_value w9; subst e9
      refine (if_pos rfl).trans ?_
      exact rfl
    exact hret _ _ _ _ _ _ () [0, 1] hP hD hS rfl (by decide) dX12_isFeature_15 (Or.inl rfl) ⟨(congrArg (fun z9 => z9) hX_10).symm, hpost⟩
  · skip
    have hpost : ((1 : Int32) = 0 ∧ True) ∨ ((1 : Int32) = 1 ∧ (0 ≤ k.toInt ∧ k.toInt < (g_c 0).toInt) ∧ (k.toInt ≤ 2)) := (Or.inr ⟨rfl, ⟨(by omega), (by omega)⟩⟩)
    have hX_11 : F_r_isFeature g_c k = ((1 : Int32) : Int32) := by
      refine (F_r_isFeature_s ..).trans ?_
      try (extract_lets -merge -useContext +onlyGivenNames y9; have e9 : x_1 = y9 := (by first | exact he_x_1 | exact he_x_1.symm); clear_value y9; subst e9)
      try (extract_lets -merge -useContext +onlyGivenNames y9; have e9 : x_2 = y9 := (by first | exact he_x_2 | exact he_x_2.symm); clear_value y9; subst e9)
      try (extract_lets -merge -useContext +onlyGivenNames y9; have e9 : x_3 = y9 := (by first | exact he_x_3 | exact he_x_3.symm); clear_value y9; subst e9)
      try (extract_lets -merge -useContext +onlyGivenNames y9; have e9 : x_4 = y9 := (by first | exact he_x_4 | exact he_x_4.symm); clear_value y9; subst e9)
      extract_lets -merge -useContext +onlyGivenNames w9 y9; have e9 : (1 : Int32) = w9 := he_r_5; clear_value w9; subst e9
      refine (if_neg (show ¬ (1 : Int32) = 0 by decide)).trans ?_
      exact rfl
    exact hret _ _ _ _ _ _ () [0, 1] hP hD hS rfl (by decide) dX12_isFeature_15 (Or.inr rfl) ⟨(congrArg (fun z9 => z9) hX_11).symm, hpost⟩
set_option maxHeartbeats 40000000 in
set_option maxRecDepth 100000 in
theorem r_isRing (l : Launch) (G : va_G) (cA : zCA) (h0 : Nat) (m_status : Int32) (m_thrown : Int32) (m_above : Int64) (m_under : Int64) (a_traySort : Nat) (a_trayMany : Nat) (a_numbers : Nat) (a_tape : Nat) (m_taped : Int32) (m_textEnd : Int32) (m_faultKind : Int32) (m_faultAt : Int32) (m_bad : Int32) (m_badAt : Int32) (m_token : Int32) (m_at : Int32) (m_behind : Int32) (m_number : Int32) (m_letters : Int32) (m_word : Int64) (a_c : Nat) (a_words : Nat) (m_markMany : Int32) (a_there : Nat) (a_tried : Nat) (a_best : Nat) (a_found : Nat) (m_thereMany : Int32) (m_foundMany : Int32) (m_orderHow : Int32) (m_orderRing : Int32) (m_orderMany : Int32) (m_hasBest : Int32) (m_bestTop : Int64) (m_bestBy : Int64) (a_weights : Nat) (a_shared : Nat) (m_random : Int32) (m_truePlace : Int32) (m_trueWay : Int32) (m_seconds : Int32) (m_done : Int32) (m_feelings : Int32) (m_tries : Int32) (m_leftOver : Int32) (m_playDoor : Int32) (m_playRing : Int32) (m_isOpen : Int32) (m_isOver : Int32) (m_wasTried : Int32) (m_hasPlayed : Int32) (a_feltNow : Nat) (a_last : Nat) (a_kept : Nat) (m_hasSeconds : Int32) (m_hasTurned : Int32) (m_hasRound : Int32) (a_hasFeels : Nat) (a_isOn : Nat) (m_firstAct : Int32) (m_meanTop : Int64) (m_meanBy : Int64) (a_order : Nat) (m_rowMany : Int32) (m_newSteps : Int32) (g_c : Nat → Int32) (k : Int32) (hC_g_c : zC g_c) : zCi l yX12_isRing cX12_isRing 2 (some .boolean) ({ frames := 1, cells := 0, slots := 0, locals := 25 }) G cA [.ref h0, .int k] [(h0, .inr (12, [.int m_status, .int m_thrown, .long m_above, .long m_under, .ref a_traySort, .ref a_trayMany, .ref a_numbers, .ref a_tape, .int m_taped, .int m_textEnd, .int m_faultKind, .int m_faultAt, .int m_bad, .int m_badAt, .int m_token, .int m_at, .int m_behind, .int m_number, .int m_letters, .long m_word, .ref a_c, .ref a_words, .int m_markMany, .ref a_there, .ref a_tried, .ref a_best, .ref a_found, .int m_thereMany, .int m_foundMany, .int m_orderHow, .int m_orderRing, .int m_orderMany, .int m_hasBest, .long m_bestTop, .long m_bestBy, .ref a_weights, .ref a_shared, .int m_random, .int m_truePlace, .int m_trueWay, .int m_seconds, .int m_done, .int m_feelings, .int m_tries, .int m_leftOver, .int m_playDoor, .int m_playRing, .int m_isOpen, .int m_isOver, .int m_wasTried, .int m_hasPlayed, .ref a_feltNow, .ref a_last, .ref a_kept, .int m_hasSeconds, .int m_hasTurned, .int m_hasRound, .ref a_hasFeels, .ref a_isOn, .int m_firstAct, .long m_meanTop, .long m_meanBy, .ref a_order, .int m_rowMany, .int m_newSteps])), (a_c, .inl (cA.1 0, 1825, .inl g_c))] (S := Unit) (fun (r : Int32) (u : Unit) => (r = (F_r_isRing g_c k)) ∧ ((r = 0 ∧ True) ∨ (r = 1 ∧ (0 ≤ k.toInt ∧ k.toInt < (g_c 2).toInt) ∧ (k.toInt ≤ 2)))) (fun (u : Unit) => [(h0, .inr (12, [.int m_status, .int m_thrown, .long m_above, .long m_under, .ref a_traySort, .ref a_trayMany, .ref a_numbers, .ref a_tape, .int m_taped, .int m_textEnd, .int m_faultKind, .int m_faultAt, .int m_bad, .int m_badAt, .int m_token, .int m_at, .int m_behind, .int m_number, .int m_letters, .long m_word, .ref a_c, .ref a_words, .int m_markMany, .ref a_there, .ref a_tried, .ref a_best, .ref a_found, .int m_thereMany, .int m_foundMany, .int m_orderHow, .int m_orderRing, .int m_orderMany, .int m_hasBest, .long m_bestTop, .long m_bestBy, .ref a_weights, .ref a_shared, .int m_random, .int m_truePlace, .int m_trueWay, .int m_seconds, .int m_done, .int m_feelings, .int m_tries, .int m_leftOver, .int m_playDoor, .int m_playRing, .int m_isOpen, .int m_isOver, .int m_wasTried, .int m_hasPlayed, .ref a_feltNow, .ref a_last, .ref a_kept, .int m_hasSeconds, .int m_hasTurned, .int m_hasRound, .ref a_hasFeels, .ref a_isOn, .int m_firstAct, .long m_meanTop, .long m_meanBy, .ref a_order, .int m_rowMany, .int m_newSteps])), (a_c, .inl (cA.1 0, 1825, .inl g_c))]) 0 0 := by
  have hk_1 : (1 : Int32).toInt = 1 := by decide +kernel
  have hkl_0 : (0 : Int64).toInt = 0 := by decide +kernel
  refine z_start2z (own := RX12) (by decide) (Nat.le_of_ble_eq_true rfl) rfl ?_
  intro p e s m args below meth c A ls Q hx hb hml hts hown hK hE hT hP hD hS hA hl hret
  have hl : lv_has ls 2 [(0, .ref h0), (1, .int k)] := hl
  refine lv_iload_n hx hb dX12_isRing_0 rfl (lv_at hl 1 rfl) ?_
  refine lv_i2l (v := (k).toInt64) hx hb dX12_isRing_1 rfl ?_
  refine lv_topl (fun x_1 he_x_1 => ?_)
  have hq_x_1 := z_i2l he_x_1
  have hL_k := z_full k
  refine lv_lconst (v := 0) hx hb dX12_isRing_2 (by decide) ?_
  refine lv_aload_n hx hb dX12_isRing_3 rfl (lv_at hl 0 rfl) ?_
  refine va_get (D := G) (ci := 12) (v := .ref a_c) (C := RX12) (T := TX12) (N := 65) hx hb hts inT12 hown hK hP 0 rfl rfl 20 (by decide) (hts _ tw_1905) (fun _ h9 => h9) rfl dX12_isRing_4 ?_
  refine lv_iconst (v := 2) hx hb dX12_isRing_7 (by decide) ?_
  refine va_iald hx hb hK hP 1 0 rfl rfl (z_in (i := 2) (n := 1825) (by decide +kernel) (by decide +kernel)) dX12_isRing_8 ?_
  refine lv_topi (fun x_2 he_x_2 => ?_)
  have hr_x_2 := z_ctk hC_g_c he_x_2 (k := 2) (lo := 0) (hi := 3) (by decide +kernel) (by decide +kernel) (by decide +kernel)
  have hv_x_2 := z_cv he_x_2 (k := 2) (by decide +kernel)
  refine lv_iconst (v := 1) hx hb dX12_isRing_9 (by decide) ?_
  refine lv_isub hx hb dX12_isRing_10 ?_
  refine lv_topi (fun x_3 he_x_3 => ?_)
  have hq_x_3 := z_subq he_x_3 (rfl : x_2.toInt = _) hk_1 (by omega) (by omega)
  refine lv_i2l (v := (x_3).toInt64) hx hb dX12_isRing_11 rfl ?_
  refine lv_topl (fun x_4 he_x_4 => ?_)
  have hq_x_4 := z_i2l he_x_4
  refine z_callSi (As := [.long x_1, .long 0, .long x_4]) (rest := []) (wr := [(h0, .inr (12, [.int m_status, .int m_thrown, .long m_above, .long m_under, .ref a_traySort, .ref a_trayMany, .ref a_numbers, .ref a_tape, .int m_taped, .int m_textEnd, .int m_faultKind, .int m_faultAt, .int m_bad, .int m_badAt, .int m_token, .int m_at, .int m_behind, .int m_number, .int m_letters, .long m_word, .ref a_c, .ref a_words, .int m_markMany, .ref a_there, .ref a_tried, .ref a_best, .ref a_found, .int m_thereMany, .int m_foundMany, .int m_orderHow, .int m_orderRing, .int m_orderMany, .int m_hasBest, .long m_bestTop, .long m_bestBy, .ref a_weights, .ref a_shared, .int m_random, .int m_truePlace, .int m_trueWay, .int m_seconds, .int m_done, .int m_feelings, .int m_tries, .int m_leftOver, .int m_playDoor, .int m_playRing, .int m_isOpen, .int m_isOver, .int m_wasTried, .int m_hasPlayed, .ref a_feltNow, .ref a_last, .ref a_kept, .int m_hasSeconds, .int m_hasTurned, .int m_hasRound, .ref a_hasFeels, .ref a_isOn, .int m_firstAct, .long m_meanTop, .long m_meanBy, .ref a_order, .int m_rowMany, .int m_newSteps])), (a_c, .inl (cA.1 0, 1825, .inl g_c))]) ⟨hx, hb, hml, hown, hts⟩ hK hE hT hP hD hS hA (r_isIn l G cA x_1 0 x_4) lk_RX12_117 ⟨rfl, rfl⟩ ⟨Nat.le_of_ble_eq_true rfl, Nat.le_of_ble_eq_true rfl⟩ [] [0, 1] rfl rfl (by decide) rfl hl.1 rfl (lv_room (Nat.le_of_ble_eq_true rfl)) dX12_isRing_12 ⟨Nat.le_of_ble_eq_true rfl, Nat.le_of_ble_eq_true rfl⟩ (fun r_5 u_6 H locs hw hP hD hS => ?_)
  obtain ⟨he_r_5, hw⟩ := hw
  rcases hw with ⟨rfl, hf_8⟩ | ⟨rfl, hf_9⟩
  · skip
    have hpost : ((0 : Int32) = 0 ∧ True) ∨ ((0 : Int32) = 1 ∧ (0 ≤ k.toInt ∧ k.toInt < (g_c 2).toInt) ∧ (k.toInt ≤ 2)) := (Or.inl ⟨rfl, trivial⟩)
    have hX_10 : F_r_isRing g_c k = ((0 : Int32) : Int32) := by
      refine (F_r_isRing_s ..).trans ?_
      try (extract_lets -merge -useContext +onlyGivenNames y9; have e9 : x_1 = y9 := (by first | exact he_x_1 | exact he_x_1.symm); clear_value y9; subst e9)
      try (extract_lets -merge -useContext +onlyGivenNames y9; have e9 : x_2 = y9 := (by first | exact he_x_2 | exact he_x_2.symm); clear_value y9; subst e9)
      try (extract_lets -merge -useContext +onlyGivenNames y9; have e9 : x_3 = y9 := (by first | exact he_x_3 | exact he_x_3.symm); clear_value y9; subst e9)
      try (extract_lets -merge -useContext +onlyGivenNames y9; have e9 : x_4 = y9 := (by first | exact he_x_4 | exact he_x_4.symm); clear_value y9; subst e9)
      extract_lets -merge -useContext +onlyGivenNames w9 y9; have e9 : (0 : Int32) = w9 := he_r_5; clear_value w9; subst e9
      refine (if_pos rfl).trans ?_
      exact rfl
    exact hret _ _ _ _ _ _ () [0, 1] hP hD hS rfl (by decide) dX12_isRing_15 (Or.inl rfl) ⟨(congrArg (fun z9 => z9) hX_10).symm, hpost⟩
  · skip
    have hpost : ((1 : Int32) = 0 ∧ True) ∨ ((1 : Int32) = 1 ∧ (0 ≤ k.toInt ∧ k.toInt < (g_c 2).toInt) ∧ (k.toInt ≤ 2)) := (Or.inr ⟨rfl, ⟨(by omega), (by omega)⟩⟩)
    have hX_11 : F_r_isRing g_c k = ((1 : Int32) : Int32) := by
      refine (F_r_isRing_s ..).trans ?_
      try (extract_lets -merge -useContext +onlyGivenNames y9; have e9 : x_1 = y9 := (by first | exact he_x_1 | exact he_x_1.symm); clear_value y9; subst e9)
      try (extract_lets -merge -useContext +onlyGivenNames y9; have e9 : x_2 = y9 := (by first | exact he_x_2 | exact he_x_2.symm); clear_value y9; subst e9)
      try (extract_lets -merge -useContext +onlyGivenNames y9; have e9 : x_3 = y9 := (by first | exact he_x_3 | exact he_x_3.symm); clear_value y9; subst e9)
      try (extract_lets -merge -useContext +onlyGivenNames y9; have e9 : x_4 = y9 := (by first | exact he_x_4 | exact he_x_4.symm); clear_value y9; subst e9)
      extract_lets -merge -useContext +onlyGivenNames w9 y9; have e9 : (1 : Int32) = w9 := he_r_5; clear_value w9; subst e9
      refine (if_neg (show ¬ (1 : Int32) = 0 by decide)).trans ?_
      exact rfl
    exact hret _ _ _ _ _ _ () [0, 1] hP hD hS rfl (by decide) dX12_isRing_15 (Or.inr rfl) ⟨(congrArg (fun z9 => z9) hX_11).symm, hpost⟩
set_option maxHeartbeats 40000000 in
set_option maxRecDepth 100000 in
theorem r_isDoor (l : Launch) (G : va_G) (cA : zCA) (h0 : Nat) (m_status : Int32) (m_thrown : Int32) (m_above : Int64) (m_under : Int64) (a_traySort : Nat) (a_trayMany : Nat) (a_numbers : Nat) (a_tape : Nat) (m_taped : Int32) (m_textEnd : Int32) (m_faultKind : Int32) (m_faultAt : Int32) (m_bad : Int32) (m_badAt : Int32) (m_token : Int32) (m_at : Int32) (m_behind : Int32) (m_number : Int32) (m_letters : Int32) (m_word : Int64) (a_c : Nat) (a_words : Nat) (m_markMany : Int32) (a_there : Nat) (a_tried : Nat) (a_best : Nat) (a_found : Nat) (m_thereMany : Int32) (m_foundMany : Int32) (m_orderHow : Int32) (m_orderRing : Int32) (m_orderMany : Int32) (m_hasBest : Int32) (m_bestTop : Int64) (m_bestBy : Int64) (a_weights : Nat) (a_shared : Nat) (m_random : Int32) (m_truePlace : Int32) (m_trueWay : Int32) (m_seconds : Int32) (m_done : Int32) (m_feelings : Int32) (m_tries : Int32) (m_leftOver : Int32) (m_playDoor : Int32) (m_playRing : Int32) (m_isOpen : Int32) (m_isOver : Int32) (m_wasTried : Int32) (m_hasPlayed : Int32) (a_feltNow : Nat) (a_last : Nat) (a_kept : Nat) (m_hasSeconds : Int32) (m_hasTurned : Int32) (m_hasRound : Int32) (a_hasFeels : Nat) (a_isOn : Nat) (m_firstAct : Int32) (m_meanTop : Int64) (m_meanBy : Int64) (a_order : Nat) (m_rowMany : Int32) (m_newSteps : Int32) (g_c : Nat → Int32) (k : Int32) (hC_g_c : zC g_c) : zCi l yX12_isDoor cX12_isDoor 2 (some .boolean) ({ frames := 1, cells := 0, slots := 0, locals := 25 }) G cA [.ref h0, .int k] [(h0, .inr (12, [.int m_status, .int m_thrown, .long m_above, .long m_under, .ref a_traySort, .ref a_trayMany, .ref a_numbers, .ref a_tape, .int m_taped, .int m_textEnd, .int m_faultKind, .int m_faultAt, .int m_bad, .int m_badAt, .int m_token, .int m_at, .int m_behind, .int m_number, .int m_letters, .long m_word, .ref a_c, .ref a_words, .int m_markMany, .ref a_there, .ref a_tried, .ref a_best, .ref a_found, .int m_thereMany, .int m_foundMany, .int m_orderHow, .int m_orderRing, .int m_orderMany, .int m_hasBest, .long m_bestTop, .long m_bestBy, .ref a_weights, .ref a_shared, .int m_random, .int m_truePlace, .int m_trueWay, .int m_seconds, .int m_done, .int m_feelings, .int m_tries, .int m_leftOver, .int m_playDoor, .int m_playRing, .int m_isOpen, .int m_isOver, .int m_wasTried, .int m_hasPlayed, .ref a_feltNow, .ref a_last, .ref a_kept, .int m_hasSeconds, .int m_hasTurned, .int m_hasRound, .ref a_hasFeels, .ref a_isOn, .int m_firstAct, .long m_meanTop, .long m_meanBy, .ref a_order, .int m_rowMany, .int m_newSteps])), (a_c, .inl (cA.1 0, 1825, .inl g_c))] (S := Unit) (fun (r : Int32) (u : Unit) => (r = (F_r_isDoor g_c k)) ∧ ((r = 0 ∧ True) ∨ (r = 1 ∧ (0 ≤ k.toInt ∧ k.toInt < (g_c 3).toInt) ∧ (k.toInt ≤ 4)))) (fun (u : Unit) => [(h0, .inr (12, [.int m_status, .int m_thrown, .long m_above, .long m_under, .ref a_traySort, .ref a_trayMany, .ref a_numbers, .ref a_tape, .int m_taped, .int m_textEnd, .int m_faultKind, .int m_faultAt, .int m_bad, .int m_badAt, .int m_token, .int m_at, .int m_behind, .int m_number, .int m_letters, .long m_word, .ref a_c, .ref a_words, .int m_markMany, .ref a_there, .ref a_tried, .ref a_best, .ref a_found, .int m_thereMany, .int m_foundMany, .int m_orderHow, .int m_orderRing, .int m_orderMany, .int m_hasBest, .long m_bestTop, .long m_bestBy, .ref a_weights, .ref a_shared, .int m_random, .int m_truePlace, .int m_trueWay, .int m_seconds, .int m_done, .int m_feelings, .int m_tries, .int m_leftOver, .int m_playDoor, .int m_playRing, .int m_isOpen, .int m_isOver, .int m_wasTried, .int m_hasPlayed, .ref a_feltNow, .ref a_last, .ref a_kept, .int m_hasSeconds, .int m_hasTurned, .int m_hasRound, .ref a_hasFeels, .ref a_isOn, .int m_firstAct, .long m_meanTop, .long m_meanBy, .ref a_order, .int m_rowMany, .int m_newSteps])), (a_c, .inl (cA.1 0, 1825, .inl g_c))]) 0 0 := by
  have hk_1 : (1 : Int32).toInt = 1 := by decide +kernel
  have hkl_0 : (0 : Int64).toInt = 0 := by decide +kernel
  refine z_start2z (own := RX12) (by decide) (Nat.le_of_ble_eq_true rfl) rfl ?_
  intro p e s m args below meth c A ls Q hx hb hml hts hown hK hE hT hP hD hS hA hl hret
  have hl : lv_has ls 2 [(0, .ref h0), (1, .int k)] := hl
  refine lv_iload_n hx hb dX12_isDoor_0 rfl (lv_at hl 1 rfl) ?_
  refine lv_i2l (v := (k).toInt64) hx hb dX12_isDoor_1 rfl ?_
  refine lv_topl (fun x_1 he_x_1 => ?_)
  have hq_x_1 := z_i2l he_x_1
  have hL_k := z_full k
  refine lv_lconst (v := 0) hx hb dX12_isDoor_2 (by decide) ?_
  refine lv_aload_n hx hb dX12_isDoor_3 rfl (lv_at hl 0 rfl) ?_
  refine va_get (D := G) (ci := 12) (v := .ref a_c) (C := RX12) (T := TX12) (N := 65) hx hb hts inT12 hown hK hP 0 rfl rfl 20 (by decide) (hts _ tw_1905) (fun _ h9 => h9) rfl dX12_isDoor_4 ?_
  refine lv_iconst (v := 3) hx hb dX12_isDoor_7 (by decide) ?_
  refine va_iald hx hb hK hP 1 0 rfl rfl (z_in (i := 3) (n := 1825) (by decide +kernel) (by decide +kernel)) dX12_isDoor_8 ?_
  refine lv_topi (fun x_2 he_x_2 => ?_)
  have hr_x_2 := z_ctk hC_g_c he_x_2 (k := 3) (lo := 0) (hi := 5) (by decide +kernel) (by decide +kernel) (by decide +kernel)
  have hv_x_2 := z_cv he_x_2 (k := 3) (by decide +kernel)
  refine lv_iconst (v := 1) hx hb dX12_isDoor_9 (by decide) ?_
  refine lv_isub hx hb dX12_isDoor_10 ?_
  refine lv_topi (fun x_3 he_x_3 => ?_)
  have hq_x_3 := z_subq he_x_3 (rfl : x_2.toInt = _) hk_1 (by omega) (by omega)
  refine lv_i2l (v := (x_3).toInt64) hx hb dX12_isDoor_11 rfl ?_
  refine lv_topl (fun x_4 he_x_4 => ?_)
  have hq_x_4 := z_i2l he_x_4
  refine z_callSi (As := [.long x_1, .long 0, .long x_4]) (rest := []) (wr := [(h0, .inr (12, [.int m_status, .int m_thrown, .long m_above, .long m_under, .ref a_traySort, .ref a_trayMany, .ref a_numbers, .ref a_tape, .int m_taped, .int m_textEnd, .int m_faultKind, .int m_faultAt, .int m_bad, .int m_badAt, .int m_token, .int m_at, .int m_behind, .int m_number, .int m_letters, .long m_word, .ref a_c, .ref a_words, .int m_markMany, .ref a_there, .ref a_tried, .ref a_best, .ref a_found, .int m_thereMany, .int m_foundMany, .int m_orderHow, .int m_orderRing, .int m_orderMany, .int m_hasBest, .long m_bestTop, .long m_bestBy, .ref a_weights, .ref a_shared, .int m_random, .int m_truePlace, .int m_trueWay, .int m_seconds, .int m_done, .int m_feelings, .int m_tries, .int m_leftOver, .int m_playDoor, .int m_playRing, .int m_isOpen, .int m_isOver, .int m_wasTried, .int m_hasPlayed, .ref a_feltNow, .ref a_last, .ref a_kept, .int m_hasSeconds, .int m_hasTurned, .int m_hasRound, .ref a_hasFeels, .ref a_isOn, .int m_firstAct, .long m_meanTop, .long m_meanBy, .ref a_order, .int m_rowMany, .int m_newSteps])), (a_c, .inl (cA.1 0, 1825, .inl g_c))]) ⟨hx, hb, hml, hown, hts⟩ hK hE hT hP hD hS hA (r_isIn l G cA x_1 0 x_4) lk_RX12_117 ⟨rfl, rfl⟩ ⟨Nat.le_of_ble_eq_true rfl, Nat.le_of_ble_eq_true rfl⟩ [] [0, 1] rfl rfl (by decide) rfl hl.1 rfl (lv_room (Nat.le_of_ble_eq_true rfl)) dX12_isDoor_12 ⟨Nat.le_of_ble_eq_true rfl, Nat.le_of_ble_eq_true rfl⟩ (fun r_5 u_6 H locs hw hP hD hS => ?_)
  obtain ⟨he_r_5, hw⟩ := hw
  rcases hw with ⟨rfl, hf_8⟩ | ⟨rfl, hf_9⟩
  · skip
    have hpost : ((0 : Int32) = 0 ∧ True) ∨ ((0 : Int32) = 1 ∧ (0 ≤ k.toInt ∧ k.toInt < (g_c 3).toInt) ∧ (k.toInt ≤ 4)) := (Or.inl ⟨rfl, trivial⟩)
    have hX_10 : F_r_isDoor g_c k = ((0 : Int32) : Int32) := by
      refine (F_r_isDoor_s ..).trans ?_
      try (extract_lets -merge -useContext +onlyGivenNames y9; have e9 : x_1 = y9 := (by first | exact he_x_1 | exact he_x_1.symm); clear_value y9; subst e9)
      try (extract_lets -merge -useContext +onlyGivenNames y9; have e9 : x_2 = y9 := (by first | exact he_x_2 | exact he_x_2.symm); clear_value y9; subst e9)
      try (extract_lets -merge -useContext +onlyGivenNames y9; have e9 : x_3 = y9 := (by first | exact he_x_3 | exact he_x_3.symm); clear_value y9; subst e9)
      try (extract_lets -merge -useContext +onlyGivenNames y9; have e9 : x_4 = y9 := (by first | exact he_x_4 | exact he_x_4.symm); clear_value y9; subst e9)
      extract_lets -merge -useContext +onlyGivenNames w9 y9; have e9 : (0 : Int32) = w9 := he_r_5; clear_value w9; subst e9
      refine (if_pos rfl).trans ?_
      exact rfl
    exact hret _ _ _ _ _ _ () [0, 1] hP hD hS rfl (by decide) dX12_isDoor_15 (Or.inl rfl) ⟨(congrArg (fun z9 => z9) hX_10).symm, hpost⟩
  · skip
    have hpost : ((1 : Int32) = 0 ∧ True) ∨ ((1 : Int32) = 1 ∧ (0 ≤ k.toInt ∧ k.toInt < (g_c 3).toInt) ∧ (k.toInt ≤ 4)) := (Or.inr ⟨rfl, ⟨(by omega), (by omega)⟩⟩)
    have hX_11 : F_r_isDoor g_c k = ((1 : Int32) : Int32) := by
      refine (F_r_isDoor_s ..).trans ?_
      try (extract_lets -merge -useContext +onlyGivenNames y9; have e9 : x_1 = y9 := (by first | exact he_x_1 | exact he_x_1.symm); clear_value y9; subst e9)
      try (extract_lets -merge -useContext +onlyGivenNames y9; have e9 : x_2 = y9 := (by first | exact he_x_2 | exact he_x_2.symm); clear_value y9; subst e9)
      try (extract_lets -merge -useContext +onlyGivenNames y9; have e9 : x_3 = y9 := (by first | exact he_x_3 | exact he_x_3.symm); clear_value y9; subst e9)
      try (extract_lets -merge -useContext +onlyGivenNames y9; have e9 : x_4 = y9 := (by first | exact he_x_4 | exact he_x_4.symm); clear_value y9; subst e9)
      extract_lets -merge -useContext +onlyGivenNames w9 y9; have e9 : (1 : Int32) = w9 := he_r_5; clear_value w9; subst e9
      refine (if_neg (show ¬ (1 : Int32) = 0 by decide)).trans ?_
      exact rfl
    exact hret _ _ _ _ _ _ () [0, 1] hP hD hS rfl (by decide) dX12_isDoor_15 (Or.inr rfl) ⟨(congrArg (fun z9 => z9) hX_11).symm, hpost⟩
set_option maxHeartbeats 40000000 in
set_option maxRecDepth 100000 in
theorem r_isKey (l : Launch) (G : va_G) (cA : zCA) (h0 : Nat) (m_status : Int32) (m_thrown : Int32) (m_above : Int64) (m_under : Int64) (a_traySort : Nat) (a_trayMany : Nat) (a_numbers : Nat) (a_tape : Nat) (m_taped : Int32) (m_textEnd : Int32) (m_faultKind : Int32) (m_faultAt : Int32) (m_bad : Int32) (m_badAt : Int32) (m_token : Int32) (m_at : Int32) (m_behind : Int32) (m_number : Int32) (m_letters : Int32) (m_word : Int64) (a_c : Nat) (a_words : Nat) (m_markMany : Int32) (a_there : Nat) (a_tried : Nat) (a_best : Nat) (a_found : Nat) (m_thereMany : Int32) (m_foundMany : Int32) (m_orderHow : Int32) (m_orderRing : Int32) (m_orderMany : Int32) (m_hasBest : Int32) (m_bestTop : Int64) (m_bestBy : Int64) (a_weights : Nat) (a_shared : Nat) (m_random : Int32) (m_truePlace : Int32) (m_trueWay : Int32) (m_seconds : Int32) (m_done : Int32) (m_feelings : Int32) (m_tries : Int32) (m_leftOver : Int32) (m_playDoor : Int32) (m_playRing : Int32) (m_isOpen : Int32) (m_isOver : Int32) (m_wasTried : Int32) (m_hasPlayed : Int32) (a_feltNow : Nat) (a_last : Nat) (a_kept : Nat) (m_hasSeconds : Int32) (m_hasTurned : Int32) (m_hasRound : Int32) (a_hasFeels : Nat) (a_isOn : Nat) (m_firstAct : Int32) (m_meanTop : Int64) (m_meanBy : Int64) (a_order : Nat) (m_rowMany : Int32) (m_newSteps : Int32) (g_c : Nat → Int32) (k : Int64) (hC_g_c : zC g_c) : zCi l yX12_isKey cX12_isKey 3 (some .boolean) ({ frames := 1, cells := 0, slots := 0, locals := 25 }) G cA [.ref h0, .long k] [(h0, .inr (12, [.int m_status, .int m_thrown, .long m_above, .long m_under, .ref a_traySort, .ref a_trayMany, .ref a_numbers, .ref a_tape, .int m_taped, .int m_textEnd, .int m_faultKind, .int m_faultAt, .int m_bad, .int m_badAt, .int m_token, .int m_at, .int m_behind, .int m_number, .int m_letters, .long m_word, .ref a_c, .ref a_words, .int m_markMany, .ref a_there, .ref a_tried, .ref a_best, .ref a_found, .int m_thereMany, .int m_foundMany, .int m_orderHow, .int m_orderRing, .int m_orderMany, .int m_hasBest, .long m_bestTop, .long m_bestBy, .ref a_weights, .ref a_shared, .int m_random, .int m_truePlace, .int m_trueWay, .int m_seconds, .int m_done, .int m_feelings, .int m_tries, .int m_leftOver, .int m_playDoor, .int m_playRing, .int m_isOpen, .int m_isOver, .int m_wasTried, .int m_hasPlayed, .ref a_feltNow, .ref a_last, .ref a_kept, .int m_hasSeconds, .int m_hasTurned, .int m_hasRound, .ref a_hasFeels, .ref a_isOn, .int m_firstAct, .long m_meanTop, .long m_meanBy, .ref a_order, .int m_rowMany, .int m_newSteps])), (a_c, .inl (cA.1 0, 1825, .inl g_c))] (S := Unit) (fun (r : Int32) (u : Unit) => (r = (F_r_isKey g_c k)) ∧ ((r = 0 ∧ True) ∨ (r = 1 ∧ (0 ≤ k.toInt ∧ k.toInt < (g_c 1).toInt) ∧ (k.toInt ≤ 9)))) (fun (u : Unit) => [(h0, .inr (12, [.int m_status, .int m_thrown, .long m_above, .long m_under, .ref a_traySort, .ref a_trayMany, .ref a_numbers, .ref a_tape, .int m_taped, .int m_textEnd, .int m_faultKind, .int m_faultAt, .int m_bad, .int m_badAt, .int m_token, .int m_at, .int m_behind, .int m_number, .int m_letters, .long m_word, .ref a_c, .ref a_words, .int m_markMany, .ref a_there, .ref a_tried, .ref a_best, .ref a_found, .int m_thereMany, .int m_foundMany, .int m_orderHow, .int m_orderRing, .int m_orderMany, .int m_hasBest, .long m_bestTop, .long m_bestBy, .ref a_weights, .ref a_shared, .int m_random, .int m_truePlace, .int m_trueWay, .int m_seconds, .int m_done, .int m_feelings, .int m_tries, .int m_leftOver, .int m_playDoor, .int m_playRing, .int m_isOpen, .int m_isOver, .int m_wasTried, .int m_hasPlayed, .ref a_feltNow, .ref a_last, .ref a_kept, .int m_hasSeconds, .int m_hasTurned, .int m_hasRound, .ref a_hasFeels, .ref a_isOn, .int m_firstAct, .long m_meanTop, .long m_meanBy, .ref a_order, .int m_rowMany, .int m_newSteps])), (a_c, .inl (cA.1 0, 1825, .inl g_c))]) 0 0 := by
  have hk_1 : (1 : Int32).toInt = 1 := by decide +kernel
  have hkl_0 : (0 : Int64).toInt = 0 := by decide +kernel
  refine z_start2z (own := RX12) (by decide) (Nat.le_of_ble_eq_true rfl) rfl ?_
  intro p e s m args below meth c A ls Q hx hb hml hts hown hK hE hT hP hD hS hA hl hret
  have hl : lv_has ls 3 [(0, .ref h0), (1, .long k)] := hl
  refine lv_lload_n hx hb dX12_isKey_0 rfl (lv_at hl 1 rfl) ?_
  refine lv_lconst (v := 0) hx hb dX12_isKey_1 (by decide) ?_
  refine lv_aload_n hx hb dX12_isKey_2 rfl (lv_at hl 0 rfl) ?_
  refine va_get (D := G) (ci := 12) (v := .ref a_c) (C := RX12) (T := TX12) (N := 65) hx hb hts inT12 hown hK hP 0 rfl rfl 20 (by decide) (hts _ tw_1905) (fun _ h9 => h9) rfl dX12_isKey_3 ?_
  refine lv_iconst (v := 1) hx hb dX12_isKey_6 (by decide) ?_
  refine va_iald hx hb hK hP 1 0 rfl rfl (z_in (i := 1) (n := 1825) (by decide +kernel) (by decide +kernel)) dX12_isKey_7 ?_
  refine lv_topi (fun x_1 he_x_1 => ?_)
  have hr_x_1 := z_ctk hC_g_c he_x_1 (k := 1) (lo := 0) (hi := 10) (by decide +kernel) (by decide +kernel) (by decide +kernel)
  have hv_x_1 := z_cv he_x_1 (k := 1) (by decide +kernel)
  refine lv_iconst (v := 1) hx hb dX12_isKey_8 (by decide) ?_
  refine lv_isub hx hb dX12_isKey_9 ?_
  refine lv_topi (fun x_2 he_x_2 => ?_)
  have hq_x_2 := z_subq he_x_2 (rfl : x_1.toInt = _) hk_1 (by omega) (by omega)
  refine lv_i2l (v := (x_2).toInt64) hx hb dX12_isKey_10 rfl ?_
  refine lv_topl (fun x_3 he_x_3 => ?_)
  have hq_x_3 := z_i2l he_x_3
  refine z_callSi (As := [.long k, .long 0, .long x_3]) (rest := []) (wr := [(h0, .inr (12, [.int m_status, .int m_thrown, .long m_above, .long m_under, .ref a_traySort, .ref a_trayMany, .ref a_numbers, .ref a_tape, .int m_taped, .int m_textEnd, .int m_faultKind, .int m_faultAt, .int m_bad, .int m_badAt, .int m_token, .int m_at, .int m_behind, .int m_number, .int m_letters, .long m_word, .ref a_c, .ref a_words, .int m_markMany, .ref a_there, .ref a_tried, .ref a_best, .ref a_found, .int m_thereMany, .int m_foundMany, .int m_orderHow, .int m_orderRing, .int m_orderMany, .int m_hasBest, .long m_bestTop, .long m_bestBy, .ref a_weights, .ref a_shared, .int m_random, .int m_truePlace, .int m_trueWay, .int m_seconds, .int m_done, .int m_feelings, .int m_tries, .int m_leftOver, .int m_playDoor, .int m_playRing, .int m_isOpen, .int m_isOver, .int m_wasTried, .int m_hasPlayed, .ref a_feltNow, .ref a_last, .ref a_kept, .int m_hasSeconds, .int m_hasTurned, .int m_hasRound, .ref a_hasFeels, .ref a_isOn, .int m_firstAct, .long m_meanTop, .long m_meanBy, .ref a_order, .int m_rowMany, .int m_newSteps])), (a_c, .inl (cA.1 0, 1825, .inl g_c))]) ⟨hx, hb, hml, hown, hts⟩ hK hE hT hP hD hS hA (r_isIn l G cA k 0 x_3) lk_RX12_117 ⟨rfl, rfl⟩ ⟨Nat.le_of_ble_eq_true rfl, Nat.le_of_ble_eq_true rfl⟩ [] [0, 1] rfl rfl (by decide) rfl hl.1 rfl (lv_room (Nat.le_of_ble_eq_true rfl)) dX12_isKey_11 ⟨Nat.le_of_ble_eq_true rfl, Nat.le_of_ble_eq_true rfl⟩ (fun r_4 u_5 H locs hw hP hD hS => ?_)
  obtain ⟨he_r_4, hw⟩ := hw
  rcases hw with ⟨rfl, hf_7⟩ | ⟨rfl, hf_8⟩
  · skip
    have hpost : ((0 : Int32) = 0 ∧ True) ∨ ((0 : Int32) = 1 ∧ (0 ≤ k.toInt ∧ k.toInt < (g_c 1).toInt) ∧ (k.toInt ≤ 9)) := (Or.inl ⟨rfl, trivial⟩)
    have hX_9 : F_r_isKey g_c k = ((0 : Int32) : Int32) := by
      refine (F_r_isKey_s ..).trans ?_
      try (extract_lets -merge -useContext +onlyGivenNames y9; have e9 : x_1 = y9 := (by first | exact he_x_1 | exact he_x_1.symm); clear_value y9; subst e9)
      try (extract_lets -merge -useContext +onlyGivenNames y9; have e9 : x_2 = y9 := (by first | exact he_x_2 | exact he_x_2.symm); clear_value y9; subst e9)
      try (extract_lets -merge -useContext +onlyGivenNames y9; have e9 : x_3 = y9 := (by first | exact he_x_3 | exact he_x_3.symm); clear_value y9; subst e9)
      extract_lets -merge -useContext +onlyGivenNames w9 y9; have e9 : (0 : Int32) = w9 := he_r_4; clear_value w9; subst e9
      refine (if_pos rfl).trans ?_
      exact rfl
    exact hret _ _ _ _ _ _ () [0, 1] hP hD hS rfl (by decide) dX12_isKey_14 (Or.inl rfl) ⟨(congrArg (fun z9 => z9) hX_9).symm, hpost⟩
  · skip
    have hpost : ((1 : Int32) = 0 ∧ True) ∨ ((1 : Int32) = 1 ∧ (0 ≤ k.toInt ∧ k.toInt < (g_c 1).toInt) ∧ (k.toInt ≤ 9)) := (Or.inr ⟨rfl, ⟨(by omega), (by omega)⟩⟩)
    have hX_10 : F_r_isKey g_c k = ((1 : Int32) : Int32) := by
      refine (F_r_isKey_s ..).trans ?_
      try (extract_lets -merge -useContext +onlyGivenNames y9; have e9 : x_1 = y9 := (by first | exact he_x_1 | exact he_x_1.symm); clear_value y9; subst e9)
      try (extract_lets -merge -useContext +onlyGivenNames y9; have e9 : x_2 = y9 := (by first | exact he_x_2 | exact he_x_2.symm); clear_value y9; subst e9)
      try (extract_lets -merge -useContext +onlyGivenNames y9; have e9 : x_3 = y9 := (by first | exact he_x_3 | exact he_x_3.symm); clear_value y9; subst e9)
      extract_lets -merge -useContext +onlyGivenNames w9 y9; have e9 : (1 : Int32) = w9 := he_r_4; clear_value w9; subst e9
      refine (if_neg (show ¬ (1 : Int32) = 0 by decide)).trans ?_
      exact rfl
    exact hret _ _ _ _ _ _ () [0, 1] hP hD hS rfl (by decide) dX12_isKey_14 (Or.inr rfl) ⟨(congrArg (fun z9 => z9) hX_10).symm, hpost⟩
set_option maxHeartbeats 40000000 in
set_option maxRecDepth 100000 in
theorem r_isStep (l : Launch) (G : va_G) (cA : zCA) (h0 : Nat) (m_status : Int32) (m_thrown : Int32) (m_above : Int64) (m_under : Int64) (a_traySort : Nat) (a_trayMany : Nat) (a_numbers : Nat) (a_tape : Nat) (m_taped : Int32) (m_textEnd : Int32) (m_faultKind : Int32) (m_faultAt : Int32) (m_bad : Int32) (m_badAt : Int32) (m_token : Int32) (m_at : Int32) (m_behind : Int32) (m_number : Int32) (m_letters : Int32) (m_word : Int64) (a_c : Nat) (a_words : Nat) (m_markMany : Int32) (a_there : Nat) (a_tried : Nat) (a_best : Nat) (a_found : Nat) (m_thereMany : Int32) (m_foundMany : Int32) (m_orderHow : Int32) (m_orderRing : Int32) (m_orderMany : Int32) (m_hasBest : Int32) (m_bestTop : Int64) (m_bestBy : Int64) (a_weights : Nat) (a_shared : Nat) (m_random : Int32) (m_truePlace : Int32) (m_trueWay : Int32) (m_seconds : Int32) (m_done : Int32) (m_feelings : Int32) (m_tries : Int32) (m_leftOver : Int32) (m_playDoor : Int32) (m_playRing : Int32) (m_isOpen : Int32) (m_isOver : Int32) (m_wasTried : Int32) (m_hasPlayed : Int32) (a_feltNow : Nat) (a_last : Nat) (a_kept : Nat) (m_hasSeconds : Int32) (m_hasTurned : Int32) (m_hasRound : Int32) (a_hasFeels : Nat) (a_isOn : Nat) (m_firstAct : Int32) (m_meanTop : Int64) (m_meanBy : Int64) (a_order : Nat) (m_rowMany : Int32) (m_newSteps : Int32) (g_c : Nat → Int32) (f : Int32) (k : Int32) (hC_g_c : zC g_c) : zCi l yX12_isStep cX12_isStep 3 (some .boolean) ({ frames := 2, cells := 0, slots := 0, locals := 46 }) G cA [.ref h0, .int f, .int k] [(h0, .inr (12, [.int m_status, .int m_thrown, .long m_above, .long m_under, .ref a_traySort, .ref a_trayMany, .ref a_numbers, .ref a_tape, .int m_taped, .int m_textEnd, .int m_faultKind, .int m_faultAt, .int m_bad, .int m_badAt, .int m_token, .int m_at, .int m_behind, .int m_number, .int m_letters, .long m_word, .ref a_c, .ref a_words, .int m_markMany, .ref a_there, .ref a_tried, .ref a_best, .ref a_found, .int m_thereMany, .int m_foundMany, .int m_orderHow, .int m_orderRing, .int m_orderMany, .int m_hasBest, .long m_bestTop, .long m_bestBy, .ref a_weights, .ref a_shared, .int m_random, .int m_truePlace, .int m_trueWay, .int m_seconds, .int m_done, .int m_feelings, .int m_tries, .int m_leftOver, .int m_playDoor, .int m_playRing, .int m_isOpen, .int m_isOver, .int m_wasTried, .int m_hasPlayed, .ref a_feltNow, .ref a_last, .ref a_kept, .int m_hasSeconds, .int m_hasTurned, .int m_hasRound, .ref a_hasFeels, .ref a_isOn, .int m_firstAct, .long m_meanTop, .long m_meanBy, .ref a_order, .int m_rowMany, .int m_newSteps])), (a_c, .inl (cA.1 0, 1825, .inl g_c))] (S := Unit) (fun (r : Int32) (u : Unit) => (r = (F_r_isStep g_c f k)) ∧ ((r = 0 ∧ True) ∨ (r = 1 ∧ (0 ≤ f.toInt ∧ f.toInt < (g_c 0).toInt) ∧ (f.toInt ≤ 2 ∧ 0 ≤ k.toInt ∧ k.toInt ≤ 3)))) (fun (u : Unit) => [(h0, .inr (12, [.int m_status, .int m_thrown, .long m_above, .long m_under, .ref a_traySort, .ref a_trayMany, .ref a_numbers, .ref a_tape, .int m_taped, .int m_textEnd, .int m_faultKind, .int m_faultAt, .int m_bad, .int m_badAt, .int m_token, .int m_at, .int m_behind, .int m_number, .int m_letters, .long m_word, .ref a_c, .ref a_words, .int m_markMany, .ref a_there, .ref a_tried, .ref a_best, .ref a_found, .int m_thereMany, .int m_foundMany, .int m_orderHow, .int m_orderRing, .int m_orderMany, .int m_hasBest, .long m_bestTop, .long m_bestBy, .ref a_weights, .ref a_shared, .int m_random, .int m_truePlace, .int m_trueWay, .int m_seconds, .int m_done, .int m_feelings, .int m_tries, .int m_leftOver, .int m_playDoor, .int m_playRing, .int m_isOpen, .int m_isOver, .int m_wasTried, .int m_hasPlayed, .ref a_feltNow, .ref a_last, .ref a_kept, .int m_hasSeconds, .int m_hasTurned, .int m_hasRound, .ref a_hasFeels, .ref a_isOn, .int m_firstAct, .long m_meanTop, .long m_meanBy, .ref a_order, .int m_rowMany, .int m_newSteps])), (a_c, .inl (cA.1 0, 1825, .inl g_c))]) 0 0 := by
  have hk_1 : (1 : Int32).toInt = 1 := by decide +kernel
  have hk_11 : (11 : Int32).toInt = 11 := by decide +kernel
  have hkl_0 : (0 : Int64).toInt = 0 := by decide +kernel
  refine z_start2z (own := RX12) (by decide) (Nat.le_of_ble_eq_true rfl) rfl ?_
  intro p e s m args below meth c A ls Q hx hb hml hts hown hK hE hT hP hD hS hA hl hret
  have hl : lv_has ls 3 [(0, .ref h0), (1, .int f), (2, .int k)] := hl
  refine lv_aload_n hx hb dX12_isStep_0 rfl (lv_at hl 0 rfl) ?_
  refine lv_iload_n hx hb dX12_isStep_1 rfl (lv_at hl 1 rfl) ?_
  refine z_callVi (As := [.int f]) (rest := []) (wr := []) ⟨hx, hb, hml, hown, hts⟩ hK hE hT hP hD hS hA (r_isFeature l G cA h0 m_status m_thrown m_above m_under a_traySort a_trayMany a_numbers a_tape m_taped m_textEnd m_faultKind m_faultAt m_bad m_badAt m_token m_at m_behind m_number m_letters m_word a_c a_words m_markMany a_there a_tried a_best a_found m_thereMany m_foundMany m_orderHow m_orderRing m_orderMany m_hasBest m_bestTop m_bestBy a_weights a_shared m_random m_truePlace m_trueWay m_seconds m_done m_feelings m_tries m_leftOver m_playDoor m_playRing m_isOpen m_isOver m_wasTried m_hasPlayed a_feltNow a_last a_kept m_hasSeconds m_hasTurned m_hasRound a_hasFeels a_isOn m_firstAct m_meanTop m_meanBy a_order m_rowMany m_newSteps g_c f hC_g_c) lk_RX12_264 ⟨rfl, rfl⟩ ⟨Nat.le_of_ble_eq_true rfl, Nat.le_of_ble_eq_true rfl⟩ 12 rfl rfl rfl [0, 1] [] rfl rfl (by decide) rfl hl.1 rfl (lv_room (Nat.le_of_ble_eq_true rfl)) dX12_isStep_2 ⟨Nat.le_of_ble_eq_true rfl, Nat.le_of_ble_eq_true rfl⟩ (fun r_1 u_2 H locs hw hP hD hS => ?_)
  obtain ⟨he_r_1, hw⟩ := hw
  rcases hw with ⟨rfl, -⟩ | ⟨rfl, hf_4, hf_5⟩
  · skip
    refine lv_if_eq (tgt := 33) hx hb dX12_isStep_5 (by decide) (fun _ => ?_) (fun h9 => absurd (by decide +kernel) h9)
    refine lv_iconst (v := 0) hx hb dX12_isStep_33 (by decide) ?_
    have hpost : ((0 : Int32) = 0 ∧ True) ∨ ((0 : Int32) = 1 ∧ (0 ≤ f.toInt ∧ f.toInt < (g_c 0).toInt) ∧ (f.toInt ≤ 2 ∧ 0 ≤ k.toInt ∧ k.toInt ≤ 3)) := (Or.inl ⟨rfl, trivial⟩)
    have hX_6 : F_r_isStep g_c f k = ((0 : Int32) : Int32) := by
      refine (F_r_isStep_s ..).trans ?_
      extract_lets -merge -useContext +onlyGivenNames w9 y9; have e9 : (0 : Int32) = w9 := he_r_1; clear_value w9; subst e9
      refine (if_pos rfl).trans ?_
      exact rfl
    exact hret _ _ _ _ _ _ () [0, 1] hP hD hS rfl (by decide) dX12_isStep_34 (Or.inl rfl) ⟨(congrArg (fun z9 => z9) hX_6).symm, hpost⟩
  · skip
    refine lv_if_eq (tgt := 33) hx hb dX12_isStep_5 (by decide) (fun h9 => absurd h9 (by decide +kernel)) (fun _ => ?_)
    refine lv_iload_n hx hb dX12_isStep_8 rfl (lv_at hl 2 rfl) ?_
    refine lv_i2l (v := (k).toInt64) hx hb dX12_isStep_9 rfl ?_
    refine lv_topl (fun x_7 he_x_7 => ?_)
    have hq_x_7 := z_i2l he_x_7
    have hL_k := z_full k
    refine lv_lconst (v := 0) hx hb dX12_isStep_10 (by decide) ?_
    refine lv_aload_n hx hb dX12_isStep_11 rfl (lv_at hl 0 rfl) ?_
    refine va_get (D := G) (ci := 12) (v := .ref a_c) (C := RX12) (T := TX12) (N := 65) hx hb hts inT12 hown hK hP 0 rfl rfl 20 (by decide) (hts _ tw_1905) (fun _ h9 => h9) rfl dX12_isStep_12 ?_
    refine lv_bipush (v := 11) hx hb dX12_isStep_15 (by decide) ?_
    refine lv_iload_n hx hb dX12_isStep_17 rfl (lv_at hl 1 rfl) ?_
    refine lv_iadd hx hb dX12_isStep_18 ?_
    refine lv_topi (fun x_8 he_x_8 => ?_)
    have hq_x_8 := z_addq he_x_8 hk_11 (rfl : f.toInt = _) (by omega) (by omega)
    refine va_iald hx hb hK hP 1 0 rfl rfl (z_inN (by omega) (by omega)) dX12_isStep_19 ?_
    refine lv_topi (fun x_9 he_x_9 => ?_)
    have hr_x_9 := z_ct hC_g_c he_x_9 (a := 11) (b := 13) (lo := 0) (hi := 4) (by decide +kernel) (by decide) (by omega) (by omega)
    refine lv_iconst (v := 1) hx hb dX12_isStep_20 (by decide) ?_
    refine lv_isub hx hb dX12_isStep_21 ?_
    refine lv_topi (fun x_10 he_x_10 => ?_)
    have hq_x_10 := z_subq he_x_10 (rfl : x_9.toInt = _) hk_1 (by omega) (by omega)
    refine lv_i2l (v := (x_10).toInt64) hx hb dX12_isStep_22 rfl ?_
    refine lv_topl (fun x_11 he_x_11 => ?_)
    have hq_x_11 := z_i2l he_x_11
    refine z_callSi (As := [.long x_7, .long 0, .long x_11]) (rest := []) (wr := [(h0, .inr (12, [.int m_status, .int m_thrown, .long m_above, .long m_under, .ref a_traySort, .ref a_trayMany, .ref a_numbers, .ref a_tape, .int m_taped, .int m_textEnd, .int m_faultKind, .int m_faultAt, .int m_bad, .int m_badAt, .int m_token, .int m_at, .int m_behind, .int m_number, .int m_letters, .long m_word, .ref a_c, .ref a_words, .int m_markMany, .ref a_there, .ref a_tried, .ref a_best, .ref a_found, .int m_thereMany, .int m_foundMany, .int m_orderHow, .int m_orderRing, .int m_orderMany, .int m_hasBest, .long m_bestTop, .long m_bestBy, .ref a_weights, .ref a_shared, .int m_random, .int m_truePlace, .int m_trueWay, .int m_seconds, .int m_done, .int m_feelings, .int m_tries, .int m_leftOver, .int m_playDoor, .int m_playRing, .int m_isOpen, .int m_isOver, .int m_wasTried, .int m_hasPlayed, .ref a_feltNow, .ref a_last, .ref a_kept, .int m_hasSeconds, .int m_hasTurned, .int m_hasRound, .ref a_hasFeels, .ref a_isOn, .int m_firstAct, .long m_meanTop, .long m_meanBy, .ref a_order, .int m_rowMany, .int m_newSteps])), (a_c, .inl (cA.1 0, 1825, .inl g_c))]) ⟨hx, hb, hml, hown, hts⟩ hK hE hT hP hD hS hA (r_isIn l G cA x_7 0 x_11) lk_RX12_117 ⟨rfl, rfl⟩ ⟨Nat.le_of_ble_eq_true rfl, Nat.le_of_ble_eq_true rfl⟩ [] [0, 1] rfl rfl (by decide) rfl hl.1 rfl (lv_room (Nat.le_of_ble_eq_true rfl)) dX12_isStep_23 ⟨Nat.le_of_ble_eq_true rfl, Nat.le_of_ble_eq_true rfl⟩ (fun r_12 u_13 H locs hw hP hD hS => ?_)
    obtain ⟨he_r_12, hw⟩ := hw
    rcases hw with ⟨rfl, hf_15⟩ | ⟨rfl, hf_16⟩
    · skip
      refine lv_if_eq (tgt := 33) hx hb dX12_isStep_26 (by decide) (fun _ => ?_) (fun h9 => absurd (by decide +kernel) h9)
      refine lv_iconst (v := 0) hx hb dX12_isStep_33 (by decide) ?_
      have hpost : ((0 : Int32) = 0 ∧ True) ∨ ((0 : Int32) = 1 ∧ (0 ≤ f.toInt ∧ f.toInt < (g_c 0).toInt) ∧ (f.toInt ≤ 2 ∧ 0 ≤ k.toInt ∧ k.toInt ≤ 3)) := (Or.inl ⟨rfl, trivial⟩)
      have hX_17 : F_r_isStep g_c f k = ((0 : Int32) : Int32) := by
        refine (F_r_isStep_s ..).trans ?_
        extract_lets -merge -useContext +onlyGivenNames w9 y9; have e9 : (1 : Int32) = w9 := he_r_1; clear_value w9; subst e9
        refine (if_neg (show ¬ (1 : Int32) = 0 by decide)).trans ?_
        try (extract_lets -merge -useContext +onlyGivenNames y9; have e9 : x_7 = y9 := (by first | exact he_x_7 | exact he_x_7.symm); clear_value y9; subst e9)
        try (extract_lets -merge -useContext +onlyGivenNames y9; have e9 : x_8 = y9 := (by first | exact he_x_8 | exact he_x_8.symm); clear_value y9; subst e9)
        try (extract_lets -merge -useContext +onlyGivenNames y9; have e9 : x_9 = y9 := (by first | exact he_x_9 | exact he_x_9.symm); clear_value y9; subst e9)
        try (extract_lets -merge -useContext +onlyGivenNames y9; have e9 : x_10 = y9 := (by first | exact he_x_10 | exact he_x_10.symm); clear_value y9; subst e9)
        try (extract_lets -merge -useContext +onlyGivenNames y9; have e9 : x_11 = y9 := (by first | exact he_x_11 | exact he_x_11.symm); clear_value y9; subst e9)
        extract_lets -merge -useContext +onlyGivenNames w9 y9; have e9 : (0 : Int32) = w9 := he_r_12; clear_value w9; subst e9
        refine (if_pos rfl).trans ?_
        exact rfl
      exact hret _ _ _ _ _ _ () [0, 1] hP hD hS rfl (by decide) dX12_isStep_34 (Or.inl rfl) ⟨(congrArg (fun z9 => z9) hX_17).symm, hpost⟩
    · skip
      refine lv_if_eq (tgt := 33) hx hb dX12_isStep_26 (by decide) (fun h9 => absurd h9 (by decide +kernel)) (fun _ => ?_)
      refine lv_iconst (v := 1) hx hb dX12_isStep_29 (by decide) ?_
      refine lv_goto (tgt := 34) hx hb dX12_isStep_30 (by decide) ?_
      have hpost : ((1 : Int32) = 0 ∧ True) ∨ ((1 : Int32) = 1 ∧ (0 ≤ f.toInt ∧ f.toInt < (g_c 0).toInt) ∧ (f.toInt ≤ 2 ∧ 0 ≤ k.toInt ∧ k.toInt ≤ 3)) := (Or.inr ⟨rfl, ⟨(by omega), (by omega)⟩⟩)
      have hX_18 : F_r_isStep g_c f k = ((1 : Int32) : Int32) := by
        refine (F_r_isStep_s ..).trans ?_
        extract_lets -merge -useContext +onlyGivenNames w9 y9; have e9 : (1 : Int32) = w9 := he_r_1; clear_value w9; subst e9
        refine (if_neg (show ¬ (1 : Int32) = 0 by decide)).trans ?_
        try (extract_lets -merge -useContext +onlyGivenNames y9; have e9 : x_7 = y9 := (by first | exact he_x_7 | exact he_x_7.symm); clear_value y9; subst e9)
        try (extract_lets -merge -useContext +onlyGivenNames y9; have e9 : x_8 = y9 := (by first | exact he_x_8 | exact he_x_8.symm); clear_value y9; subst e9)
        try (extract_lets -merge -useContext +onlyGivenNames y9; have e9 : x_9 = y9 := (by first | exact he_x_9 | exact he_x_9.symm); clear_value y9; subst e9)
        try (extract_lets -merge -useContext +onlyGivenNames y9; have e9 : x_10 = y9 := (by first | exact he_x_10 | exact he_x_10.symm); clear_value y9; subst e9)
        try (extract_lets -merge -useContext +onlyGivenNames y9; have e9 : x_11 = y9 := (by first | exact he_x_11 | exact he_x_11.symm); clear_value y9; subst e9)
        extract_lets -merge -useContext +onlyGivenNames w9 y9; have e9 : (1 : Int32) = w9 := he_r_12; clear_value w9; subst e9
        refine (if_neg (show ¬ (1 : Int32) = 0 by decide)).trans ?_
        exact rfl
      exact hret _ _ _ _ _ _ () [0, 1] hP hD hS rfl (by decide) dX12_isStep_34 (Or.inr rfl) ⟨(congrArg (fun z9 => z9) hX_18).symm, hpost⟩
set_option maxHeartbeats 40000000 in
set_option maxRecDepth 100000 in
theorem r_canOpen (l : Launch) (G : va_G) (cA : zCA) (h0 : Nat) (m_status : Int32) (m_thrown : Int32) (m_above : Int64) (m_under : Int64) (a_traySort : Nat) (a_trayMany : Nat) (a_numbers : Nat) (a_tape : Nat) (m_taped : Int32) (m_textEnd : Int32) (m_faultKind : Int32) (m_faultAt : Int32) (m_bad : Int32) (m_badAt : Int32) (m_token : Int32) (m_at : Int32) (m_behind : Int32) (m_number : Int32) (m_letters : Int32) (m_word : Int64) (a_c : Nat) (a_words : Nat) (m_markMany : Int32) (a_there : Nat) (a_tried : Nat) (a_best : Nat) (a_found : Nat) (m_thereMany : Int32) (m_foundMany : Int32) (m_orderHow : Int32) (m_orderRing : Int32) (m_orderMany : Int32) (m_hasBest : Int32) (m_bestTop : Int64) (m_bestBy : Int64) (a_weights : Nat) (a_shared : Nat) (m_random : Int32) (m_truePlace : Int32) (m_trueWay : Int32) (m_seconds : Int32) (m_done : Int32) (m_feelings : Int32) (m_tries : Int32) (m_leftOver : Int32) (m_playDoor : Int32) (m_playRing : Int32) (m_isOpen : Int32) (m_isOver : Int32) (m_wasTried : Int32) (m_hasPlayed : Int32) (a_feltNow : Nat) (a_last : Nat) (a_kept : Nat) (m_hasSeconds : Int32) (m_hasTurned : Int32) (m_hasRound : Int32) (a_hasFeels : Nat) (a_isOn : Nat) (m_firstAct : Int32) (m_meanTop : Int64) (m_meanBy : Int64) (a_order : Nat) (m_rowMany : Int32) (m_newSteps : Int32) (g_c : Nat → Int32) (k : Int32) (d : Int32) (hr_k : 0 ≤ k.toInt ∧ k.toInt ≤ 9) (hr_d : 0 ≤ d.toInt ∧ d.toInt ≤ 4) (hC_g_c : zC g_c) : zCi l yX12_canOpen cX12_canOpen 3 (some .boolean) ({ frames := 0, cells := 0, slots := 0, locals := 0 }) G cA [.ref h0, .int k, .int d] [(h0, .inr (12, [.int m_status, .int m_thrown, .long m_above, .long m_under, .ref a_traySort, .ref a_trayMany, .ref a_numbers, .ref a_tape, .int m_taped, .int m_textEnd, .int m_faultKind, .int m_faultAt, .int m_bad, .int m_badAt, .int m_token, .int m_at, .int m_behind, .int m_number, .int m_letters, .long m_word, .ref a_c, .ref a_words, .int m_markMany, .ref a_there, .ref a_tried, .ref a_best, .ref a_found, .int m_thereMany, .int m_foundMany, .int m_orderHow, .int m_orderRing, .int m_orderMany, .int m_hasBest, .long m_bestTop, .long m_bestBy, .ref a_weights, .ref a_shared, .int m_random, .int m_truePlace, .int m_trueWay, .int m_seconds, .int m_done, .int m_feelings, .int m_tries, .int m_leftOver, .int m_playDoor, .int m_playRing, .int m_isOpen, .int m_isOver, .int m_wasTried, .int m_hasPlayed, .ref a_feltNow, .ref a_last, .ref a_kept, .int m_hasSeconds, .int m_hasTurned, .int m_hasRound, .ref a_hasFeels, .ref a_isOn, .int m_firstAct, .long m_meanTop, .long m_meanBy, .ref a_order, .int m_rowMany, .int m_newSteps])), (a_c, .inl (cA.1 0, 1825, .inl g_c))] (S := Unit) (fun (r : Int32) (u : Unit) => (r = (F_r_canOpen g_c k d)) ∧ ((r = 0 ∧ ((zcn g_c k d.toInt).toInt ≠ 1)) ∨ (r = 1 ∧ ((zcn g_c k d.toInt).toInt = 1)))) (fun (u : Unit) => [(h0, .inr (12, [.int m_status, .int m_thrown, .long m_above, .long m_under, .ref a_traySort, .ref a_trayMany, .ref a_numbers, .ref a_tape, .int m_taped, .int m_textEnd, .int m_faultKind, .int m_faultAt, .int m_bad, .int m_badAt, .int m_token, .int m_at, .int m_behind, .int m_number, .int m_letters, .long m_word, .ref a_c, .ref a_words, .int m_markMany, .ref a_there, .ref a_tried, .ref a_best, .ref a_found, .int m_thereMany, .int m_foundMany, .int m_orderHow, .int m_orderRing, .int m_orderMany, .int m_hasBest, .long m_bestTop, .long m_bestBy, .ref a_weights, .ref a_shared, .int m_random, .int m_truePlace, .int m_trueWay, .int m_seconds, .int m_done, .int m_feelings, .int m_tries, .int m_leftOver, .int m_playDoor, .int m_playRing, .int m_isOpen, .int m_isOver, .int m_wasTried, .int m_hasPlayed, .ref a_feltNow, .ref a_last, .ref a_kept, .int m_hasSeconds, .int m_hasTurned, .int m_hasRound, .ref a_hasFeels, .ref a_isOn, .int m_firstAct, .long m_meanTop, .long m_meanBy, .ref a_order, .int m_rowMany, .int m_newSteps])), (a_c, .inl (cA.1 0, 1825, .inl g_c))]) 0 0 := by
  have hk_1 : (1 : Int32).toInt = 1 := by decide +kernel
  have hk_133 : (133 : Int32).toInt = 133 := by decide +kernel
  refine z_start2z (own := RX12) (by decide) (Nat.le_of_ble_eq_true rfl) rfl ?_
  intro p e s m args below meth c A ls Q hx hb hml hts hown hK hE hT hP hD hS hA hl hret
  have hl : lv_has ls 3 [(0, .ref h0), (1, .int k), (2, .int d)] := hl
  refine lv_aload_n hx hb dX12_canOpen_0 rfl (lv_at hl 0 rfl) ?_
  refine va_get (D := G) (ci := 12) (v := .ref a_c) (C := RX12) (T := TX12) (N := 65) hx hb hts inT12 hown hK hP 0 rfl rfl 20 (by decide) (hts _ tw_1905) (fun _ h9 => h9) rfl dX12_canOpen_1 ?_
  refine lv_sipush (v := 133) hx hb dX12_canOpen_4 (by decide) ?_
  refine lv_iload_n hx hb dX12_canOpen_7 rfl (lv_at hl 2 rfl) ?_
  refine lv_iadd hx hb dX12_canOpen_8 ?_
  refine lv_topi (fun x_1 he_x_1 => ?_)
  have hq_x_1 := z_addq he_x_1 hk_133 (rfl : d.toInt = _) (by omega) (by omega)
  refine va_iald hx hb hK hP 1 0 rfl rfl (z_inN (by omega) (by omega)) dX12_canOpen_9 ?_
  refine lv_topi (fun x_2 he_x_2 => ?_)
  refine lv_iload_n hx hb dX12_canOpen_10 rfl (lv_at hl 1 rfl) ?_
  refine lv_ishr hx hb dX12_canOpen_11 ?_
  have hL_x_2 := z_full x_2
  refine lv_topi (fun x_3 he_x_3 => ?_)
  refine lv_iconst (v := 1) hx hb dX12_canOpen_12 (by decide) ?_
  refine lv_iand hx hb dX12_canOpen_13 ?_
  have hL_x_3 := z_full x_3
  refine lv_topi (fun x_4 he_x_4 => ?_)
  have hr_x_4 := z_andr he_x_4 hk_1 (by decide)
  refine lv_iconst (v := 1) hx hb dX12_canOpen_14 (by decide) ?_
  refine lv_icmp_ne (tgt := 22) hx hb dX12_canOpen_15 (by decide) (fun c_5 => ?_) (fun c_5 => ?_)
  · have b_6 := z_fneT c_5
    refine lv_iconst (v := 0) hx hb dX12_canOpen_22 (by decide) ?_
    have hpost : ((0 : Int32) = 0 ∧ ((zcn g_c k d.toInt).toInt ≠ 1)) ∨ ((0 : Int32) = 1 ∧ ((zcn g_c k d.toInt).toInt = 1)) := (Or.inl ⟨rfl, (by rw [← zcn_of he_x_2 (by omega) (by omega) he_x_3 he_x_4]; omega)⟩)
    have hX_7 : F_r_canOpen g_c k d = ((0 : Int32) : Int32) := by
      refine (F_r_canOpen_s ..).trans ?_
      try (extract_lets -merge -useContext +onlyGivenNames y9; have e9 : x_1 = y9 := (by first | exact he_x_1 | exact he_x_1.symm); clear_value y9; subst e9)
      try (extract_lets -merge -useContext +onlyGivenNames y9; have e9 : x_2 = y9 := (by first | exact he_x_2 | exact he_x_2.symm); clear_value y9; subst e9)
      try (extract_lets -merge -useContext +onlyGivenNames y9; have e9 : x_3 = y9 := (by first | exact he_x_3 | exact he_x_3.symm); clear_value y9; subst e9)
      try (extract_lets -merge -useContext +onlyGivenNames y9; have e9 : x_4 = y9 := (by first | exact he_x_4 | exact he_x_4.symm); clear_value y9; subst e9)
      refine (if_neg c_5).trans ?_
      exact rfl
    exact hret _ _ _ _ _ _ () [0, 1] hP hD hS rfl (by decide) dX12_canOpen_23 (Or.inl rfl) ⟨(congrArg (fun z9 => z9) hX_7).symm, hpost⟩
  · have b_8 := z_feqF c_5
    refine lv_iconst (v := 1) hx hb dX12_canOpen_18 (by decide) ?_
    refine lv_goto (tgt := 23) hx hb dX12_canOpen_19 (by decide) ?_
    have hpost : ((1 : Int32) = 0 ∧ ((zcn g_c k d.toInt).toInt ≠ 1)) ∨ ((1 : Int32) = 1 ∧ ((zcn g_c k d.toInt).toInt = 1)) := (Or.inr ⟨rfl, (by rw [← zcn_of he_x_2 (by omega) (by omega) he_x_3 he_x_4]; omega)⟩)
    have hX_9 : F_r_canOpen g_c k d = ((1 : Int32) : Int32) := by
      refine (F_r_canOpen_s ..).trans ?_
      try (extract_lets -merge -useContext +onlyGivenNames y9; have e9 : x_1 = y9 := (by first | exact he_x_1 | exact he_x_1.symm); clear_value y9; subst e9)
      try (extract_lets -merge -useContext +onlyGivenNames y9; have e9 : x_2 = y9 := (by first | exact he_x_2 | exact he_x_2.symm); clear_value y9; subst e9)
      try (extract_lets -merge -useContext +onlyGivenNames y9; have e9 : x_3 = y9 := (by first | exact he_x_3 | exact he_x_3.symm); clear_value y9; subst e9)
      try (extract_lets -merge -useContext +onlyGivenNames y9; have e9 : x_4 = y9 := (by first | exact he_x_4 | exact he_x_4.symm); clear_value y9; subst e9)
      refine (if_pos c_5).trans ?_
      exact rfl
    exact hret _ _ _ _ _ _ () [0, 1] hP hD hS rfl (by decide) dX12_canOpen_23 (Or.inr rfl) ⟨(congrArg (fun z9 => z9) hX_9).symm, hpost⟩
