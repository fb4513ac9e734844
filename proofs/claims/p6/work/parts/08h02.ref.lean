set_option maxHeartbeats 4000000 in
set_option maxRecDepth 100000 in
theorem r_readOld_0 (l : Launch) (G : va_G) (cA : zCA) (h0 : Nat) (m_status : Int32) (m_thrown : Int32) (m_above : Int64) (m_under : Int64) (a_traySort : Nat) (a_trayMany : Nat) (a_numbers : Nat) (a_tape : Nat) (m_taped : Int32) (m_textEnd : Int32) (m_faultKind : Int32) (m_faultAt : Int32) (m_bad : Int32) (m_badAt : Int32) (m_token : Int32) (m_at : Int32) (m_behind : Int32) (m_number : Int32) (m_letters : Int32) (m_word : Int64) (a_c : Nat) (a_words : Nat) (m_markMany : Int32) (a_there : Nat) (a_tried : Nat) (a_best : Nat) (a_found : Nat) (m_thereMany : Int32) (m_foundMany : Int32) (m_orderHow : Int32) (m_orderRing : Int32) (m_orderMany : Int32) (m_hasBest : Int32) (m_bestTop : Int64) (m_bestBy : Int64) (a_weights : Nat) (a_shared : Nat) (m_random : Int32) (m_truePlace : Int32) (m_trueWay : Int32) (m_seconds : Int32) (m_done : Int32) (m_feelings : Int32) (m_tries : Int32) (m_leftOver : Int32) (m_playDoor : Int32) (m_playRing : Int32) (m_isOpen : Int32) (m_isOver : Int32) (m_wasTried : Int32) (m_hasPlayed : Int32) (a_feltNow : Nat) (a_last : Nat) (a_kept : Nat) (m_hasSeconds : Int32) (m_hasTurned : Int32) (m_hasRound : Int32) (a_hasFeels : Nat) (a_isOn : Nat) (m_firstAct : Int32) (m_meanTop : Int64) (m_meanBy : Int64) (a_order : Nat) (m_rowMany : Int32) (m_newSteps : Int32) (g_c : Nat → Int32) (g_words : Nat → Int64) (hr_m_at : 0 ≤ m_at.toInt ∧ m_at.toInt ≤ 900) (hr_m_bad : 0 ≤ m_bad.toInt ∧ m_bad.toInt ≤ 9) (hr_m_token : 0 ≤ m_token.toInt ∧ m_token.toInt ≤ 4) (hr_m_letters : 0 ≤ m_letters.toInt ∧ m_letters.toInt ≤ 900) (hC_g_c : zC g_c) : zCi l yX12_readOld cX12_readOld 4 (some .int) ({ frames := 3, cells := 0, slots := 0, locals := 67 }) G cA [.ref h0, .int 0, .int 0] [(h0, .inr (12, [.int m_status, .int m_thrown, .long m_above, .long m_under, .ref a_traySort, .ref a_trayMany, .ref a_numbers, .ref a_tape, .int m_taped, .int m_textEnd, .int m_faultKind, .int m_faultAt, .int m_bad, .int m_badAt, .int m_token, .int m_at, .int m_behind, .int m_number, .int m_letters, .long m_word, .ref a_c, .ref a_words, .int m_markMany, .ref a_there, .ref a_tried, .ref a_best, .ref a_found, .int m_thereMany, .int m_foundMany, .int m_orderHow, .int m_orderRing, .int m_orderMany, .int m_hasBest, .long m_bestTop, .long m_bestBy, .ref a_weights, .ref a_shared, .int m_random, .int m_truePlace, .int m_trueWay, .int m_seconds, .int m_done, .int m_feelings, .int m_tries, .int m_leftOver, .int m_playDoor, .int m_playRing, .int m_isOpen, .int m_isOver, .int m_wasTried, .int m_hasPlayed, .ref a_feltNow, .ref a_last, .ref a_kept, .int m_hasSeconds, .int m_hasTurned, .int m_hasRound, .ref a_hasFeels, .ref a_isOn, .int m_firstAct, .long m_meanTop, .long m_meanBy, .ref a_order, .int m_rowMany, .int m_newSteps])), (a_c, .inl (cA.1 0, 1825, .inl g_c)), (a_words, .inl (cA.1 1, 105, .inr (.inl g_words)))] (S := Int32 × Int32) (fun (r : Int32) (u : Int32 × Int32) => ((-1) ≤ r.toInt ∧ r.toInt ≤ 2) ∧ (0 ≤ u.1.toInt ∧ u.1.toInt ≤ 9) ∧ (m_behind.toInt ≤ m_behind.toInt) ∧ (0 < m_bad.toInt → 0 < u.1.toInt) ∧ (u.1.toInt ≤ 0 → 0 ≤ r.toInt ∧ r.toInt < (g_c 1460).toInt)) (fun (u : Int32 × Int32) => [(h0, .inr (12, [.int m_status, .int m_thrown, .long m_above, .long m_under, .ref a_traySort, .ref a_trayMany, .ref a_numbers, .ref a_tape, .int m_taped, .int m_textEnd, .int m_faultKind, .int m_faultAt, .int u.1, .int u.2, .int m_token, .int m_at, .int m_behind, .int m_number, .int m_letters, .long m_word, .ref a_c, .ref a_words, .int m_markMany, .ref a_there, .ref a_tried, .ref a_best, .ref a_found, .int m_thereMany, .int m_foundMany, .int m_orderHow, .int m_orderRing, .int m_orderMany, .int m_hasBest, .long m_bestTop, .long m_bestBy, .ref a_weights, .ref a_shared, .int m_random, .int m_truePlace, .int m_trueWay, .int m_seconds, .int m_done, .int m_feelings, .int m_tries, .int m_leftOver, .int m_playDoor, .int m_playRing, .int m_isOpen, .int m_isOver, .int m_wasTried, .int m_hasPlayed, .ref a_feltNow, .ref a_last, .ref a_kept, .int m_hasSeconds, .int m_hasTurned, .int m_hasRound, .ref a_hasFeels, .ref a_isOn, .int m_firstAct, .long m_meanTop, .long m_meanBy, .ref a_order, .int m_rowMany, .int m_newSteps])), (a_c, .inl (cA.1 0, 1825, .inl g_c)), (a_words, .inl (cA.1 1, 105, .inr (.inl g_words)))]) 0 0 := by
  have hk_0 : (0 : Int32).toInt = 0 := by decide +kernel
  have hk_3 : (3 : Int32).toInt = 3 := by decide +kernel
  have hk_4 : (4 : Int32).toInt = 4 := by decide +kernel
  refine z_start2i (own := RX12) (by decide) (Nat.le_of_ble_eq_true rfl) rfl ?_
  intro p e s m args below meth c A ls Q hx hb hml hts hown hK hE hT hP hD hS hA hl hret
  have hl : lv_has ls 4 [(0, .ref h0), (1, .int 0), (2, .int 0)] := hl
  refine lv_aload_n hx hb dX12_readOld_0 rfl (lv_at hl 0 rfl) ?_
  refine va_get (D := G) (ci := 12) (v := .int m_bad) (C := RX12) (T := TX12) (N := 65) hx hb hts inT12 hown hK hP 0 rfl rfl 12 (by decide) (hts _ tw_1897) (fun _ h9 => h9) rfl dX12_readOld_1 ?_
  refine lv_if_ne (tgt := 18) hx hb dX12_readOld_4 (by decide) (fun c_1 => ?_) (fun c_1 => ?_)
  · have b_2 := z_fneT c_1
    refine lv_aload_n hx hb dX12_readOld_18 rfl (lv_at hl 0 rfl) ?_
    refine va_get (D := G) (ci := 12) (v := .int m_bad) (C := RX12) (T := TX12) (N := 65) hx hb hts inT12 hown hK hP 0 rfl rfl 12 (by decide) (hts _ tw_1897) (fun _ h9 => h9) rfl dX12_readOld_19 ?_
    refine lv_if_ne (tgt := 44) hx hb dX12_readOld_22 (by decide) (fun c_3 => ?_) (fun h9 => (z_no (by have h8 := z_feqF h9; omega)))
    have b_4 := z_fneT c_3
    refine lv_iconst (v := 0) hx hb dX12_readOld_44 (by decide) ?_
    refine lv_istore_n (lv' := [(3, .int 0), (0, .ref h0), (1, .int 0), (2, .int 0)]) hx hb dX12_readOld_45 rfl hl (by decide) rfl (fun ls hl => ?_)
    refine lv_aload_n hx hb dX12_readOld_46 rfl (lv_at hl 1 rfl) ?_
    refine va_get (D := G) (ci := 12) (v := .int m_bad) (C := RX12) (T := TX12) (N := 65) hx hb hts inT12 hown hK hP 0 rfl rfl 12 (by decide) (hts _ tw_1897) (fun _ h9 => h9) rfl dX12_readOld_47 ?_
    refine lv_if_ne (tgt := 66) hx hb dX12_readOld_50 (by decide) (fun c_5 => ?_) (fun h9 => (z_no (by have h8 := z_feqF h9; omega)))
    have b_6 := z_fneT c_5
    refine lv_iload_n hx hb dX12_readOld_66 rfl (lv_at hl 0 rfl) ?_
    have hpost : ((-1) ≤ (0 : Int32).toInt ∧ (0 : Int32).toInt ≤ 2) ∧ (0 ≤ m_bad.toInt ∧ m_bad.toInt ≤ 9) ∧ (m_behind.toInt ≤ m_behind.toInt) ∧ (0 < m_bad.toInt → 0 < m_bad.toInt) ∧ (m_bad.toInt ≤ 0 → 0 ≤ (0 : Int32).toInt ∧ (0 : Int32).toInt < (g_c 1460).toInt) := ⟨(by decide +kernel), hr_m_bad, (by omega), (by omega), (by omega)⟩
    exact hret _ _ _ _ _ _ (m_bad, m_badAt) [0, 1, 2] hP hD hS rfl (by decide) dX12_readOld_67 hpost
  · have b_7 := z_feqF c_1
    refine lv_aload_n hx hb dX12_readOld_7 rfl (lv_at hl 0 rfl) ?_
    refine z_callVi (As := []) (rest := []) (wr := [(a_c, .inl (cA.1 0, 1825, .inl g_c)), (a_words, .inl (cA.1 1, 105, .inr (.inl g_words)))]) ⟨hx, hb, hml, hown, hts⟩ hK hE hT hP hD hS hA (r_isHouseName l G cA h0 m_status m_thrown m_above m_under a_traySort a_trayMany a_numbers a_tape m_taped m_textEnd m_faultKind m_faultAt m_bad m_badAt m_token m_at m_behind m_number m_letters m_word a_c a_words m_markMany a_there a_tried a_best a_found m_thereMany m_foundMany m_orderHow m_orderRing m_orderMany m_hasBest m_bestTop m_bestBy a_weights a_shared m_random m_truePlace m_trueWay m_seconds m_done m_feelings m_tries m_leftOver m_playDoor m_playRing m_isOpen m_isOver m_wasTried m_hasPlayed a_feltNow a_last a_kept m_hasSeconds m_hasTurned m_hasRound a_hasFeels a_isOn m_firstAct m_meanTop m_meanBy a_order m_rowMany m_newSteps hr_m_token hr_m_letters) lk_RX12_200 ⟨rfl, rfl⟩ ⟨Nat.le_of_ble_eq_true rfl, Nat.le_of_ble_eq_true rfl⟩ 12 rfl rfl rfl [0] [1, 2] rfl rfl (by decide) rfl hl.1 rfl (lv_room (Nat.le_of_ble_eq_true rfl)) dX12_readOld_8 ⟨Nat.le_of_ble_eq_true rfl, Nat.le_of_ble_eq_true rfl⟩ (fun r_8 u_9 H locs hw hP hD hS => ?_)
    rcases hw with ⟨rfl, -⟩ | ⟨rfl, -⟩
    · skip
      refine lv_if_ne (tgt := 18) hx hb dX12_readOld_11 (by decide) (fun h9 => absurd (by decide +kernel) h9) (fun _ => ?_)
      refine lv_aload_n hx hb dX12_readOld_14 rfl (lv_at hl 0 rfl) ?_
      refine z_callVv (As := []) (rest := []) (wr := [(a_c, .inl (cA.1 0, 1825, .inl g_c)), (a_words, .inl (cA.1 1, 105, .inr (.inl g_words)))]) ⟨hx, hb, hml, hown, hts⟩ hK hE hT hP hD hS hA (r_wrong l G cA h0 m_status m_thrown m_above m_under a_traySort a_trayMany a_numbers a_tape m_taped m_textEnd m_faultKind m_faultAt m_bad m_badAt m_token m_at m_behind m_number m_letters m_word a_c a_words m_markMany a_there a_tried a_best a_found m_thereMany m_foundMany m_orderHow m_orderRing m_orderMany m_hasBest m_bestTop m_bestBy a_weights a_shared m_random m_truePlace m_trueWay m_seconds m_done m_feelings m_tries m_leftOver m_playDoor m_playRing m_isOpen m_isOver m_wasTried m_hasPlayed a_feltNow a_last a_kept m_hasSeconds m_hasTurned m_hasRound a_hasFeels a_isOn m_firstAct m_meanTop m_meanBy a_order m_rowMany m_newSteps hr_m_at hr_m_bad hr_m_token) lk_RX12_187 ⟨rfl, rfl⟩ ⟨Nat.le_of_ble_eq_true rfl, Nat.le_of_ble_eq_true rfl⟩ 12 rfl rfl rfl [2] [0, 1] rfl rfl (by decide) rfl hl.1 rfl (lv_room (Nat.le_of_ble_eq_true rfl)) dX12_readOld_15 ⟨Nat.le_of_ble_eq_true rfl, Nat.le_of_ble_eq_true rfl⟩ (fun u_13 H locs hw hP hD hS => ?_)
      obtain ⟨n_10, n_11⟩ := u_13
      try dsimp only at hw
      have hr_n_10 := hw
      refine lv_aload_n hx hb dX12_readOld_18 rfl (lv_at hl 0 rfl) ?_
      refine va_get (D := G) (ci := 12) (v := .int n_10) (C := RX12) (T := TX12) (N := 65) hx hb hts inT12 hown hK hP 2 rfl rfl 12 (by decide) (hts _ tw_1897) (fun _ h9 => h9) rfl dX12_readOld_19 ?_
      refine lv_if_ne (tgt := 44) hx hb dX12_readOld_22 (by decide) (fun c_14 => ?_) (fun h9 => (z_no (by have h8 := z_feqF h9; omega)))
      have b_15 := z_fneT c_14
      refine lv_iconst (v := 0) hx hb dX12_readOld_44 (by decide) ?_
      refine lv_istore_n (lv' := [(3, .int 0), (0, .ref h0), (1, .int 0), (2, .int 0)]) hx hb dX12_readOld_45 rfl hl (by decide) rfl (fun ls hl => ?_)
      refine lv_aload_n hx hb dX12_readOld_46 rfl (lv_at hl 1 rfl) ?_
      refine va_get (D := G) (ci := 12) (v := .int n_10) (C := RX12) (T := TX12) (N := 65) hx hb hts inT12 hown hK hP 2 rfl rfl 12 (by decide) (hts _ tw_1897) (fun _ h9 => h9) rfl dX12_readOld_47 ?_
      refine lv_if_ne (tgt := 66) hx hb dX12_readOld_50 (by decide) (fun c_16 => ?_) (fun h9 => (z_no (by have h8 := z_feqF h9; omega)))
      have b_17 := z_fneT c_16
      refine lv_iload_n hx hb dX12_readOld_66 rfl (lv_at hl 0 rfl) ?_
      have hpost : ((-1) ≤ (0 : Int32).toInt ∧ (0 : Int32).toInt ≤ 2) ∧ (0 ≤ n_10.toInt ∧ n_10.toInt ≤ 9) ∧ (m_behind.toInt ≤ m_behind.toInt) ∧ (0 < m_bad.toInt → 0 < n_10.toInt) ∧ (n_10.toInt ≤ 0 → 0 ≤ (0 : Int32).toInt ∧ (0 : Int32).toInt < (g_c 1460).toInt) := ⟨(by decide +kernel), (z_rgw hr_n_10 (by decide) (by decide)), (by omega), (by omega), (by omega)⟩
      exact hret _ _ _ _ _ _ (n_10, n_11) [2, 0, 1] hP hD hS rfl (by decide) dX12_readOld_67 hpost
    · skip
      refine lv_if_ne (tgt := 18) hx hb dX12_readOld_11 (by decide) (fun _ => ?_) (fun h9 => absurd h9 (by decide +kernel))
      refine lv_aload_n hx hb dX12_readOld_18 rfl (lv_at hl 0 rfl) ?_
      refine va_get (D := G) (ci := 12) (v := .int m_bad) (C := RX12) (T := TX12) (N := 65) hx hb hts inT12 hown hK hP 2 rfl rfl 12 (by decide) (hts _ tw_1897) (fun _ h9 => h9) rfl dX12_readOld_19 ?_
      refine lv_if_ne (tgt := 44) hx hb dX12_readOld_22 (by decide) (fun h9 => (z_no (by have h8 := z_fneT h9; omega))) (fun c_18 => ?_)
      have b_19 := z_feqF c_18
      refine lv_aload_n hx hb dX12_readOld_25 rfl (lv_at hl 0 rfl) ?_
      refine lv_iconst (v := 4) hx hb dX12_readOld_26 (by decide) ?_
      refine lv_iload_n hx hb dX12_readOld_27 rfl (lv_at hl 2 rfl) ?_
      refine lv_aload_n hx hb dX12_readOld_28 rfl (lv_at hl 0 rfl) ?_
      refine va_get (D := G) (ci := 12) (v := .ref a_c) (C := RX12) (T := TX12) (N := 65) hx hb hts inT12 hown hK hP 2 rfl rfl 20 (by decide) (hts _ tw_1905) (fun _ h9 => h9) rfl dX12_readOld_29 ?_
      refine lv_sipush (v := 1460) hx hb dX12_readOld_32 (by decide) ?_
      refine lv_iload_n hx hb dX12_readOld_35 rfl (lv_at hl 1 rfl) ?_
      refine lv_iadd hx hb dX12_readOld_36 ?_
      refine z_topi (y := 1460) (by decide +kernel) ?_
      refine va_iald hx hb hK hP 0 0 rfl rfl (z_in (i := 1460) (n := 1825) (by decide +kernel) (by decide +kernel)) dX12_readOld_37 ?_
      refine lv_topi (fun x_20 he_x_20 => ?_)
      have hr_x_20 := z_ctk hC_g_c he_x_20 (k := 1460) (lo := 0) (hi := 3) (by decide +kernel) (by decide +kernel) (by decide +kernel)
      have hv_x_20 := z_cv he_x_20 (k := 1460) (by decide +kernel)
      refine z_callVi (As := [.int 4, .int 0, .int x_20]) (rest := []) (wr := [(a_c, .inl (cA.1 0, 1825, .inl g_c))]) ⟨hx, hb, hml, hown, hts⟩ hK hE hT hP hD hS hA (r_named_4_0 l G cA h0 m_status m_thrown m_above m_under a_traySort a_trayMany a_numbers a_tape m_taped m_textEnd m_faultKind m_faultAt m_bad m_badAt m_token m_at m_behind m_number m_letters m_word a_c a_words m_markMany a_there a_tried a_best a_found m_thereMany m_foundMany m_orderHow m_orderRing m_orderMany m_hasBest m_bestTop m_bestBy a_weights a_shared m_random m_truePlace m_trueWay m_seconds m_done m_feelings m_tries m_leftOver m_playDoor m_playRing m_isOpen m_isOver m_wasTried m_hasPlayed a_feltNow a_last a_kept m_hasSeconds m_hasTurned m_hasRound a_hasFeels a_isOn m_firstAct m_meanTop m_meanBy a_order m_rowMany m_newSteps g_words x_20 hr_x_20) lk_RX12_196 ⟨rfl, rfl⟩ ⟨Nat.le_of_ble_eq_true rfl, Nat.le_of_ble_eq_true rfl⟩ 12 rfl rfl rfl [2, 1] [0] rfl rfl (by decide) rfl hl.1 rfl (lv_room (Nat.le_of_ble_eq_true rfl)) dX12_readOld_38 ⟨Nat.le_of_ble_eq_true rfl, Nat.le_of_ble_eq_true rfl⟩ (fun r_21 u_22 H locs hw hP hD hS => ?_)
      obtain ⟨hr_r_21, hf_23⟩ := hw
      refine lv_goto (tgt := 45) hx hb dX12_readOld_41 (by decide) ?_
      refine lv_istore_n (lv' := [(3, .int r_21), (0, .ref h0), (1, .int 0), (2, .int 0)]) hx hb dX12_readOld_45 rfl hl (by decide) rfl (fun ls hl => ?_)
      refine lv_aload_n hx hb dX12_readOld_46 rfl (lv_at hl 1 rfl) ?_
      refine va_get (D := G) (ci := 12) (v := .int m_bad) (C := RX12) (T := TX12) (N := 65) hx hb hts inT12 hown hK hP 1 rfl rfl 12 (by decide) (hts _ tw_1897) (fun _ h9 => h9) rfl dX12_readOld_47 ?_
      refine lv_if_ne (tgt := 66) hx hb dX12_readOld_50 (by decide) (fun h9 => (z_no (by have h8 := z_fneT h9; omega))) (fun c_24 => ?_)
      have b_25 := z_feqF c_24
      refine lv_iload_n hx hb dX12_readOld_53 rfl (lv_at hl 0 rfl) ?_
      refine lv_if_ge (tgt := 66) hx hb dX12_readOld_54 (by decide) (fun c_26 => ?_) (fun c_26 => ?_)
      · have b_27 := z_fgeT c_26
        refine lv_iload_n hx hb dX12_readOld_66 rfl (lv_at hl 0 rfl) ?_
        have hpost : ((-1) ≤ r_21.toInt ∧ r_21.toInt ≤ 2) ∧ (0 ≤ m_bad.toInt ∧ m_bad.toInt ≤ 9) ∧ (m_behind.toInt ≤ m_behind.toInt) ∧ (0 < m_bad.toInt → 0 < m_bad.toInt) ∧ (m_bad.toInt ≤ 0 → 0 ≤ r_21.toInt ∧ r_21.toInt < (g_c 1460).toInt) := ⟨hr_r_21, hr_m_bad, (by omega), (by omega), (by omega)⟩
        exact hret _ _ _ _ _ _ (m_bad, m_badAt) [1, 0, 2] hP hD hS rfl (by decide) dX12_readOld_67 hpost
      · have b_28 := z_fltF c_26
        refine lv_aload_n hx hb dX12_readOld_57 rfl (lv_at hl 1 rfl) ?_
        refine lv_iconst (v := 3) hx hb dX12_readOld_58 (by decide) ?_
        refine lv_aload_n hx hb dX12_readOld_59 rfl (lv_at hl 1 rfl) ?_
        refine va_get (D := G) (ci := 12) (v := .int m_at) (C := RX12) (T := TX12) (N := 65) hx hb hts inT12 hown hK hP 1 rfl rfl 15 (by decide) (hts _ tw_1900) (fun _ h9 => h9) rfl dX12_readOld_60 ?_
        refine z_callVv (As := [.int 3, .int m_at]) (rest := []) (wr := [(a_c, .inl (cA.1 0, 1825, .inl g_c)), (a_words, .inl (cA.1 1, 105, .inr (.inl g_words)))]) ⟨hx, hb, hml, hown, hts⟩ hK hE hT hP hD hS hA (r_fail l G cA h0 m_status m_thrown m_above m_under a_traySort a_trayMany a_numbers a_tape m_taped m_textEnd m_faultKind m_faultAt m_bad m_badAt m_token m_at m_behind m_number m_letters m_word a_c a_words m_markMany a_there a_tried a_best a_found m_thereMany m_foundMany m_orderHow m_orderRing m_orderMany m_hasBest m_bestTop m_bestBy a_weights a_shared m_random m_truePlace m_trueWay m_seconds m_done m_feelings m_tries m_leftOver m_playDoor m_playRing m_isOpen m_isOver m_wasTried m_hasPlayed a_feltNow a_last a_kept m_hasSeconds m_hasTurned m_hasRound a_hasFeels a_isOn m_firstAct m_meanTop m_meanBy a_order m_rowMany m_newSteps 3 m_at (by decide +kernel) hr_m_bad) lk_RX12_180 ⟨rfl, rfl⟩ ⟨Nat.le_of_ble_eq_true rfl, Nat.le_of_ble_eq_true rfl⟩ 12 rfl rfl rfl [1] [0, 2] rfl rfl (by decide) rfl hl.1 rfl (lv_room (Nat.le_of_ble_eq_true rfl)) dX12_readOld_63 ⟨Nat.le_of_ble_eq_true rfl, Nat.le_of_ble_eq_true rfl⟩ (fun u_32 H locs hw hP hD hS => ?_)
        obtain ⟨n_29, n_30⟩ := u_32
        try dsimp only at hw
        obtain ⟨hr_n_29, hf_33⟩ := hw
        refine lv_iload_n hx hb dX12_readOld_66 rfl (lv_at hl 0 rfl) ?_
        have hpost : ((-1) ≤ r_21.toInt ∧ r_21.toInt ≤ 2) ∧ (0 ≤ n_29.toInt ∧ n_29.toInt ≤ 9) ∧ (m_behind.toInt ≤ m_behind.toInt) ∧ (0 < m_bad.toInt → 0 < n_29.toInt) ∧ (n_29.toInt ≤ 0 → 0 ≤ r_21.toInt ∧ r_21.toInt < (g_c 1460).toInt) := ⟨hr_r_21, (z_rgw hr_n_29 (by decide) (by decide)), (by omega), (by omega), (by omega)⟩
        exact hret _ _ _ _ _ _ (n_29, n_30) [2, 0, 1] hP hD hS rfl (by decide) dX12_readOld_67 hpost
set_option maxHeartbeats 4000000 in
set_option maxRecDepth 100000 in
theorem r_readNew_1 (l : Launch) (G : va_G) (cA : zCA) (h0 : Nat) (m_status : Int32) (m_thrown : Int32) (m_above : Int64) (m_under : Int64) (a_traySort : Nat) (a_trayMany : Nat) (a_numbers : Nat) (a_tape : Nat) (m_taped : Int32) (m_textEnd : Int32) (m_faultKind : Int32) (m_faultAt : Int32) (m_bad : Int32) (m_badAt : Int32) (m_token : Int32) (m_at : Int32) (m_behind : Int32) (m_number : Int32) (m_letters : Int32) (m_word : Int64) (a_c : Nat) (a_words : Nat) (m_markMany : Int32) (a_there : Nat) (a_tried : Nat) (a_best : Nat) (a_found : Nat) (m_thereMany : Int32) (m_foundMany : Int32) (m_orderHow : Int32) (m_orderRing : Int32) (m_orderMany : Int32) (m_hasBest : Int32) (m_bestTop : Int64) (m_bestBy : Int64) (a_weights : Nat) (a_shared : Nat) (m_random : Int32) (m_truePlace : Int32) (m_trueWay : Int32) (m_seconds : Int32) (m_done : Int32) (m_feelings : Int32) (m_tries : Int32) (m_leftOver : Int32) (m_playDoor : Int32) (m_playRing : Int32) (m_isOpen : Int32) (m_isOver : Int32) (m_wasTried : Int32) (m_hasPlayed : Int32) (a_feltNow : Nat) (a_last : Nat) (a_kept : Nat) (m_hasSeconds : Int32) (m_hasTurned : Int32) (m_hasRound : Int32) (a_hasFeels : Nat) (a_isOn : Nat) (m_firstAct : Int32) (m_meanTop : Int64) (m_meanBy : Int64) (a_order : Nat) (m_rowMany : Int32) (m_newSteps : Int32) (g_tape : Nat → Int32) (g_c : Nat → Int32) (g_words : Nat → Int64) (hr_m_textEnd : 0 ≤ m_textEnd.toInt ∧ m_textEnd.toInt ≤ 900) (hr_m_at : 0 ≤ m_at.toInt ∧ m_at.toInt ≤ 900) (hr_m_behind : 0 ≤ m_behind.toInt ∧ m_behind.toInt ≤ 900) (hr_m_bad : 0 ≤ m_bad.toInt ∧ m_bad.toInt ≤ 9) (hr_m_token : 0 ≤ m_token.toInt ∧ m_token.toInt ≤ 4) (hr_m_number : 0 ≤ m_number.toInt ∧ m_number.toInt ≤ 9999) (hr_m_letters : 0 ≤ m_letters.toInt ∧ m_letters.toInt ≤ 900) (hC_g_c : zC g_c) : zCi l yX12_readNew cX12_readNew 5 (some .int) ({ frames := 3, cells := 0, slots := 0, locals := 67 }) G cA [.ref h0, .int 1, .int 10, .int 3] [(h0, .inr (12, [.int m_status, .int m_thrown, .long m_above, .long m_under, .ref a_traySort, .ref a_trayMany, .ref a_numbers, .ref a_tape, .int m_taped, .int m_textEnd, .int m_faultKind, .int m_faultAt, .int m_bad, .int m_badAt, .int m_token, .int m_at, .int m_behind, .int m_number, .int m_letters, .long m_word, .ref a_c, .ref a_words, .int m_markMany, .ref a_there, .ref a_tried, .ref a_best, .ref a_found, .int m_thereMany, .int m_foundMany, .int m_orderHow, .int m_orderRing, .int m_orderMany, .int m_hasBest, .long m_bestTop, .long m_bestBy, .ref a_weights, .ref a_shared, .int m_random, .int m_truePlace, .int m_trueWay, .int m_seconds, .int m_done, .int m_feelings, .int m_tries, .int m_leftOver, .int m_playDoor, .int m_playRing, .int m_isOpen, .int m_isOver, .int m_wasTried, .int m_hasPlayed, .ref a_feltNow, .ref a_last, .ref a_kept, .int m_hasSeconds, .int m_hasTurned, .int m_hasRound, .ref a_hasFeels, .ref a_isOn, .int m_firstAct, .long m_meanTop, .long m_meanBy, .ref a_order, .int m_rowMany, .int m_newSteps])), (a_tape, .inl (cA.1 2, 900, .inl g_tape)), (a_c, .inl (cA.1 0, 1825, .inl g_c)), (a_words, .inl (cA.1 1, 105, .inr (.inl g_words)))] (S := Int32 × Int32 × Int32 × Int32 × Int32 × Int32 × Int32 × Int64 × (Nat → Int64)) (fun (r : Int32) (u : Int32 × Int32 × Int32 × Int32 × Int32 × Int32 × Int32 × Int64 × (Nat → Int64)) => (0 ≤ r.toInt ∧ r.toInt ≤ 9) ∧ (0 ≤ u.1.toInt ∧ u.1.toInt ≤ 9) ∧ (0 ≤ u.2.2.1.toInt ∧ u.2.2.1.toInt ≤ 4) ∧ (0 ≤ u.2.2.2.1.toInt ∧ u.2.2.2.1.toInt ≤ 900) ∧ (0 ≤ u.2.2.2.2.1.toInt ∧ u.2.2.2.2.1.toInt ≤ 900) ∧ (0 ≤ u.2.2.2.2.2.1.toInt ∧ u.2.2.2.2.2.1.toInt ≤ 9999) ∧ (0 ≤ u.2.2.2.2.2.2.1.toInt ∧ u.2.2.2.2.2.2.1.toInt ≤ 900) ∧ (m_behind.toInt ≤ u.2.2.2.2.1.toInt) ∧ (0 < m_bad.toInt → 0 < u.1.toInt) ∧ (u.1.toInt ≤ 0 → u.2.2.1.toInt = 0 ∨ m_behind.toInt < u.2.2.2.2.1.toInt) ∧ (u.1.toInt ≤ 0 → r.toInt = (g_c 1461).toInt) ∧ (r.toInt < 10)) (fun (u : Int32 × Int32 × Int32 × Int32 × Int32 × Int32 × Int32 × Int64 × (Nat → Int64)) => [(h0, .inr (12, [.int m_status, .int m_thrown, .long m_above, .long m_under, .ref a_traySort, .ref a_trayMany, .ref a_numbers, .ref a_tape, .int m_taped, .int m_textEnd, .int m_faultKind, .int m_faultAt, .int u.1, .int u.2.1, .int u.2.2.1, .int u.2.2.2.1, .int u.2.2.2.2.1, .int u.2.2.2.2.2.1, .int u.2.2.2.2.2.2.1, .long u.2.2.2.2.2.2.2.1, .ref a_c, .ref a_words, .int m_markMany, .ref a_there, .ref a_tried, .ref a_best, .ref a_found, .int m_thereMany, .int m_foundMany, .int m_orderHow, .int m_orderRing, .int m_orderMany, .int m_hasBest, .long m_bestTop, .long m_bestBy, .ref a_weights, .ref a_shared, .int m_random, .int m_truePlace, .int m_trueWay, .int m_seconds, .int m_done, .int m_feelings, .int m_tries, .int m_leftOver, .int m_playDoor, .int m_playRing, .int m_isOpen, .int m_isOver, .int m_wasTried, .int m_hasPlayed, .ref a_feltNow, .ref a_last, .ref a_kept, .int m_hasSeconds, .int m_hasTurned, .int m_hasRound, .ref a_hasFeels, .ref a_isOn, .int m_firstAct, .long m_meanTop, .long m_meanBy, .ref a_order, .int m_rowMany, .int m_newSteps])), (a_tape, .inl (cA.1 2, 900, .inl g_tape)), (a_c, .inl (cA.1 0, 1825, .inl g_c)), (a_words, .inl (cA.1 1, 105, .inr (.inl u.2.2.2.2.2.2.2.2)))]) 0 0 := by
  have hk_0 : (0 : Int32).toInt = 0 := by decide +kernel
  have hk_3 : (3 : Int32).toInt = 3 := by decide +kernel
  have hk_6 : (6 : Int32).toInt = 6 := by decide +kernel
  have hk_10 : (10 : Int32).toInt = 10 := by decide +kernel
  have hk_87 : (87 : Int32).toInt = 87 := by decide +kernel
  refine z_start2i (own := RX12) (by decide) (Nat.le_of_ble_eq_true rfl) rfl ?_
  intro p e s m args below meth c A ls Q hx hb hml hts hown hK hE hT hP hD hS hA hl hret
  have hl : lv_has ls 5 [(0, .ref h0), (1, .int 1), (2, .int 10), (3, .int 3)] := hl
  refine lv_aload_n hx hb dX12_readNew_0 rfl (lv_at hl 0 rfl) ?_
  refine va_get (D := G) (ci := 12) (v := .ref a_c) (C := RX12) (T := TX12) (N := 65) hx hb hts inT12 hown hK hP 0 rfl rfl 20 (by decide) (hts _ tw_1905) (fun _ h9 => h9) rfl dX12_readNew_1 ?_
  refine lv_sipush (v := 1460) hx hb dX12_readNew_4 (by decide) ?_
  refine lv_iload_n hx hb dX12_readNew_7 rfl (lv_at hl 1 rfl) ?_
  refine lv_iadd hx hb dX12_readNew_8 ?_
  refine z_topi (y := 1461) (by decide +kernel) ?_
  refine va_iald hx hb hK hP 2 0 rfl rfl (z_in (i := 1461) (n := 1825) (by decide +kernel) (by decide +kernel)) dX12_readNew_9 ?_
  refine lv_topi (fun x_1 he_x_1 => ?_)
  have hr_x_1 := z_ctk hC_g_c he_x_1 (k := 1461) (lo := 0) (hi := 10) (by decide +kernel) (by decide +kernel) (by decide +kernel)
  have hv_x_1 := z_cv he_x_1 (k := 1461) (by decide +kernel)
  refine lv_istore (lv' := [(4, .int x_1), (0, .ref h0), (1, .int 1), (2, .int 10), (3, .int 3)]) hx hb dX12_readNew_10 hl (by decide) rfl (fun ls hl => ?_)
  refine lv_aload_n hx hb dX12_readNew_12 rfl (lv_at hl 1 rfl) ?_
  refine va_get (D := G) (ci := 12) (v := .int m_bad) (C := RX12) (T := TX12) (N := 65) hx hb hts inT12 hown hK hP 0 rfl rfl 12 (by decide) (hts _ tw_1897) (fun _ h9 => h9) rfl dX12_readNew_13 ?_
  refine lv_if_ne (tgt := 35) hx hb dX12_readNew_16 (by decide) (fun c_2 => ?_) (fun c_2 => ?_)
  · have b_3 := z_fneT c_2
    refine lv_aload_n hx hb dX12_readNew_35 rfl (lv_at hl 1 rfl) ?_
    refine va_get (D := G) (ci := 12) (v := .int m_bad) (C := RX12) (T := TX12) (N := 65) hx hb hts inT12 hown hK hP 0 rfl rfl 12 (by decide) (hts _ tw_1897) (fun _ h9 => h9) rfl dX12_readNew_36 ?_
    refine lv_if_le (tgt := 44) hx hb dX12_readNew_39 (by decide) (fun h9 => (z_no (by have h8 := z_fleT h9; omega))) (fun c_4 => ?_)
    have b_5 := z_fgtF c_4
    refine lv_iconst (v := 0) hx hb dX12_readNew_42 (by decide) ?_
    have hpost : (0 ≤ (0 : Int32).toInt ∧ (0 : Int32).toInt ≤ 9) ∧ (0 ≤ m_bad.toInt ∧ m_bad.toInt ≤ 9) ∧ (0 ≤ m_token.toInt ∧ m_token.toInt ≤ 4) ∧ (0 ≤ m_at.toInt ∧ m_at.toInt ≤ 900) ∧ (0 ≤ m_behind.toInt ∧ m_behind.toInt ≤ 900) ∧ (0 ≤ m_number.toInt ∧ m_number.toInt ≤ 9999) ∧ (0 ≤ m_letters.toInt ∧ m_letters.toInt ≤ 900) ∧ (m_behind.toInt ≤ m_behind.toInt) ∧ (0 < m_bad.toInt → 0 < m_bad.toInt) ∧ (m_bad.toInt ≤ 0 → m_token.toInt = 0 ∨ m_behind.toInt < m_behind.toInt) ∧ (m_bad.toInt ≤ 0 → (0 : Int32).toInt = (g_c 1461).toInt) ∧ ((0 : Int32).toInt < 10) := ⟨(by decide +kernel), hr_m_bad, hr_m_token, hr_m_at, hr_m_behind, hr_m_number, hr_m_letters, (by omega), (by omega), (by omega), (by omega), (by omega)⟩
    exact hret _ _ _ _ _ _ (m_bad, m_badAt, m_token, m_at, m_behind, m_number, m_letters, m_word, g_words) [0, 1, 2, 3] hP hD hS rfl (by decide) dX12_readNew_43 hpost
  · have b_6 := z_feqF c_2
    refine lv_iload hx hb dX12_readNew_19 (lv_at hl 0 rfl) ?_
    refine lv_iload_n hx hb dX12_readNew_21 rfl (lv_at hl 3 rfl) ?_
    refine lv_icmp_ne (tgt := 35) hx hb dX12_readNew_22 (by decide) (fun c_7 => ?_) (fun c_7 => ?_)
    · have b_8 := z_fneT c_7
      refine lv_aload_n hx hb dX12_readNew_35 rfl (lv_at hl 1 rfl) ?_
      refine va_get (D := G) (ci := 12) (v := .int m_bad) (C := RX12) (T := TX12) (N := 65) hx hb hts inT12 hown hK hP 0 rfl rfl 12 (by decide) (hts _ tw_1897) (fun _ h9 => h9) rfl dX12_readNew_36 ?_
      refine lv_if_le (tgt := 44) hx hb dX12_readNew_39 (by decide) (fun c_9 => ?_) (fun h9 => (z_no (by have h8 := z_fgtF h9; omega)))
      have b_10 := z_fleT c_9
      refine lv_aload_n hx hb dX12_readNew_44 rfl (lv_at hl 1 rfl) ?_
      refine z_callVv (As := []) (rest := []) (wr := [(a_c, .inl (cA.1 0, 1825, .inl g_c)), (a_words, .inl (cA.1 1, 105, .inr (.inl g_words)))]) ⟨hx, hb, hml, hown, hts⟩ hK hE hT hP hD hS hA (r_next2 l G cA h0 m_status m_thrown m_above m_under a_traySort a_trayMany a_numbers a_tape m_taped m_textEnd m_faultKind m_faultAt m_bad m_badAt m_token m_at m_behind m_number m_letters m_word a_c a_words m_markMany a_there a_tried a_best a_found m_thereMany m_foundMany m_orderHow m_orderRing m_orderMany m_hasBest m_bestTop m_bestBy a_weights a_shared m_random m_truePlace m_trueWay m_seconds m_done m_feelings m_tries m_leftOver m_playDoor m_playRing m_isOpen m_isOver m_wasTried m_hasPlayed a_feltNow a_last a_kept m_hasSeconds m_hasTurned m_hasRound a_hasFeels a_isOn m_firstAct m_meanTop m_meanBy a_order m_rowMany m_newSteps g_tape hr_m_textEnd hr_m_at hr_m_behind hr_m_token hr_m_number hr_m_letters) lk_RX12_184 ⟨rfl, rfl⟩ ⟨Nat.le_of_ble_eq_true rfl, Nat.le_of_ble_eq_true rfl⟩ 12 rfl rfl rfl [0, 1] [2, 3] rfl rfl (by decide) rfl hl.1 rfl (lv_room (Nat.le_of_ble_eq_true rfl)) dX12_readNew_45 ⟨Nat.le_of_ble_eq_true rfl, Nat.le_of_ble_eq_true rfl⟩ (fun u_18 H locs hw hP hD hS => ?_)
      obtain ⟨n_11, n_12, n_13, n_14, n_15, n_16⟩ := u_18
      try dsimp only at hw
      obtain ⟨hr_n_11, hr_n_12, hr_n_13, hr_n_14, hr_n_15, hf_19, hf_20⟩ := hw
      refine lv_aload_n hx hb dX12_readNew_48 rfl (lv_at hl 1 rfl) ?_
      refine z_callVi (As := []) (rest := []) (wr := [(a_c, .inl (cA.1 0, 1825, .inl g_c)), (a_words, .inl (cA.1 1, 105, .inr (.inl g_words))), (a_tape, .inl (cA.1 2, 900, .inl g_tape))]) ⟨hx, hb, hml, hown, hts⟩ hK hE hT hP hD hS hA (r_isHouseName l G cA h0 m_status m_thrown m_above m_under a_traySort a_trayMany a_numbers a_tape m_taped m_textEnd m_faultKind m_faultAt m_bad m_badAt n_11 n_12 n_13 n_14 n_15 n_16 a_c a_words m_markMany a_there a_tried a_best a_found m_thereMany m_foundMany m_orderHow m_orderRing m_orderMany m_hasBest m_bestTop m_bestBy a_weights a_shared m_random m_truePlace m_trueWay m_seconds m_done m_feelings m_tries m_leftOver m_playDoor m_playRing m_isOpen m_isOver m_wasTried m_hasPlayed a_feltNow a_last a_kept m_hasSeconds m_hasTurned m_hasRound a_hasFeels a_isOn m_firstAct m_meanTop m_meanBy a_order m_rowMany m_newSteps hr_n_11 hr_n_15) lk_RX12_200 ⟨rfl, rfl⟩ ⟨Nat.le_of_ble_eq_true rfl, Nat.le_of_ble_eq_true rfl⟩ 12 rfl rfl rfl [2] [0, 1, 3] rfl rfl (by decide) rfl hl.1 rfl (lv_room (Nat.le_of_ble_eq_true rfl)) dX12_readNew_49 ⟨Nat.le_of_ble_eq_true rfl, Nat.le_of_ble_eq_true rfl⟩ (fun r_21 u_22 H locs hw hP hD hS => ?_)
      rcases hw with ⟨rfl, -⟩ | ⟨rfl, -⟩
      · skip
        refine lv_if_ne (tgt := 59) hx hb dX12_readNew_52 (by decide) (fun h9 => absurd (by decide +kernel) h9) (fun _ => ?_)
        refine lv_aload_n hx hb dX12_readNew_55 rfl (lv_at hl 1 rfl) ?_
        refine z_callVv (As := []) (rest := []) (wr := [(a_c, .inl (cA.1 0, 1825, .inl g_c)), (a_words, .inl (cA.1 1, 105, .inr (.inl g_words))), (a_tape, .inl (cA.1 2, 900, .inl g_tape))]) ⟨hx, hb, hml, hown, hts⟩ hK hE hT hP hD hS hA (r_wrong l G cA h0 m_status m_thrown m_above m_under a_traySort a_trayMany a_numbers a_tape m_taped m_textEnd m_faultKind m_faultAt m_bad m_badAt n_11 n_12 n_13 n_14 n_15 n_16 a_c a_words m_markMany a_there a_tried a_best a_found m_thereMany m_foundMany m_orderHow m_orderRing m_orderMany m_hasBest m_bestTop m_bestBy a_weights a_shared m_random m_truePlace m_trueWay m_seconds m_done m_feelings m_tries m_leftOver m_playDoor m_playRing m_isOpen m_isOver m_wasTried m_hasPlayed a_feltNow a_last a_kept m_hasSeconds m_hasTurned m_hasRound a_hasFeels a_isOn m_firstAct m_meanTop m_meanBy a_order m_rowMany m_newSteps hr_n_12 hr_m_bad hr_n_11) lk_RX12_187 ⟨rfl, rfl⟩ ⟨Nat.le_of_ble_eq_true rfl, Nat.le_of_ble_eq_true rfl⟩ 12 rfl rfl rfl [3] [0, 1, 2] rfl rfl (by decide) rfl hl.1 rfl (lv_room (Nat.le_of_ble_eq_true rfl)) dX12_readNew_56 ⟨Nat.le_of_ble_eq_true rfl, Nat.le_of_ble_eq_true rfl⟩ (fun u_26 H locs hw hP hD hS => ?_)
        obtain ⟨n_23, n_24⟩ := u_26
        try dsimp only at hw
        have hr_n_23 := hw
        refine lv_aload_n hx hb dX12_readNew_59 rfl (lv_at hl 1 rfl) ?_
        refine va_get (D := G) (ci := 12) (v := .int n_23) (C := RX12) (T := TX12) (N := 65) hx hb hts inT12 hown hK hP 3 rfl rfl 12 (by decide) (hts _ tw_1897) (fun _ h9 => h9) rfl dX12_readNew_60 ?_
        refine lv_if_ne (tgt := 82) hx hb dX12_readNew_63 (by decide) (fun c_27 => ?_) (fun h9 => (z_no (by have h8 := z_feqF h9; omega)))
        have b_28 := z_fneT c_27
        refine lv_aload_n hx hb dX12_readNew_82 rfl (lv_at hl 1 rfl) ?_
        refine va_get (D := G) (ci := 12) (v := .int n_23) (C := RX12) (T := TX12) (N := 65) hx hb hts inT12 hown hK hP 3 rfl rfl 12 (by decide) (hts _ tw_1897) (fun _ h9 => h9) rfl dX12_readNew_83 ?_
        refine lv_if_le (tgt := 91) hx hb dX12_readNew_86 (by decide) (fun h9 => (z_no (by have h8 := z_fleT h9; omega))) (fun c_29 => ?_)
        have b_30 := z_fgtF c_29
        refine lv_iconst (v := 0) hx hb dX12_readNew_89 (by decide) ?_
        have hpost : (0 ≤ (0 : Int32).toInt ∧ (0 : Int32).toInt ≤ 9) ∧ (0 ≤ n_23.toInt ∧ n_23.toInt ≤ 9) ∧ (0 ≤ n_11.toInt ∧ n_11.toInt ≤ 4) ∧ (0 ≤ n_12.toInt ∧ n_12.toInt ≤ 900) ∧ (0 ≤ n_13.toInt ∧ n_13.toInt ≤ 900) ∧ (0 ≤ n_14.toInt ∧ n_14.toInt ≤ 9999) ∧ (0 ≤ n_15.toInt ∧ n_15.toInt ≤ 900) ∧ (m_behind.toInt ≤ n_13.toInt) ∧ (0 < m_bad.toInt → 0 < n_23.toInt) ∧ (n_23.toInt ≤ 0 → n_11.toInt = 0 ∨ m_behind.toInt < n_13.toInt) ∧ (n_23.toInt ≤ 0 → (0 : Int32).toInt = (g_c 1461).toInt) ∧ ((0 : Int32).toInt < 10) := ⟨(by decide +kernel), (z_rgw hr_n_23 (by decide) (by decide)), hr_n_11, hr_n_12, hr_n_13, hr_n_14, hr_n_15, (by omega), (by omega), (by omega), (by omega), (by omega)⟩
        exact hret _ _ _ _ _ _ (n_23, n_24, n_11, n_12, n_13, n_14, n_15, n_16, g_words) [3, 2, 0, 1] hP hD hS rfl (by decide) dX12_readNew_90 hpost
      · skip
        refine lv_if_ne (tgt := 59) hx hb dX12_readNew_52 (by decide) (fun _ => ?_) (fun h9 => absurd h9 (by decide +kernel))
        refine lv_aload_n hx hb dX12_readNew_59 rfl (lv_at hl 1 rfl) ?_
        refine va_get (D := G) (ci := 12) (v := .int m_bad) (C := RX12) (T := TX12) (N := 65) hx hb hts inT12 hown hK hP 3 rfl rfl 12 (by decide) (hts _ tw_1897) (fun _ h9 => h9) rfl dX12_readNew_60 ?_
        refine lv_if_ne (tgt := 82) hx hb dX12_readNew_63 (by decide) (fun h9 => (z_no (by have h8 := z_fneT h9; omega))) (fun c_31 => ?_)
        have b_32 := z_feqF c_31
        refine lv_aload_n hx hb dX12_readNew_66 rfl (lv_at hl 1 rfl) ?_
        refine z_callVi (As := []) (rest := []) (wr := [(a_tape, .inl (cA.1 2, 900, .inl g_tape))]) ⟨hx, hb, hml, hown, hts⟩ hK hE hT hP hD hS hA (r_isTaken l G cA h0 m_status m_thrown m_above m_under a_traySort a_trayMany a_numbers a_tape m_taped m_textEnd m_faultKind m_faultAt m_bad m_badAt n_11 n_12 n_13 n_14 n_15 n_16 a_c a_words m_markMany a_there a_tried a_best a_found m_thereMany m_foundMany m_orderHow m_orderRing m_orderMany m_hasBest m_bestTop m_bestBy a_weights a_shared m_random m_truePlace m_trueWay m_seconds m_done m_feelings m_tries m_leftOver m_playDoor m_playRing m_isOpen m_isOver m_wasTried m_hasPlayed a_feltNow a_last a_kept m_hasSeconds m_hasTurned m_hasRound a_hasFeels a_isOn m_firstAct m_meanTop m_meanBy a_order m_rowMany m_newSteps g_c g_words hC_g_c) lk_RX12_204 ⟨rfl, rfl⟩ ⟨Nat.le_of_ble_eq_true rfl, Nat.le_of_ble_eq_true rfl⟩ 12 rfl rfl rfl [3, 0, 1] [2] rfl rfl (by decide) rfl hl.1 rfl (lv_room (Nat.le_of_ble_eq_true rfl)) dX12_readNew_67 ⟨Nat.le_of_ble_eq_true rfl, Nat.le_of_ble_eq_true rfl⟩ (fun r_33 u_34 H locs hw hP hD hS => ?_)
        rcases hw with ⟨rfl, -⟩ | ⟨rfl, -⟩
        · skip
          refine lv_if_eq (tgt := 82) hx hb dX12_readNew_70 (by decide) (fun _ => ?_) (fun h9 => absurd (by decide +kernel) h9)
          refine lv_aload_n hx hb dX12_readNew_82 rfl (lv_at hl 1 rfl) ?_
          refine va_get (D := G) (ci := 12) (v := .int m_bad) (C := RX12) (T := TX12) (N := 65) hx hb hts inT12 hown hK hP 1 rfl rfl 12 (by decide) (hts _ tw_1897) (fun _ h9 => h9) rfl dX12_readNew_83 ?_
          refine lv_if_le (tgt := 91) hx hb dX12_readNew_86 (by decide) (fun c_35 => ?_) (fun h9 => (z_no (by have h8 := z_fgtF h9; omega)))
          have b_36 := z_fleT c_35
          refine lv_aload_n hx hb dX12_readNew_91 rfl (lv_at hl 1 rfl) ?_
          refine va_get (D := G) (ci := 12) (v := .ref a_words) (C := RX12) (T := TX12) (N := 65) hx hb hts inT12 hown hK hP 1 rfl rfl 21 (by decide) (hts _ tw_1906) (fun _ h9 => h9) rfl dX12_readNew_92 ?_
          refine lv_bipush (v := 84) hx hb dX12_readNew_95 (by decide) ?_
          refine lv_iload_n hx hb dX12_readNew_97 rfl (lv_at hl 4 rfl) ?_
          refine lv_iadd hx hb dX12_readNew_98 ?_
          refine z_topi (y := 87) (by decide +kernel) ?_
          refine lv_iload hx hb dX12_readNew_99 (lv_at hl 0 rfl) ?_
          refine lv_iadd hx hb dX12_readNew_101 ?_
          refine lv_topi (fun x_37 he_x_37 => ?_)
          have hq_x_37 := z_addq he_x_37 hk_87 (rfl : x_1.toInt = _) (by omega) (by omega)
          refine lv_aload_n hx hb dX12_readNew_102 rfl (lv_at hl 1 rfl) ?_
          refine va_get (D := G) (ci := 12) (v := .long n_16) (C := RX12) (T := TX12) (N := 65) hx hb hts inT12 hown hK hP 1 rfl rfl 19 (by decide) (hts _ tw_1904) (fun _ h9 => h9) rfl dX12_readNew_103 ?_
          refine z_last hx hb hK hP hD hS 3 1 rfl rfl (z_inN (by omega) (by omega)) dX12_readNew_106 (fun g_38 hg_g_38 H locs hP hD hS => ?_)
          refine lv_aload_n hx hb dX12_readNew_107 rfl (lv_at hl 1 rfl) ?_
          refine z_callVv (As := []) (rest := []) (wr := [(a_c, .inl (cA.1 0, 1825, .inl g_c)), (a_words, .inl (cA.1 1, 105, .inr (.inl g_38)))]) ⟨hx, hb, hml, hown, hts⟩ hK hE hT hP hD hS hA (r_next2 l G cA h0 m_status m_thrown m_above m_under a_traySort a_trayMany a_numbers a_tape m_taped m_textEnd m_faultKind m_faultAt m_bad m_badAt n_11 n_12 n_13 n_14 n_15 n_16 a_c a_words m_markMany a_there a_tried a_best a_found m_thereMany m_foundMany m_orderHow m_orderRing m_orderMany m_hasBest m_bestTop m_bestBy a_weights a_shared m_random m_truePlace m_trueWay m_seconds m_done m_feelings m_tries m_leftOver m_playDoor m_playRing m_isOpen m_isOver m_wasTried m_hasPlayed a_feltNow a_last a_kept m_hasSeconds m_hasTurned m_hasRound a_hasFeels a_isOn m_firstAct m_meanTop m_meanBy a_order m_rowMany m_newSteps g_tape hr_m_textEnd hr_n_12 hr_n_13 hr_n_11 hr_n_14 hr_n_15) lk_RX12_184 ⟨rfl, rfl⟩ ⟨Nat.le_of_ble_eq_true rfl, Nat.le_of_ble_eq_true rfl⟩ 12 rfl rfl rfl [1, 0] [2, 3] rfl rfl (by decide) rfl hl.1 rfl (lv_room (Nat.le_of_ble_eq_true rfl)) dX12_readNew_108 ⟨Nat.le_of_ble_eq_true rfl, Nat.le_of_ble_eq_true rfl⟩ (fun u_46 H locs hw hP hD hS => ?_)
          obtain ⟨n_39, n_40, n_41, n_42, n_43, n_44⟩ := u_46
          try dsimp only at hw
          obtain ⟨hr_n_39, hr_n_40, hr_n_41, hr_n_42, hr_n_43, hf_47, hf_48⟩ := hw
          refine lv_iload hx hb dX12_readNew_111 (lv_at hl 0 rfl) ?_
          have hpost : (0 ≤ x_1.toInt ∧ x_1.toInt ≤ 9) ∧ (0 ≤ m_bad.toInt ∧ m_bad.toInt ≤ 9) ∧ (0 ≤ n_39.toInt ∧ n_39.toInt ≤ 4) ∧ (0 ≤ n_40.toInt ∧ n_40.toInt ≤ 900) ∧ (0 ≤ n_41.toInt ∧ n_41.toInt ≤ 900) ∧ (0 ≤ n_42.toInt ∧ n_42.toInt ≤ 9999) ∧ (0 ≤ n_43.toInt ∧ n_43.toInt ≤ 900) ∧ (m_behind.toInt ≤ n_41.toInt) ∧ (0 < m_bad.toInt → 0 < m_bad.toInt) ∧ (m_bad.toInt ≤ 0 → n_39.toInt = 0 ∨ m_behind.toInt < n_41.toInt) ∧ (m_bad.toInt ≤ 0 → x_1.toInt = (g_c 1461).toInt) ∧ (x_1.toInt < 10) := ⟨(by omega), hr_m_bad, hr_n_39, hr_n_40, hr_n_41, hr_n_42, hr_n_43, (by omega), (by omega), (by omega), (by omega), (by omega)⟩
          exact hret _ _ _ _ _ _ (m_bad, m_badAt, n_39, n_40, n_41, n_42, n_43, n_44, g_38) [2, 3, 0, 1] hP hD hS rfl (by decide) dX12_readNew_113 hpost
        · skip
          refine lv_if_eq (tgt := 82) hx hb dX12_readNew_70 (by decide) (fun h9 => absurd h9 (by decide +kernel)) (fun _ => ?_)
          refine lv_aload_n hx hb dX12_readNew_73 rfl (lv_at hl 1 rfl) ?_
          refine lv_iconst (v := 3) hx hb dX12_readNew_74 (by decide) ?_
          refine lv_aload_n hx hb dX12_readNew_75 rfl (lv_at hl 1 rfl) ?_
          refine va_get (D := G) (ci := 12) (v := .int n_12) (C := RX12) (T := TX12) (N := 65) hx hb hts inT12 hown hK hP 1 rfl rfl 15 (by decide) (hts _ tw_1900) (fun _ h9 => h9) rfl dX12_readNew_76 ?_
          refine z_callVv (As := [.int 3, .int n_12]) (rest := []) (wr := [(a_tape, .inl (cA.1 2, 900, .inl g_tape)), (a_c, .inl (cA.1 0, 1825, .inl g_c)), (a_words, .inl (cA.1 1, 105, .inr (.inl g_words)))]) ⟨hx, hb, hml, hown, hts⟩ hK hE hT hP hD hS hA (r_fail l G cA h0 m_status m_thrown m_above m_under a_traySort a_trayMany a_numbers a_tape m_taped m_textEnd m_faultKind m_faultAt m_bad m_badAt n_11 n_12 n_13 n_14 n_15 n_16 a_c a_words m_markMany a_there a_tried a_best a_found m_thereMany m_foundMany m_orderHow m_orderRing m_orderMany m_hasBest m_bestTop m_bestBy a_weights a_shared m_random m_truePlace m_trueWay m_seconds m_done m_feelings m_tries m_leftOver m_playDoor m_playRing m_isOpen m_isOver m_wasTried m_hasPlayed a_feltNow a_last a_kept m_hasSeconds m_hasTurned m_hasRound a_hasFeels a_isOn m_firstAct m_meanTop m_meanBy a_order m_rowMany m_newSteps 3 n_12 (by decide +kernel) hr_m_bad) lk_RX12_180 ⟨rfl, rfl⟩ ⟨Nat.le_of_ble_eq_true rfl, Nat.le_of_ble_eq_true rfl⟩ 12 rfl rfl rfl [1] [0, 2, 3] rfl rfl (by decide) rfl hl.1 rfl (lv_room (Nat.le_of_ble_eq_true rfl)) dX12_readNew_79 ⟨Nat.le_of_ble_eq_true rfl, Nat.le_of_ble_eq_true rfl⟩ (fun u_52 H locs hw hP hD hS => ?_)
          obtain ⟨n_49, n_50⟩ := u_52
          try dsimp only at hw
          obtain ⟨hr_n_49, hf_53⟩ := hw
          refine lv_aload_n hx hb dX12_readNew_82 rfl (lv_at hl 1 rfl) ?_
          refine va_get (D := G) (ci := 12) (v := .int n_49) (C := RX12) (T := TX12) (N := 65) hx hb hts inT12 hown hK hP 3 rfl rfl 12 (by decide) (hts _ tw_1897) (fun _ h9 => h9) rfl dX12_readNew_83 ?_
          refine lv_if_le (tgt := 91) hx hb dX12_readNew_86 (by decide) (fun h9 => (z_no (by have h8 := z_fleT h9; omega))) (fun c_54 => ?_)
          have b_55 := z_fgtF c_54
          refine lv_iconst (v := 0) hx hb dX12_readNew_89 (by decide) ?_
          have hpost : (0 ≤ (0 : Int32).toInt ∧ (0 : Int32).toInt ≤ 9) ∧ (0 ≤ n_49.toInt ∧ n_49.toInt ≤ 9) ∧ (0 ≤ n_11.toInt ∧ n_11.toInt ≤ 4) ∧ (0 ≤ n_12.toInt ∧ n_12.toInt ≤ 900) ∧ (0 ≤ n_13.toInt ∧ n_13.toInt ≤ 900) ∧ (0 ≤ n_14.toInt ∧ n_14.toInt ≤ 9999) ∧ (0 ≤ n_15.toInt ∧ n_15.toInt ≤ 900) ∧ (m_behind.toInt ≤ n_13.toInt) ∧ (0 < m_bad.toInt → 0 < n_49.toInt) ∧ (n_49.toInt ≤ 0 → n_11.toInt = 0 ∨ m_behind.toInt < n_13.toInt) ∧ (n_49.toInt ≤ 0 → (0 : Int32).toInt = (g_c 1461).toInt) ∧ ((0 : Int32).toInt < 10) := ⟨(by decide +kernel), (z_rgw hr_n_49 (by decide) (by decide)), hr_n_11, hr_n_12, hr_n_13, hr_n_14, hr_n_15, (by omega), (by omega), (by omega), (by omega), (by omega)⟩
          exact hret _ _ _ _ _ _ (n_49, n_50, n_11, n_12, n_13, n_14, n_15, n_16, g_words) [3, 0, 1, 2] hP hD hS rfl (by decide) dX12_readNew_90 hpost
    · have b_56 := z_feqF c_7
      refine lv_aload_n hx hb dX12_readNew_25 rfl (lv_at hl 1 rfl) ?_
      refine lv_bipush (v := 6) hx hb dX12_readNew_26 (by decide) ?_
      refine lv_aload_n hx hb dX12_readNew_28 rfl (lv_at hl 1 rfl) ?_
      refine va_get (D := G) (ci := 12) (v := .int m_at) (C := RX12) (T := TX12) (N := 65) hx hb hts inT12 hown hK hP 0 rfl rfl 15 (by decide) (hts _ tw_1900) (fun _ h9 => h9) rfl dX12_readNew_29 ?_
      refine z_callVv (As := [.int 6, .int m_at]) (rest := []) (wr := [(a_tape, .inl (cA.1 2, 900, .inl g_tape)), (a_c, .inl (cA.1 0, 1825, .inl g_c)), (a_words, .inl (cA.1 1, 105, .inr (.inl g_words)))]) ⟨hx, hb, hml, hown, hts⟩ hK hE hT hP hD hS hA (r_fail l G cA h0 m_status m_thrown m_above m_under a_traySort a_trayMany a_numbers a_tape m_taped m_textEnd m_faultKind m_faultAt m_bad m_badAt m_token m_at m_behind m_number m_letters m_word a_c a_words m_markMany a_there a_tried a_best a_found m_thereMany m_foundMany m_orderHow m_orderRing m_orderMany m_hasBest m_bestTop m_bestBy a_weights a_shared m_random m_truePlace m_trueWay m_seconds m_done m_feelings m_tries m_leftOver m_playDoor m_playRing m_isOpen m_isOver m_wasTried m_hasPlayed a_feltNow a_last a_kept m_hasSeconds m_hasTurned m_hasRound a_hasFeels a_isOn m_firstAct m_meanTop m_meanBy a_order m_rowMany m_newSteps 6 m_at (by decide +kernel) hr_m_bad) lk_RX12_180 ⟨rfl, rfl⟩ ⟨Nat.le_of_ble_eq_true rfl, Nat.le_of_ble_eq_true rfl⟩ 12 rfl rfl rfl [0] [1, 2, 3] rfl rfl (by decide) rfl hl.1 rfl (lv_room (Nat.le_of_ble_eq_true rfl)) dX12_readNew_32 ⟨Nat.le_of_ble_eq_true rfl, Nat.le_of_ble_eq_true rfl⟩ (fun u_60 H locs hw hP hD hS => ?_)
      obtain ⟨n_57, n_58⟩ := u_60
      try dsimp only at hw
      obtain ⟨hr_n_57, hf_61⟩ := hw
      refine lv_aload_n hx hb dX12_readNew_35 rfl (lv_at hl 1 rfl) ?_
      refine va_get (D := G) (ci := 12) (v := .int n_57) (C := RX12) (T := TX12) (N := 65) hx hb hts inT12 hown hK hP 3 rfl rfl 12 (by decide) (hts _ tw_1897) (fun _ h9 => h9) rfl dX12_readNew_36 ?_
      refine lv_if_le (tgt := 44) hx hb dX12_readNew_39 (by decide) (fun h9 => (z_no (by have h8 := z_fleT h9; omega))) (fun c_62 => ?_)
      have b_63 := z_fgtF c_62
      refine lv_iconst (v := 0) hx hb dX12_readNew_42 (by decide) ?_
      have hpost : (0 ≤ (0 : Int32).toInt ∧ (0 : Int32).toInt ≤ 9) ∧ (0 ≤ n_57.toInt ∧ n_57.toInt ≤ 9) ∧ (0 ≤ m_token.toInt ∧ m_token.toInt ≤ 4) ∧ (0 ≤ m_at.toInt ∧ m_at.toInt ≤ 900) ∧ (0 ≤ m_behind.toInt ∧ m_behind.toInt ≤ 900) ∧ (0 ≤ m_number.toInt ∧ m_number.toInt ≤ 9999) ∧ (0 ≤ m_letters.toInt ∧ m_letters.toInt ≤ 900) ∧ (m_behind.toInt ≤ m_behind.toInt) ∧ (0 < m_bad.toInt → 0 < n_57.toInt) ∧ (n_57.toInt ≤ 0 → m_token.toInt = 0 ∨ m_behind.toInt < m_behind.toInt) ∧ (n_57.toInt ≤ 0 → (0 : Int32).toInt = (g_c 1461).toInt) ∧ ((0 : Int32).toInt < 10) := ⟨(by decide +kernel), (z_rgw hr_n_57 (by decide) (by decide)), hr_m_token, hr_m_at, hr_m_behind, hr_m_number, hr_m_letters, (by omega), (by omega), (by omega), (by omega), (by omega)⟩
      exact hret _ _ _ _ _ _ (n_57, n_58, m_token, m_at, m_behind, m_number, m_letters, m_word, g_words) [3, 0, 1, 2] hP hD hS rfl (by decide) dX12_readNew_43 hpost
set_option maxHeartbeats 4000000 in
set_option maxRecDepth 100000 in
theorem r_readOld_1 (l : Launch) (G : va_G) (cA : zCA) (h0 : Nat) (m_status : Int32) (m_thrown : Int32) (m_above : Int64) (m_under : Int64) (a_traySort : Nat) (a_trayMany : Nat) (a_numbers : Nat) (a_tape : Nat) (m_taped : Int32) (m_textEnd : Int32) (m_faultKind : Int32) (m_faultAt : Int32) (m_bad : Int32) (m_badAt : Int32) (m_token : Int32) (m_at : Int32) (m_behind : Int32) (m_number : Int32) (m_letters : Int32) (m_word : Int64) (a_c : Nat) (a_words : Nat) (m_markMany : Int32) (a_there : Nat) (a_tried : Nat) (a_best : Nat) (a_found : Nat) (m_thereMany : Int32) (m_foundMany : Int32) (m_orderHow : Int32) (m_orderRing : Int32) (m_orderMany : Int32) (m_hasBest : Int32) (m_bestTop : Int64) (m_bestBy : Int64) (a_weights : Nat) (a_shared : Nat) (m_random : Int32) (m_truePlace : Int32) (m_trueWay : Int32) (m_seconds : Int32) (m_done : Int32) (m_feelings : Int32) (m_tries : Int32) (m_leftOver : Int32) (m_playDoor : Int32) (m_playRing : Int32) (m_isOpen : Int32) (m_isOver : Int32) (m_wasTried : Int32) (m_hasPlayed : Int32) (a_feltNow : Nat) (a_last : Nat) (a_kept : Nat) (m_hasSeconds : Int32) (m_hasTurned : Int32) (m_hasRound : Int32) (a_hasFeels : Nat) (a_isOn : Nat) (m_firstAct : Int32) (m_meanTop : Int64) (m_meanBy : Int64) (a_order : Nat) (m_rowMany : Int32) (m_newSteps : Int32) (g_c : Nat → Int32) (g_words : Nat → Int64) (hr_m_at : 0 ≤ m_at.toInt ∧ m_at.toInt ≤ 900) (hr_m_bad : 0 ≤ m_bad.toInt ∧ m_bad.toInt ≤ 9) (hr_m_token : 0 ≤ m_token.toInt ∧ m_token.toInt ≤ 4) (hr_m_letters : 0 ≤ m_letters.toInt ∧ m_letters.toInt ≤ 900) (hC_g_c : zC g_c) : zCi l yX12_readOld cX12_readOld 4 (some .int) ({ frames := 3, cells := 0, slots := 0, locals := 67 }) G cA [.ref h0, .int 1, .int 3] [(h0, .inr (12, [.int m_status, .int m_thrown, .long m_above, .long m_under, .ref a_traySort, .ref a_trayMany, .ref a_numbers, .ref a_tape, .int m_taped, .int m_textEnd, .int m_faultKind, .int m_faultAt, .int m_bad, .int m_badAt, .int m_token, .int m_at, .int m_behind, .int m_number, .int m_letters, .long m_word, .ref a_c, .ref a_words, .int m_markMany, .ref a_there, .ref a_tried, .ref a_best, .ref a_found, .int m_thereMany, .int m_foundMany, .int m_orderHow, .int m_orderRing, .int m_orderMany, .int m_hasBest, .long m_bestTop, .long m_bestBy, .ref a_weights, .ref a_shared, .int m_random, .int m_truePlace, .int m_trueWay, .int m_seconds, .int m_done, .int m_feelings, .int m_tries, .int m_leftOver, .int m_playDoor, .int m_playRing, .int m_isOpen, .int m_isOver, .int m_wasTried, .int m_hasPlayed, .ref a_feltNow, .ref a_last, .ref a_kept, .int m_hasSeconds, .int m_hasTurned, .int m_hasRound, .ref a_hasFeels, .ref a_isOn, .int m_firstAct, .long m_meanTop, .long m_meanBy, .ref a_order, .int m_rowMany, .int m_newSteps])), (a_c, .inl (cA.1 0, 1825, .inl g_c)), (a_words, .inl (cA.1 1, 105, .inr (.inl g_words)))] (S := Int32 × Int32) (fun (r : Int32) (u : Int32 × Int32) => ((-1) ≤ r.toInt ∧ r.toInt ≤ 9) ∧ (0 ≤ u.1.toInt ∧ u.1.toInt ≤ 9) ∧ (m_behind.toInt ≤ m_behind.toInt) ∧ (0 < m_bad.toInt → 0 < u.1.toInt) ∧ (u.1.toInt ≤ 0 → 0 ≤ r.toInt ∧ r.toInt < (g_c 1461).toInt)) (fun (u : Int32 × Int32) => [(h0, .inr (12, [.int m_status, .int m_thrown, .long m_above, .long m_under, .ref a_traySort, .ref a_trayMany, .ref a_numbers, .ref a_tape, .int m_taped, .int m_textEnd, .int m_faultKind, .int m_faultAt, .int u.1, .int u.2, .int m_token, .int m_at, .int m_behind, .int m_number, .int m_letters, .long m_word, .ref a_c, .ref a_words, .int m_markMany, .ref a_there, .ref a_tried, .ref a_best, .ref a_found, .int m_thereMany, .int m_foundMany, .int m_orderHow, .int m_orderRing, .int m_orderMany, .int m_hasBest, .long m_bestTop, .long m_bestBy, .ref a_weights, .ref a_shared, .int m_random, .int m_truePlace, .int m_trueWay, .int m_seconds, .int m_done, .int m_feelings, .int m_tries, .int m_leftOver, .int m_playDoor, .int m_playRing, .int m_isOpen, .int m_isOver, .int m_wasTried, .int m_hasPlayed, .ref a_feltNow, .ref a_last, .ref a_kept, .int m_hasSeconds, .int m_hasTurned, .int m_hasRound, .ref a_hasFeels, .ref a_isOn, .int m_firstAct, .long m_meanTop, .long m_meanBy, .ref a_order, .int m_rowMany, .int m_newSteps])), (a_c, .inl (cA.1 0, 1825, .inl g_c)), (a_words, .inl (cA.1 1, 105, .inr (.inl g_words)))]) 0 0 := by
  have hk_0 : (0 : Int32).toInt = 0 := by decide +kernel
  have hk_3 : (3 : Int32).toInt = 3 := by decide +kernel
  have hk_4 : (4 : Int32).toInt = 4 := by decide +kernel
  refine z_start2i (own := RX12) (by decide) (Nat.le_of_ble_eq_true rfl) rfl ?_
  intro p e s m args below meth c A ls Q hx hb hml hts hown hK hE hT hP hD hS hA hl hret
  have hl : lv_has ls 4 [(0, .ref h0), (1, .int 1), (2, .int 3)] := hl
  refine lv_aload_n hx hb dX12_readOld_0 rfl (lv_at hl 0 rfl) ?_
  refine va_get (D := G) (ci := 12) (v := .int m_bad) (C := RX12) (T := TX12) (N := 65) hx hb hts inT12 hown hK hP 0 rfl rfl 12 (by decide) (hts _ tw_1897) (fun _ h9 => h9) rfl dX12_readOld_1 ?_
  refine lv_if_ne (tgt := 18) hx hb dX12_readOld_4 (by decide) (fun c_1 => ?_) (fun c_1 => ?_)
  · have b_2 := z_fneT c_1
    refine lv_aload_n hx hb dX12_readOld_18 rfl (lv_at hl 0 rfl) ?_
    refine va_get (D := G) (ci := 12) (v := .int m_bad) (C := RX12) (T := TX12) (N := 65) hx hb hts inT12 hown hK hP 0 rfl rfl 12 (by decide) (hts _ tw_1897) (fun _ h9 => h9) rfl dX12_readOld_19 ?_
    refine lv_if_ne (tgt := 44) hx hb dX12_readOld_22 (by decide) (fun c_3 => ?_) (fun h9 => (z_no (by have h8 := z_feqF h9; omega)))
    have b_4 := z_fneT c_3
    refine lv_iconst (v := 0) hx hb dX12_readOld_44 (by decide) ?_
    refine lv_istore_n (lv' := [(3, .int 0), (0, .ref h0), (1, .int 1), (2, .int 3)]) hx hb dX12_readOld_45 rfl hl (by decide) rfl (fun ls hl => ?_)
    refine lv_aload_n hx hb dX12_readOld_46 rfl (lv_at hl 1 rfl) ?_
    refine va_get (D := G) (ci := 12) (v := .int m_bad) (C := RX12) (T := TX12) (N := 65) hx hb hts inT12 hown hK hP 0 rfl rfl 12 (by decide) (hts _ tw_1897) (fun _ h9 => h9) rfl dX12_readOld_47 ?_
    refine lv_if_ne (tgt := 66) hx hb dX12_readOld_50 (by decide) (fun c_5 => ?_) (fun h9 => (z_no (by have h8 := z_feqF h9; omega)))
    have b_6 := z_fneT c_5
    refine lv_iload_n hx hb dX12_readOld_66 rfl (lv_at hl 0 rfl) ?_
    have hpost : ((-1) ≤ (0 : Int32).toInt ∧ (0 : Int32).toInt ≤ 9) ∧ (0 ≤ m_bad.toInt ∧ m_bad.toInt ≤ 9) ∧ (m_behind.toInt ≤ m_behind.toInt) ∧ (0 < m_bad.toInt → 0 < m_bad.toInt) ∧ (m_bad.toInt ≤ 0 → 0 ≤ (0 : Int32).toInt ∧ (0 : Int32).toInt < (g_c 1461).toInt) := ⟨(by decide +kernel), hr_m_bad, (by omega), (by omega), (by omega)⟩
    exact hret _ _ _ _ _ _ (m_bad, m_badAt) [0, 1, 2] hP hD hS rfl (by decide) dX12_readOld_67 hpost
  · have b_7 := z_feqF c_1
    refine lv_aload_n hx hb dX12_readOld_7 rfl (lv_at hl 0 rfl) ?_
    refine z_callVi (As := []) (rest := []) (wr := [(a_c, .inl (cA.1 0, 1825, .inl g_c)), (a_words, .inl (cA.1 1, 105, .inr (.inl g_words)))]) ⟨hx, hb, hml, hown, hts⟩ hK hE hT hP hD hS hA (r_isHouseName l G cA h0 m_status m_thrown m_above m_under a_traySort a_trayMany a_numbers a_tape m_taped m_textEnd m_faultKind m_faultAt m_bad m_badAt m_token m_at m_behind m_number m_letters m_word a_c a_words m_markMany a_there a_tried a_best a_found m_thereMany m_foundMany m_orderHow m_orderRing m_orderMany m_hasBest m_bestTop m_bestBy a_weights a_shared m_random m_truePlace m_trueWay m_seconds m_done m_feelings m_tries m_leftOver m_playDoor m_playRing m_isOpen m_isOver m_wasTried m_hasPlayed a_feltNow a_last a_kept m_hasSeconds m_hasTurned m_hasRound a_hasFeels a_isOn m_firstAct m_meanTop m_meanBy a_order m_rowMany m_newSteps hr_m_token hr_m_letters) lk_RX12_200 ⟨rfl, rfl⟩ ⟨Nat.le_of_ble_eq_true rfl, Nat.le_of_ble_eq_true rfl⟩ 12 rfl rfl rfl [0] [1, 2] rfl rfl (by decide) rfl hl.1 rfl (lv_room (Nat.le_of_ble_eq_true rfl)) dX12_readOld_8 ⟨Nat.le_of_ble_eq_true rfl, Nat.le_of_ble_eq_true rfl⟩ (fun r_8 u_9 H locs hw hP hD hS => ?_)
    rcases hw with ⟨rfl, -⟩ | ⟨rfl, -⟩
    · skip
      refine lv_if_ne (tgt := 18) hx hb dX12_readOld_11 (by decide) (fun h9 => absurd (by decide +kernel) h9) (fun _ => ?_)
      refine lv_aload_n hx hb dX12_readOld_14 rfl (lv_at hl 0 rfl) ?_
      refine z_callVv (As := []) (rest := []) (wr := [(a_c, .inl (cA.1 0, 1825, .inl g_c)), (a_words, .inl (cA.1 1, 105, .inr (.inl g_words)))]) ⟨hx, hb, hml, hown, hts⟩ hK hE hT hP hD hS hA (r_wrong l G cA h0 m_status m_thrown m_above m_under a_traySort a_trayMany a_numbers a_tape m_taped m_textEnd m_faultKind m_faultAt m_bad m_badAt m_token m_at m_behind m_number m_letters m_word a_c a_words m_markMany a_there a_tried a_best a_found m_thereMany m_foundMany m_orderHow m_orderRing m_orderMany m_hasBest m_bestTop m_bestBy a_weights a_shared m_random m_truePlace m_trueWay m_seconds m_done m_feelings m_tries m_leftOver m_playDoor m_playRing m_isOpen m_isOver m_wasTried m_hasPlayed a_feltNow a_last a_kept m_hasSeconds m_hasTurned m_hasRound a_hasFeels a_isOn m_firstAct m_meanTop m_meanBy a_order m_rowMany m_newSteps hr_m_at hr_m_bad hr_m_token) lk_RX12_187 ⟨rfl, rfl⟩ ⟨Nat.le_of_ble_eq_true rfl, Nat.le_of_ble_eq_true rfl⟩ 12 rfl rfl rfl [2] [0, 1] rfl rfl (by decide) rfl hl.1 rfl (lv_room (Nat.le_of_ble_eq_true rfl)) dX12_readOld_15 ⟨Nat.le_of_ble_eq_true rfl, Nat.le_of_ble_eq_true rfl⟩ (fun u_13 H locs hw hP hD hS => ?_)
      obtain ⟨n_10, n_11⟩ := u_13
      try dsimp only at hw
      have hr_n_10 := hw
      refine lv_aload_n hx hb dX12_readOld_18 rfl (lv_at hl 0 rfl) ?_
      refine va_get (D := G) (ci := 12) (v := .int n_10) (C := RX12) (T := TX12) (N := 65) hx hb hts inT12 hown hK hP 2 rfl rfl 12 (by decide) (hts _ tw_1897) (fun _ h9 => h9) rfl dX12_readOld_19 ?_
      refine lv_if_ne (tgt := 44) hx hb dX12_readOld_22 (by decide) (fun c_14 => ?_) (fun h9 => (z_no (by have h8 := z_feqF h9; omega)))
      have b_15 := z_fneT c_14
      refine lv_iconst (v := 0) hx hb dX12_readOld_44 (by decide) ?_
      refine lv_istore_n (lv' := [(3, .int 0), (0, .ref h0), (1, .int 1), (2, .int 3)]) hx hb dX12_readOld_45 rfl hl (by decide) rfl (fun ls hl => ?_)
      refine lv_aload_n hx hb dX12_readOld_46 rfl (lv_at hl 1 rfl) ?_
      refine va_get (D := G) (ci := 12) (v := .int n_10) (C := RX12) (T := TX12) (N := 65) hx hb hts inT12 hown hK hP 2 rfl rfl 12 (by decide) (hts _ tw_1897) (fun _ h9 => h9) rfl dX12_readOld_47 ?_
      refine lv_if_ne (tgt := 66) hx hb dX12_readOld_50 (by decide) (fun c_16 => ?_) (fun h9 => (z_no (by have h8 := z_feqF h9; omega)))
      have b_17 := z_fneT c_16
      refine lv_iload_n hx hb dX12_readOld_66 rfl (lv_at hl 0 rfl) ?_
      have hpost : ((-1) ≤ (0 : Int32).toInt ∧ (0 : Int32).toInt ≤ 9) ∧ (0 ≤ n_10.toInt ∧ n_10.toInt ≤ 9) ∧ (m_behind.toInt ≤ m_behind.toInt) ∧ (0 < m_bad.toInt → 0 < n_10.toInt) ∧ (n_10.toInt ≤ 0 → 0 ≤ (0 : Int32).toInt ∧ (0 : Int32).toInt < (g_c 1461).toInt) := ⟨(by decide +kernel), (z_rgw hr_n_10 (by decide) (by decide)), (by omega), (by omega), (by omega)⟩
      exact hret _ _ _ _ _ _ (n_10, n_11) [2, 0, 1] hP hD hS rfl (by decide) dX12_readOld_67 hpost
    · skip
      refine lv_if_ne (tgt := 18) hx hb dX12_readOld_11 (by decide) (fun _ => ?_) (fun h9 => absurd h9 (by decide +kernel))
      refine lv_aload_n hx hb dX12_readOld_18 rfl (lv_at hl 0 rfl) ?_
      refine va_get (D := G) (ci := 12) (v := .int m_bad) (C := RX12) (T := TX12) (N := 65) hx hb hts inT12 hown hK hP 2 rfl rfl 12 (by decide) (hts _ tw_1897) (fun _ h9 => h9) rfl dX12_readOld_19 ?_
      refine lv_if_ne (tgt := 44) hx hb dX12_readOld_22 (by decide) (fun h9 => (z_no (by have h8 := z_fneT h9; omega))) (fun c_18 => ?_)
      have b_19 := z_feqF c_18
      refine lv_aload_n hx hb dX12_readOld_25 rfl (lv_at hl 0 rfl) ?_
      refine lv_iconst (v := 4) hx hb dX12_readOld_26 (by decide) ?_
      refine lv_iload_n hx hb dX12_readOld_27 rfl (lv_at hl 2 rfl) ?_
      refine lv_aload_n hx hb dX12_readOld_28 rfl (lv_at hl 0 rfl) ?_
      refine va_get (D := G) (ci := 12) (v := .ref a_c) (C := RX12) (T := TX12) (N := 65) hx hb hts inT12 hown hK hP 2 rfl rfl 20 (by decide) (hts _ tw_1905) (fun _ h9 => h9) rfl dX12_readOld_29 ?_
      refine lv_sipush (v := 1460) hx hb dX12_readOld_32 (by decide) ?_
      refine lv_iload_n hx hb dX12_readOld_35 rfl (lv_at hl 1 rfl) ?_
      refine lv_iadd hx hb dX12_readOld_36 ?_
      refine z_topi (y := 1461) (by decide +kernel) ?_
      refine va_iald hx hb hK hP 0 0 rfl rfl (z_in (i := 1461) (n := 1825) (by decide +kernel) (by decide +kernel)) dX12_readOld_37 ?_
      refine lv_topi (fun x_20 he_x_20 => ?_)
      have hr_x_20 := z_ctk hC_g_c he_x_20 (k := 1461) (lo := 0) (hi := 10) (by decide +kernel) (by decide +kernel) (by decide +kernel)
      have hv_x_20 := z_cv he_x_20 (k := 1461) (by decide +kernel)
      refine z_callVi (As := [.int 4, .int 3, .int x_20]) (rest := []) (wr := [(a_c, .inl (cA.1 0, 1825, .inl g_c))]) ⟨hx, hb, hml, hown, hts⟩ hK hE hT hP hD hS hA (r_named_4_3 l G cA h0 m_status m_thrown m_above m_under a_traySort a_trayMany a_numbers a_tape m_taped m_textEnd m_faultKind m_faultAt m_bad m_badAt m_token m_at m_behind m_number m_letters m_word a_c a_words m_markMany a_there a_tried a_best a_found m_thereMany m_foundMany m_orderHow m_orderRing m_orderMany m_hasBest m_bestTop m_bestBy a_weights a_shared m_random m_truePlace m_trueWay m_seconds m_done m_feelings m_tries m_leftOver m_playDoor m_playRing m_isOpen m_isOver m_wasTried m_hasPlayed a_feltNow a_last a_kept m_hasSeconds m_hasTurned m_hasRound a_hasFeels a_isOn m_firstAct m_meanTop m_meanBy a_order m_rowMany m_newSteps g_words x_20 hr_x_20) lk_RX12_196 ⟨rfl, rfl⟩ ⟨Nat.le_of_ble_eq_true rfl, Nat.le_of_ble_eq_true rfl⟩ 12 rfl rfl rfl [2, 1] [0] rfl rfl (by decide) rfl hl.1 rfl (lv_room (Nat.le_of_ble_eq_true rfl)) dX12_readOld_38 ⟨Nat.le_of_ble_eq_true rfl, Nat.le_of_ble_eq_true rfl⟩ (fun r_21 u_22 H locs hw hP hD hS => ?_)
      obtain ⟨hr_r_21, hf_23⟩ := hw
      refine lv_goto (tgt := 45) hx hb dX12_readOld_41 (by decide) ?_
      refine lv_istore_n (lv' := [(3, .int r_21), (0, .ref h0), (1, .int 1), (2, .int 3)]) hx hb dX12_readOld_45 rfl hl (by decide) rfl (fun ls hl => ?_)
      refine lv_aload_n hx hb dX12_readOld_46 rfl (lv_at hl 1 rfl) ?_
      refine va_get (D := G) (ci := 12) (v := .int m_bad) (C := RX12) (T := TX12) (N := 65) hx hb hts inT12 hown hK hP 1 rfl rfl 12 (by decide) (hts _ tw_1897) (fun _ h9 => h9) rfl dX12_readOld_47 ?_
      refine lv_if_ne (tgt := 66) hx hb dX12_readOld_50 (by decide) (fun h9 => (z_no (by have h8 := z_fneT h9; omega))) (fun c_24 => ?_)
      have b_25 := z_feqF c_24
      refine lv_iload_n hx hb dX12_readOld_53 rfl (lv_at hl 0 rfl) ?_
      refine lv_if_ge (tgt := 66) hx hb dX12_readOld_54 (by decide) (fun c_26 => ?_) (fun c_26 => ?_)
      · have b_27 := z_fgeT c_26
        refine lv_iload_n hx hb dX12_readOld_66 rfl (lv_at hl 0 rfl) ?_
        have hpost : ((-1) ≤ r_21.toInt ∧ r_21.toInt ≤ 9) ∧ (0 ≤ m_bad.toInt ∧ m_bad.toInt ≤ 9) ∧ (m_behind.toInt ≤ m_behind.toInt) ∧ (0 < m_bad.toInt → 0 < m_bad.toInt) ∧ (m_bad.toInt ≤ 0 → 0 ≤ r_21.toInt ∧ r_21.toInt < (g_c 1461).toInt) := ⟨hr_r_21, hr_m_bad, (by omega), (by omega), (by omega)⟩
        exact hret _ _ _ _ _ _ (m_bad, m_badAt) [1, 0, 2] hP hD hS rfl (by decide) dX12_readOld_67 hpost
      · have b_28 := z_fltF c_26
        refine lv_aload_n hx hb dX12_readOld_57 rfl (lv_at hl 1 rfl) ?_
        refine lv_iconst (v := 3) hx hb dX12_readOld_58 (by decide) ?_
        refine lv_aload_n hx hb dX12_readOld_59 rfl (lv_at hl 1 rfl) ?_
        refine va_get (D := G) (ci := 12) (v := .int m_at) (C := RX12) (T := TX12) (N := 65) hx hb hts inT12 hown hK hP 1 rfl rfl 15 (by decide) (hts _ tw_1900) (fun _ h9 => h9) rfl dX12_readOld_60 ?_
        refine z_callVv (As := [.int 3, .int m_at]) (rest := []) (wr := [(a_c, .inl (cA.1 0, 1825, .inl g_c)), (a_words, .inl (cA.1 1, 105, .inr (.inl g_words)))]) ⟨hx, hb, hml, hown, hts⟩ hK hE hT hP hD hS hA (r_fail l G cA h0 m_status m_thrown m_above m_under a_traySort a_trayMany a_numbers a_tape m_taped m_textEnd m_faultKind m_faultAt m_bad m_badAt m_token m_at m_behind m_number m_letters m_word a_c a_words m_markMany a_there a_tried a_best a_found m_thereMany m_foundMany m_orderHow m_orderRing m_orderMany m_hasBest m_bestTop m_bestBy a_weights a_shared m_random m_truePlace m_trueWay m_seconds m_done m_feelings m_tries m_leftOver m_playDoor m_playRing m_isOpen m_isOver m_wasTried m_hasPlayed a_feltNow a_last a_kept m_hasSeconds m_hasTurned m_hasRound a_hasFeels a_isOn m_firstAct m_meanTop m_meanBy a_order m_rowMany m_newSteps 3 m_at (by decide +kernel) hr_m_bad) lk_RX12_180 ⟨rfl, rfl⟩ ⟨Nat.le_of_ble_eq_true rfl, Nat.le_of_ble_eq_true rfl⟩ 12 rfl rfl rfl [1] [0, 2] rfl rfl (by decide) rfl hl.1 rfl (lv_room (Nat.le_of_ble_eq_true rfl)) dX12_readOld_63 ⟨Nat.le_of_ble_eq_true rfl, Nat.le_of_ble_eq_true rfl⟩ (fun u_32 H locs hw hP hD hS => ?_)
        obtain ⟨n_29, n_30⟩ := u_32
        try dsimp only at hw
        obtain ⟨hr_n_29, hf_33⟩ := hw
        refine lv_iload_n hx hb dX12_readOld_66 rfl (lv_at hl 0 rfl) ?_
        have hpost : ((-1) ≤ r_21.toInt ∧ r_21.toInt ≤ 9) ∧ (0 ≤ n_29.toInt ∧ n_29.toInt ≤ 9) ∧ (m_behind.toInt ≤ m_behind.toInt) ∧ (0 < m_bad.toInt → 0 < n_29.toInt) ∧ (n_29.toInt ≤ 0 → 0 ≤ r_21.toInt ∧ r_21.toInt < (g_c 1461).toInt) := ⟨hr_r_21, (z_rgw hr_n_29 (by decide) (by decide)), (by omega), (by omega), (by omega)⟩
        exact hret _ _ _ _ _ _ (n_29, n_30) [2, 0, 1] hP hD hS rfl (by decide) dX12_readOld_67 hpost
set_option maxHeartbeats 4000000 in
set_option maxRecDepth 100000 in
theorem r_readNew_2 (l : Launch) (G : va_G) (cA : zCA) (h0 : Nat) (m_status : Int32) (m_thrown : Int32) (m_above : Int64) (m_under : Int64) (a_traySort : Nat) (a_trayMany : Nat) (a_numbers : Nat) (a_tape : Nat) (m_taped : Int32) (m_textEnd : Int32) (m_faultKind : Int32) (m_faultAt : Int32) (m_bad : Int32) (m_badAt : Int32) (m_token : Int32) (m_at : Int32) (m_behind : Int32) (m_number : Int32) (m_letters : Int32) (m_word : Int64) (a_c : Nat) (a_words : Nat) (m_markMany : Int32) (a_there : Nat) (a_tried : Nat) (a_best : Nat) (a_found : Nat) (m_thereMany : Int32) (m_foundMany : Int32) (m_orderHow : Int32) (m_orderRing : Int32) (m_orderMany : Int32) (m_hasBest : Int32) (m_bestTop : Int64) (m_bestBy : Int64) (a_weights : Nat) (a_shared : Nat) (m_random : Int32) (m_truePlace : Int32) (m_trueWay : Int32) (m_seconds : Int32) (m_done : Int32) (m_feelings : Int32) (m_tries : Int32) (m_leftOver : Int32) (m_playDoor : Int32) (m_playRing : Int32) (m_isOpen : Int32) (m_isOver : Int32) (m_wasTried : Int32) (m_hasPlayed : Int32) (a_feltNow : Nat) (a_last : Nat) (a_kept : Nat) (m_hasSeconds : Int32) (m_hasTurned : Int32) (m_hasRound : Int32) (a_hasFeels : Nat) (a_isOn : Nat) (m_firstAct : Int32) (m_meanTop : Int64) (m_meanBy : Int64) (a_order : Nat) (m_rowMany : Int32) (m_newSteps : Int32) (g_tape : Nat → Int32) (g_c : Nat → Int32) (g_words : Nat → Int64) (hr_m_textEnd : 0 ≤ m_textEnd.toInt ∧ m_textEnd.toInt ≤ 900) (hr_m_at : 0 ≤ m_at.toInt ∧ m_at.toInt ≤ 900) (hr_m_behind : 0 ≤ m_behind.toInt ∧ m_behind.toInt ≤ 900) (hr_m_bad : 0 ≤ m_bad.toInt ∧ m_bad.toInt ≤ 9) (hr_m_token : 0 ≤ m_token.toInt ∧ m_token.toInt ≤ 4) (hr_m_number : 0 ≤ m_number.toInt ∧ m_number.toInt ≤ 9999) (hr_m_letters : 0 ≤ m_letters.toInt ∧ m_letters.toInt ≤ 900) (hC_g_c : zC g_c) : zCi l yX12_readNew cX12_readNew 5 (some .int) ({ frames := 3, cells := 0, slots := 0, locals := 67 }) G cA [.ref h0, .int 2, .int 3, .int 13] [(h0, .inr (12, [.int m_status, .int m_thrown, .long m_above, .long m_under, .ref a_traySort, .ref a_trayMany, .ref a_numbers, .ref a_tape, .int m_taped, .int m_textEnd, .int m_faultKind, .int m_faultAt, .int m_bad, .int m_badAt, .int m_token, .int m_at, .int m_behind, .int m_number, .int m_letters, .long m_word, .ref a_c, .ref a_words, .int m_markMany, .ref a_there, .ref a_tried, .ref a_best, .ref a_found, .int m_thereMany, .int m_foundMany, .int m_orderHow, .int m_orderRing, .int m_orderMany, .int m_hasBest, .long m_bestTop, .long m_bestBy, .ref a_weights, .ref a_shared, .int m_random, .int m_truePlace, .int m_trueWay, .int m_seconds, .int m_done, .int m_feelings, .int m_tries, .int m_leftOver, .int m_playDoor, .int m_playRing, .int m_isOpen, .int m_isOver, .int m_wasTried, .int m_hasPlayed, .ref a_feltNow, .ref a_last, .ref a_kept, .int m_hasSeconds, .int m_hasTurned, .int m_hasRound, .ref a_hasFeels, .ref a_isOn, .int m_firstAct, .long m_meanTop, .long m_meanBy, .ref a_order, .int m_rowMany, .int m_newSteps])), (a_tape, .inl (cA.1 2, 900, .inl g_tape)), (a_c, .inl (cA.1 0, 1825, .inl g_c)), (a_words, .inl (cA.1 1, 105, .inr (.inl g_words)))] (S := Int32 × Int32 × Int32 × Int32 × Int32 × Int32 × Int32 × Int64 × (Nat → Int64)) (fun (r : Int32) (u : Int32 × Int32 × Int32 × Int32 × Int32 × Int32 × Int32 × Int64 × (Nat → Int64)) => (0 ≤ r.toInt ∧ r.toInt ≤ 2) ∧ (0 ≤ u.1.toInt ∧ u.1.toInt ≤ 9) ∧ (0 ≤ u.2.2.1.toInt ∧ u.2.2.1.toInt ≤ 4) ∧ (0 ≤ u.2.2.2.1.toInt ∧ u.2.2.2.1.toInt ≤ 900) ∧ (0 ≤ u.2.2.2.2.1.toInt ∧ u.2.2.2.2.1.toInt ≤ 900) ∧ (0 ≤ u.2.2.2.2.2.1.toInt ∧ u.2.2.2.2.2.1.toInt ≤ 9999) ∧ (0 ≤ u.2.2.2.2.2.2.1.toInt ∧ u.2.2.2.2.2.2.1.toInt ≤ 900) ∧ (m_behind.toInt ≤ u.2.2.2.2.1.toInt) ∧ (0 < m_bad.toInt → 0 < u.1.toInt) ∧ (u.1.toInt ≤ 0 → u.2.2.1.toInt = 0 ∨ m_behind.toInt < u.2.2.2.2.1.toInt) ∧ (u.1.toInt ≤ 0 → r.toInt = (g_c 1462).toInt) ∧ (r.toInt < 3)) (fun (u : Int32 × Int32 × Int32 × Int32 × Int32 × Int32 × Int32 × Int64 × (Nat → Int64)) => [(h0, .inr (12, [.int m_status, .int m_thrown, .long m_above, .long m_under, .ref a_traySort, .ref a_trayMany, .ref a_numbers, .ref a_tape, .int m_taped, .int m_textEnd, .int m_faultKind, .int m_faultAt, .int u.1, .int u.2.1, .int u.2.2.1, .int u.2.2.2.1, .int u.2.2.2.2.1, .int u.2.2.2.2.2.1, .int u.2.2.2.2.2.2.1, .long u.2.2.2.2.2.2.2.1, .ref a_c, .ref a_words, .int m_markMany, .ref a_there, .ref a_tried, .ref a_best, .ref a_found, .int m_thereMany, .int m_foundMany, .int m_orderHow, .int m_orderRing, .int m_orderMany, .int m_hasBest, .long m_bestTop, .long m_bestBy, .ref a_weights, .ref a_shared, .int m_random, .int m_truePlace, .int m_trueWay, .int m_seconds, .int m_done, .int m_feelings, .int m_tries, .int m_leftOver, .int m_playDoor, .int m_playRing, .int m_isOpen, .int m_isOver, .int m_wasTried, .int m_hasPlayed, .ref a_feltNow, .ref a_last, .ref a_kept, .int m_hasSeconds, .int m_hasTurned, .int m_hasRound, .ref a_hasFeels, .ref a_isOn, .int m_firstAct, .long m_meanTop, .long m_meanBy, .ref a_order, .int m_rowMany, .int m_newSteps])), (a_tape, .inl (cA.1 2, 900, .inl g_tape)), (a_c, .inl (cA.1 0, 1825, .inl g_c)), (a_words, .inl (cA.1 1, 105, .inr (.inl u.2.2.2.2.2.2.2.2)))]) 0 0 := by
  have hk_0 : (0 : Int32).toInt = 0 := by decide +kernel
  have hk_3 : (3 : Int32).toInt = 3 := by decide +kernel
  have hk_6 : (6 : Int32).toInt = 6 := by decide +kernel
  have hk_97 : (97 : Int32).toInt = 97 := by decide +kernel
  refine z_start2i (own := RX12) (by decide) (Nat.le_of_ble_eq_true rfl) rfl ?_
  intro p e s m args below meth c A ls Q hx hb hml hts hown hK hE hT hP hD hS hA hl hret
  have hl : lv_has ls 5 [(0, .ref h0), (1, .int 2), (2, .int 3), (3, .int 13)] := hl
  refine lv_aload_n hx hb dX12_readNew_0 rfl (lv_at hl 0 rfl) ?_
  refine va_get (D := G) (ci := 12) (v := .ref a_c) (C := RX12) (T := TX12) (N := 65) hx hb hts inT12 hown hK hP 0 rfl rfl 20 (by decide) (hts _ tw_1905) (fun _ h9 => h9) rfl dX12_readNew_1 ?_
  refine lv_sipush (v := 1460) hx hb dX12_readNew_4 (by decide) ?_
  refine lv_iload_n hx hb dX12_readNew_7 rfl (lv_at hl 1 rfl) ?_
  refine lv_iadd hx hb dX12_readNew_8 ?_
  refine z_topi (y := 1462) (by decide +kernel) ?_
  refine va_iald hx hb hK hP 2 0 rfl rfl (z_in (i := 1462) (n := 1825) (by decide +kernel) (by decide +kernel)) dX12_readNew_9 ?_
  refine lv_topi (fun x_1 he_x_1 => ?_)
  have hr_x_1 := z_ctk hC_g_c he_x_1 (k := 1462) (lo := 0) (hi := 3) (by decide +kernel) (by decide +kernel) (by decide +kernel)
  have hv_x_1 := z_cv he_x_1 (k := 1462) (by decide +kernel)
  refine lv_istore (lv' := [(4, .int x_1), (0, .ref h0), (1, .int 2), (2, .int 3), (3, .int 13)]) hx hb dX12_readNew_10 hl (by decide) rfl (fun ls hl => ?_)
  refine lv_aload_n hx hb dX12_readNew_12 rfl (lv_at hl 1 rfl) ?_
  refine va_get (D := G) (ci := 12) (v := .int m_bad) (C := RX12) (T := TX12) (N := 65) hx hb hts inT12 hown hK hP 0 rfl rfl 12 (by decide) (hts _ tw_1897) (fun _ h9 => h9) rfl dX12_readNew_13 ?_
  refine lv_if_ne (tgt := 35) hx hb dX12_readNew_16 (by decide) (fun c_2 => ?_) (fun c_2 => ?_)
  · have b_3 := z_fneT c_2
    refine lv_aload_n hx hb dX12_readNew_35 rfl (lv_at hl 1 rfl) ?_
    refine va_get (D := G) (ci := 12) (v := .int m_bad) (C := RX12) (T := TX12) (N := 65) hx hb hts inT12 hown hK hP 0 rfl rfl 12 (by decide) (hts _ tw_1897) (fun _ h9 => h9) rfl dX12_readNew_36 ?_
    refine lv_if_le (tgt := 44) hx hb dX12_readNew_39 (by decide) (fun h9 => (z_no (by have h8 := z_fleT h9; omega))) (fun c_4 => ?_)
    have b_5 := z_fgtF c_4
    refine lv_iconst (v := 0) hx hb dX12_readNew_42 (by decide) ?_
    have hpost : (0 ≤ (0 : Int32).toInt ∧ (0 : Int32).toInt ≤ 2) ∧ (0 ≤ m_bad.toInt ∧ m_bad.toInt ≤ 9) ∧ (0 ≤ m_token.toInt ∧ m_token.toInt ≤ 4) ∧ (0 ≤ m_at.toInt ∧ m_at.toInt ≤ 900) ∧ (0 ≤ m_behind.toInt ∧ m_behind.toInt ≤ 900) ∧ (0 ≤ m_number.toInt ∧ m_number.toInt ≤ 9999) ∧ (0 ≤ m_letters.toInt ∧ m_letters.toInt ≤ 900) ∧ (m_behind.toInt ≤ m_behind.toInt) ∧ (0 < m_bad.toInt → 0 < m_bad.toInt) ∧ (m_bad.toInt ≤ 0 → m_token.toInt = 0 ∨ m_behind.toInt < m_behind.toInt) ∧ (m_bad.toInt ≤ 0 → (0 : Int32).toInt = (g_c 1462).toInt) ∧ ((0 : Int32).toInt < 3) := ⟨(by decide +kernel), hr_m_bad, hr_m_token, hr_m_at, hr_m_behind, hr_m_number, hr_m_letters, (by omega), (by omega), (by omega), (by omega), (by omega)⟩
    exact hret _ _ _ _ _ _ (m_bad, m_badAt, m_token, m_at, m_behind, m_number, m_letters, m_word, g_words) [0, 1, 2, 3] hP hD hS rfl (by decide) dX12_readNew_43 hpost
  · have b_6 := z_feqF c_2
    refine lv_iload hx hb dX12_readNew_19 (lv_at hl 0 rfl) ?_
    refine lv_iload_n hx hb dX12_readNew_21 rfl (lv_at hl 3 rfl) ?_
    refine lv_icmp_ne (tgt := 35) hx hb dX12_readNew_22 (by decide) (fun c_7 => ?_) (fun c_7 => ?_)
    · have b_8 := z_fneT c_7
      refine lv_aload_n hx hb dX12_readNew_35 rfl (lv_at hl 1 rfl) ?_
      refine va_get (D := G) (ci := 12) (v := .int m_bad) (C := RX12) (T := TX12) (N := 65) hx hb hts inT12 hown hK hP 0 rfl rfl 12 (by decide) (hts _ tw_1897) (fun _ h9 => h9) rfl dX12_readNew_36 ?_
      refine lv_if_le (tgt := 44) hx hb dX12_readNew_39 (by decide) (fun c_9 => ?_) (fun h9 => (z_no (by have h8 := z_fgtF h9; omega)))
      have b_10 := z_fleT c_9
      refine lv_aload_n hx hb dX12_readNew_44 rfl (lv_at hl 1 rfl) ?_
      refine z_callVv (As := []) (rest := []) (wr := [(a_c, .inl (cA.1 0, 1825, .inl g_c)), (a_words, .inl (cA.1 1, 105, .inr (.inl g_words)))]) ⟨hx, hb, hml, hown, hts⟩ hK hE hT hP hD hS hA (r_next2 l G cA h0 m_status m_thrown m_above m_under a_traySort a_trayMany a_numbers a_tape m_taped m_textEnd m_faultKind m_faultAt m_bad m_badAt m_token m_at m_behind m_number m_letters m_word a_c a_words m_markMany a_there a_tried a_best a_found m_thereMany m_foundMany m_orderHow m_orderRing m_orderMany m_hasBest m_bestTop m_bestBy a_weights a_shared m_random m_truePlace m_trueWay m_seconds m_done m_feelings m_tries m_leftOver m_playDoor m_playRing m_isOpen m_isOver m_wasTried m_hasPlayed a_feltNow a_last a_kept m_hasSeconds m_hasTurned m_hasRound a_hasFeels a_isOn m_firstAct m_meanTop m_meanBy a_order m_rowMany m_newSteps g_tape hr_m_textEnd hr_m_at hr_m_behind hr_m_token hr_m_number hr_m_letters) lk_RX12_184 ⟨rfl, rfl⟩ ⟨Nat.le_of_ble_eq_true rfl, Nat.le_of_ble_eq_true rfl⟩ 12 rfl rfl rfl [0, 1] [2, 3] rfl rfl (by decide) rfl hl.1 rfl (lv_room (Nat.le_of_ble_eq_true rfl)) dX12_readNew_45 ⟨Nat.le_of_ble_eq_true rfl, Nat.le_of_ble_eq_true rfl⟩ (fun u_18 H locs hw hP hD hS => ?_)
      obtain ⟨n_11, n_12, n_13, n_14, n_15, n_16⟩ := u_18
      try dsimp only at hw
      obtain ⟨hr_n_11, hr_n_12, hr_n_13, hr_n_14, hr_n_15, hf_19, hf_20⟩ := hw
      refine lv_aload_n hx hb dX12_readNew_48 rfl (lv_at hl 1 rfl) ?_
      refine z_callVi (As := []) (rest := []) (wr := [(a_c, .inl (cA.1 0, 1825, .inl g_c)), (a_words, .inl (cA.1 1, 105, .inr (.inl g_words))), (a_tape, .inl (cA.1 2, 900, .inl g_tape))]) ⟨hx, hb, hml, hown, hts⟩ hK hE hT hP hD hS hA (r_isHouseName l G cA h0 m_status m_thrown m_above m_under a_traySort a_trayMany a_numbers a_tape m_taped m_textEnd m_faultKind m_faultAt m_bad m_badAt n_11 n_12 n_13 n_14 n_15 n_16 a_c a_words m_markMany a_there a_tried a_best a_found m_thereMany m_foundMany m_orderHow m_orderRing m_orderMany m_hasBest m_bestTop m_bestBy a_weights a_shared m_random m_truePlace m_trueWay m_seconds m_done m_feelings m_tries m_leftOver m_playDoor m_playRing m_isOpen m_isOver m_wasTried m_hasPlayed a_feltNow a_last a_kept m_hasSeconds m_hasTurned m_hasRound a_hasFeels a_isOn m_firstAct m_meanTop m_meanBy a_order m_rowMany m_newSteps hr_n_11 hr_n_15) lk_RX12_200 ⟨rfl, rfl⟩ ⟨Nat.le_of_ble_eq_true rfl, Nat.le_of_ble_eq_true rfl⟩ 12 rfl rfl rfl [2] [0, 1, 3] rfl rfl (by decide) rfl hl.1 rfl (lv_room (Nat.le_of_ble_eq_true rfl)) dX12_readNew_49 ⟨Nat.le_of_ble_eq_true rfl, Nat.le_of_ble_eq_true rfl⟩ (fun r_21 u_22 H locs hw hP hD hS => ?_)
      rcases hw with ⟨rfl, -⟩ | ⟨rfl, -⟩
      · skip
        refine lv_if_ne (tgt := 59) hx hb dX12_readNew_52 (by decide) (fun h9 => absurd (by decide +kernel) h9) (fun _ => ?_)
        refine lv_aload_n hx hb dX12_readNew_55 rfl (lv_at hl 1 rfl) ?_
        refine z_callVv (As := []) (rest := []) (wr := [(a_c, .inl (cA.1 0, 1825, .inl g_c)), (a_words, .inl (cA.1 1, 105, .inr (.inl g_words))), (a_tape, .inl (cA.1 2, 900, .inl g_tape))]) ⟨hx, hb, hml, hown, hts⟩ hK hE hT hP hD hS hA (r_wrong l G cA h0 m_status m_thrown m_above m_under a_traySort a_trayMany a_numbers a_tape m_taped m_textEnd m_faultKind m_faultAt m_bad m_badAt n_11 n_12 n_13 n_14 n_15 n_16 a_c a_words m_markMany a_there a_tried a_best a_found m_thereMany m_foundMany m_orderHow m_orderRing m_orderMany m_hasBest m_bestTop m_bestBy a_weights a_shared m_random m_truePlace m_trueWay m_seconds m_done m_feelings m_tries m_leftOver m_playDoor m_playRing m_isOpen m_isOver m_wasTried m_hasPlayed a_feltNow a_last a_kept m_hasSeconds m_hasTurned m_hasRound a_hasFeels a_isOn m_firstAct m_meanTop m_meanBy a_order m_rowMany m_newSteps hr_n_12 hr_m_bad hr_n_11) lk_RX12_187 ⟨rfl, rfl⟩ ⟨Nat.le_of_ble_eq_true rfl, Nat.le_of_ble_eq_true rfl⟩ 12 rfl rfl rfl [3] [0, 1, 2] rfl rfl (by decide) rfl hl.1 rfl (lv_room (Nat.le_of_ble_eq_true rfl)) dX12_readNew_56 ⟨Nat.le_of_ble_eq_true rfl, Nat.le_of_ble_eq_true rfl⟩ (fun u_26 H locs hw hP hD hS => ?_)
        obtain ⟨n_23, n_24⟩ := u_26
        try dsimp only at hw
        have hr_n_23 := hw
        refine lv_aload_n hx hb dX12_readNew_59 rfl (lv_at hl 1 rfl) ?_
        refine va_get (D := G) (ci := 12) (v := .int n_23) (C := RX12) (T := TX12) (N := 65) hx hb hts inT12 hown hK hP 3 rfl rfl 12 (by decide) (hts _ tw_1897) (fun _ h9 => h9) rfl dX12_readNew_60 ?_
        refine lv_if_ne (tgt := 82) hx hb dX12_readNew_63 (by decide) (fun c_27 => ?_) (fun h9 => (z_no (by have h8 := z_feqF h9; omega)))
        have b_28 := z_fneT c_27
        refine lv_aload_n hx hb dX12_readNew_82 rfl (lv_at hl 1 rfl) ?_
        refine va_get (D := G) (ci := 12) (v := .int n_23) (C := RX12) (T := TX12) (N := 65) hx hb hts inT12 hown hK hP 3 rfl rfl 12 (by decide) (hts _ tw_1897) (fun _ h9 => h9) rfl dX12_readNew_83 ?_
        refine lv_if_le (tgt := 91) hx hb dX12_readNew_86 (by decide) (fun h9 => (z_no (by have h8 := z_fleT h9; omega))) (fun c_29 => ?_)
        have b_30 := z_fgtF c_29
        refine lv_iconst (v := 0) hx hb dX12_readNew_89 (by decide) ?_
        have hpost : (0 ≤ (0 : Int32).toInt ∧ (0 : Int32).toInt ≤ 2) ∧ (0 ≤ n_23.toInt ∧ n_23.toInt ≤ 9) ∧ (0 ≤ n_11.toInt ∧ n_11.toInt ≤ 4) ∧ (0 ≤ n_12.toInt ∧ n_12.toInt ≤ 900) ∧ (0 ≤ n_13.toInt ∧ n_13.toInt ≤ 900) ∧ (0 ≤ n_14.toInt ∧ n_14.toInt ≤ 9999) ∧ (0 ≤ n_15.toInt ∧ n_15.toInt ≤ 900) ∧ (m_behind.toInt ≤ n_13.toInt) ∧ (0 < m_bad.toInt → 0 < n_23.toInt) ∧ (n_23.toInt ≤ 0 → n_11.toInt = 0 ∨ m_behind.toInt < n_13.toInt) ∧ (n_23.toInt ≤ 0 → (0 : Int32).toInt = (g_c 1462).toInt) ∧ ((0 : Int32).toInt < 3) := ⟨(by decide +kernel), (z_rgw hr_n_23 (by decide) (by decide)), hr_n_11, hr_n_12, hr_n_13, hr_n_14, hr_n_15, (by omega), (by omega), (by omega), (by omega), (by omega)⟩
        exact hret _ _ _ _ _ _ (n_23, n_24, n_11, n_12, n_13, n_14, n_15, n_16, g_words) [3, 2, 0, 1] hP hD hS rfl (by decide) dX12_readNew_90 hpost
      · skip
        refine lv_if_ne (tgt := 59) hx hb dX12_readNew_52 (by decide) (fun _ => ?_) (fun h9 => absurd h9 (by decide +kernel))
        refine lv_aload_n hx hb dX12_readNew_59 rfl (lv_at hl 1 rfl) ?_
        refine va_get (D := G) (ci := 12) (v := .int m_bad) (C := RX12) (T := TX12) (N := 65) hx hb hts inT12 hown hK hP 3 rfl rfl 12 (by decide) (hts _ tw_1897) (fun _ h9 => h9) rfl dX12_readNew_60 ?_
        refine lv_if_ne (tgt := 82) hx hb dX12_readNew_63 (by decide) (fun h9 => (z_no (by have h8 := z_fneT h9; omega))) (fun c_31 => ?_)
        have b_32 := z_feqF c_31
        refine lv_aload_n hx hb dX12_readNew_66 rfl (lv_at hl 1 rfl) ?_
        refine z_callVi (As := []) (rest := []) (wr := [(a_tape, .inl (cA.1 2, 900, .inl g_tape))]) ⟨hx, hb, hml, hown, hts⟩ hK hE hT hP hD hS hA (r_isTaken l G cA h0 m_status m_thrown m_above m_under a_traySort a_trayMany a_numbers a_tape m_taped m_textEnd m_faultKind m_faultAt m_bad m_badAt n_11 n_12 n_13 n_14 n_15 n_16 a_c a_words m_markMany a_there a_tried a_best a_found m_thereMany m_foundMany m_orderHow m_orderRing m_orderMany m_hasBest m_bestTop m_bestBy a_weights a_shared m_random m_truePlace m_trueWay m_seconds m_done m_feelings m_tries m_leftOver m_playDoor m_playRing m_isOpen m_isOver m_wasTried m_hasPlayed a_feltNow a_last a_kept m_hasSeconds m_hasTurned m_hasRound a_hasFeels a_isOn m_firstAct m_meanTop m_meanBy a_order m_rowMany m_newSteps g_c g_words hC_g_c) lk_RX12_204 ⟨rfl, rfl⟩ ⟨Nat.le_of_ble_eq_true rfl, Nat.le_of_ble_eq_true rfl⟩ 12 rfl rfl rfl [3, 0, 1] [2] rfl rfl (by decide) rfl hl.1 rfl (lv_room (Nat.le_of_ble_eq_true rfl)) dX12_readNew_67 ⟨Nat.le_of_ble_eq_true rfl, Nat.le_of_ble_eq_true rfl⟩ (fun r_33 u_34 H locs hw hP hD hS => ?_)
        rcases hw with ⟨rfl, -⟩ | ⟨rfl, -⟩
        · skip
          refine lv_if_eq (tgt := 82) hx hb dX12_readNew_70 (by decide) (fun _ => ?_) (fun h9 => absurd (by decide +kernel) h9)
          refine lv_aload_n hx hb dX12_readNew_82 rfl (lv_at hl 1 rfl) ?_
          refine va_get (D := G) (ci := 12) (v := .int m_bad) (C := RX12) (T := TX12) (N := 65) hx hb hts inT12 hown hK hP 1 rfl rfl 12 (by decide) (hts _ tw_1897) (fun _ h9 => h9) rfl dX12_readNew_83 ?_
          refine lv_if_le (tgt := 91) hx hb dX12_readNew_86 (by decide) (fun c_35 => ?_) (fun h9 => (z_no (by have h8 := z_fgtF h9; omega)))
          have b_36 := z_fleT c_35
          refine lv_aload_n hx hb dX12_readNew_91 rfl (lv_at hl 1 rfl) ?_
          refine va_get (D := G) (ci := 12) (v := .ref a_words) (C := RX12) (T := TX12) (N := 65) hx hb hts inT12 hown hK hP 1 rfl rfl 21 (by decide) (hts _ tw_1906) (fun _ h9 => h9) rfl dX12_readNew_92 ?_
          refine lv_bipush (v := 84) hx hb dX12_readNew_95 (by decide) ?_
          refine lv_iload_n hx hb dX12_readNew_97 rfl (lv_at hl 4 rfl) ?_
          refine lv_iadd hx hb dX12_readNew_98 ?_
          refine z_topi (y := 97) (by decide +kernel) ?_
          refine lv_iload hx hb dX12_readNew_99 (lv_at hl 0 rfl) ?_
          refine lv_iadd hx hb dX12_readNew_101 ?_
          refine lv_topi (fun x_37 he_x_37 => ?_)
          have hq_x_37 := z_addq he_x_37 hk_97 (rfl : x_1.toInt = _) (by omega) (by omega)
          refine lv_aload_n hx hb dX12_readNew_102 rfl (lv_at hl 1 rfl) ?_
          refine va_get (D := G) (ci := 12) (v := .long n_16) (C := RX12) (T := TX12) (N := 65) hx hb hts inT12 hown hK hP 1 rfl rfl 19 (by decide) (hts _ tw_1904) (fun _ h9 => h9) rfl dX12_readNew_103 ?_
          refine z_last hx hb hK hP hD hS 3 1 rfl rfl (z_inN (by omega) (by omega)) dX12_readNew_106 (fun g_38 hg_g_38 H locs hP hD hS => ?_)
          refine lv_aload_n hx hb dX12_readNew_107 rfl (lv_at hl 1 rfl) ?_
          refine z_callVv (As := []) (rest := []) (wr := [(a_c, .inl (cA.1 0, 1825, .inl g_c)), (a_words, .inl (cA.1 1, 105, .inr (.inl g_38)))]) ⟨hx, hb, hml, hown, hts⟩ hK hE hT hP hD hS hA (r_next2 l G cA h0 m_status m_thrown m_above m_under a_traySort a_trayMany a_numbers a_tape m_taped m_textEnd m_faultKind m_faultAt m_bad m_badAt n_11 n_12 n_13 n_14 n_15 n_16 a_c a_words m_markMany a_there a_tried a_best a_found m_thereMany m_foundMany m_orderHow m_orderRing m_orderMany m_hasBest m_bestTop m_bestBy a_weights a_shared m_random m_truePlace m_trueWay m_seconds m_done m_feelings m_tries m_leftOver m_playDoor m_playRing m_isOpen m_isOver m_wasTried m_hasPlayed a_feltNow a_last a_kept m_hasSeconds m_hasTurned m_hasRound a_hasFeels a_isOn m_firstAct m_meanTop m_meanBy a_order m_rowMany m_newSteps g_tape hr_m_textEnd hr_n_12 hr_n_13 hr_n_11 hr_n_14 hr_n_15) lk_RX12_184 ⟨rfl, rfl⟩ ⟨Nat.le_of_ble_eq_true rfl, Nat.le_of_ble_eq_true rfl⟩ 12 rfl rfl rfl [1, 0] [2, 3] rfl rfl (by decide) rfl hl.1 rfl (lv_room (Nat.le_of_ble_eq_true rfl)) dX12_readNew_108 ⟨Nat.le_of_ble_eq_true rfl, Nat.le_of_ble_eq_true rfl⟩ (fun u_46 H locs hw hP hD hS => ?_)
          obtain ⟨n_39, n_40, n_41, n_42, n_43, n_44⟩ := u_46
          try dsimp only at hw
          obtain ⟨hr_n_39, hr_n_40, hr_n_41, hr_n_42, hr_n_43, hf_47, hf_48⟩ := hw
          refine lv_iload hx hb dX12_readNew_111 (lv_at hl 0 rfl) ?_
          have hpost : (0 ≤ x_1.toInt ∧ x_1.toInt ≤ 2) ∧ (0 ≤ m_bad.toInt ∧ m_bad.toInt ≤ 9) ∧ (0 ≤ n_39.toInt ∧ n_39.toInt ≤ 4) ∧ (0 ≤ n_40.toInt ∧ n_40.toInt ≤ 900) ∧ (0 ≤ n_41.toInt ∧ n_41.toInt ≤ 900) ∧ (0 ≤ n_42.toInt ∧ n_42.toInt ≤ 9999) ∧ (0 ≤ n_43.toInt ∧ n_43.toInt ≤ 900) ∧ (m_behind.toInt ≤ n_41.toInt) ∧ (0 < m_bad.toInt → 0 < m_bad.toInt) ∧ (m_bad.toInt ≤ 0 → n_39.toInt = 0 ∨ m_behind.toInt < n_41.toInt) ∧ (m_bad.toInt ≤ 0 → x_1.toInt = (g_c 1462).toInt) ∧ (x_1.toInt < 3) := ⟨(by omega), hr_m_bad, hr_n_39, hr_n_40, hr_n_41, hr_n_42, hr_n_43, (by omega), (by omega), (by omega), (by omega), (by omega)⟩
          exact hret _ _ _ _ _ _ (m_bad, m_badAt, n_39, n_40, n_41, n_42, n_43, n_44, g_38) [2, 3, 0, 1] hP hD hS rfl (by decide) dX12_readNew_113 hpost
        · skip
          refine lv_if_eq (tgt := 82) hx hb dX12_readNew_70 (by decide) (fun h9 => absurd h9 (by decide +kernel)) (fun _ => ?_)
          refine lv_aload_n hx hb dX12_readNew_73 rfl (lv_at hl 1 rfl) ?_
          refine lv_iconst (v := 3) hx hb dX12_readNew_74 (by decide) ?_
          refine lv_aload_n hx hb dX12_readNew_75 rfl (lv_at hl 1 rfl) ?_
          refine va_get (D := G) (ci := 12) (v := .int n_12) (C := RX12) (T := TX12) (N := 65) hx hb hts inT12 hown hK hP 1 rfl rfl 15 (by decide) (hts _ tw_1900) (fun _ h9 => h9) rfl dX12_readNew_76 ?_
          refine z_callVv (As := [.int 3, .int n_12]) (rest := []) (wr := [(a_tape, .inl (cA.1 2, 900, .inl g_tape)), (a_c, .inl (cA.1 0, 1825, .inl g_c)), (a_words, .inl (cA.1 1, 105, .inr (.inl g_words)))]) ⟨hx, hb, hml, hown, hts⟩ hK hE hT hP hD hS hA (r_fail l G cA h0 m_status m_thrown m_above m_under a_traySort a_trayMany a_numbers a_tape m_taped m_textEnd m_faultKind m_faultAt m_bad m_badAt n_11 n_12 n_13 n_14 n_15 n_16 a_c a_words m_markMany a_there a_tried a_best a_found m_thereMany m_foundMany m_orderHow m_orderRing m_orderMany m_hasBest m_bestTop m_bestBy a_weights a_shared m_random m_truePlace m_trueWay m_seconds m_done m_feelings m_tries m_leftOver m_playDoor m_playRing m_isOpen m_isOver m_wasTried m_hasPlayed a_feltNow a_last a_kept m_hasSeconds m_hasTurned m_hasRound a_hasFeels a_isOn m_firstAct m_meanTop m_meanBy a_order m_rowMany m_newSteps 3 n_12 (by decide +kernel) hr_m_bad) lk_RX12_180 ⟨rfl, rfl⟩ ⟨Nat.le_of_ble_eq_true rfl, Nat.le_of_ble_eq_true rfl⟩ 12 rfl rfl rfl [1] [0, 2, 3] rfl rfl (by decide) rfl hl.1 rfl (lv_room (Nat.le_of_ble_eq_true rfl)) dX12_readNew_79 ⟨Nat.le_of_ble_eq_true rfl, Nat.le_of_ble_eq_true rfl⟩ (fun u_52 H locs hw hP hD hS => ?_)
          obtain ⟨n_49, n_50⟩ := u_52
          try dsimp only at hw
          obtain ⟨hr_n_49, hf_53⟩ := hw
          refine lv_aload_n hx hb dX12_readNew_82 rfl (lv_at hl 1 rfl) ?_
          refine va_get (D := G) (ci := 12) (v := .int n_49) (C := RX12) (T := TX12) (N := 65) hx hb hts inT12 hown hK hP 3 rfl rfl 12 (by decide) (hts _ tw_1897) (fun _ h9 => h9) rfl dX12_readNew_83 ?_
          refine lv_if_le (tgt := 91) hx hb dX12_readNew_86 (by decide) (fun h9 => (z_no (by have h8 := z_fleT h9; omega))) (fun c_54 => ?_)
          have b_55 := z_fgtF c_54
          refine lv_iconst (v := 0) hx hb dX12_readNew_89 (by decide) ?_
          have hpost : (0 ≤ (0 : Int32).toInt ∧ (0 : Int32).toInt ≤ 2) ∧ (0 ≤ n_49.toInt ∧ n_49.toInt ≤ 9) ∧ (0 ≤ n_11.toInt ∧ n_11.toInt ≤ 4) ∧ (0 ≤ n_12.toInt ∧ n_12.toInt ≤ 900) ∧ (0 ≤ n_13.toInt ∧ n_13.toInt ≤ 900) ∧ (0 ≤ n_14.toInt ∧ n_14.toInt ≤ 9999) ∧ (0 ≤ n_15.toInt ∧ n_15.toInt ≤ 900) ∧ (m_behind.toInt ≤ n_13.toInt) ∧ (0 < m_bad.toInt → 0 < n_49.toInt) ∧ (n_49.toInt ≤ 0 → n_11.toInt = 0 ∨ m_behind.toInt < n_13.toInt) ∧ (n_49.toInt ≤ 0 → (0 : Int32).toInt = (g_c 1462).toInt) ∧ ((0 : Int32).toInt < 3) := ⟨(by decide +kernel), (z_rgw hr_n_49 (by decide) (by decide)), hr_n_11, hr_n_12, hr_n_13, hr_n_14, hr_n_15, (by omega), (by omega), (by omega), (by omega), (by omega)⟩
          exact hret _ _ _ _ _ _ (n_49, n_50, n_11, n_12, n_13, n_14, n_15, n_16, g_words) [3, 0, 1, 2] hP hD hS rfl (by decide) dX12_readNew_90 hpost
    · have b_56 := z_feqF c_7
      refine lv_aload_n hx hb dX12_readNew_25 rfl (lv_at hl 1 rfl) ?_
      refine lv_bipush (v := 6) hx hb dX12_readNew_26 (by decide) ?_
      refine lv_aload_n hx hb dX12_readNew_28 rfl (lv_at hl 1 rfl) ?_
      refine va_get (D := G) (ci := 12) (v := .int m_at) (C := RX12) (T := TX12) (N := 65) hx hb hts inT12 hown hK hP 0 rfl rfl 15 (by decide) (hts _ tw_1900) (fun _ h9 => h9) rfl dX12_readNew_29 ?_
      refine z_callVv (As := [.int 6, .int m_at]) (rest := []) (wr := [(a_tape, .inl (cA.1 2, 900, .inl g_tape)), (a_c, .inl (cA.1 0, 1825, .inl g_c)), (a_words, .inl (cA.1 1, 105, .inr (.inl g_words)))]) ⟨hx, hb, hml, hown, hts⟩ hK hE hT hP hD hS hA (r_fail l G cA h0 m_status m_thrown m_above m_under a_traySort a_trayMany a_numbers a_tape m_taped m_textEnd m_faultKind m_faultAt m_bad m_badAt m_token m_at m_behind m_number m_letters m_word a_c a_words m_markMany a_there a_tried a_best a_found m_thereMany m_foundMany m_orderHow m_orderRing m_orderMany m_hasBest m_bestTop m_bestBy a_weights a_shared m_random m_truePlace m_trueWay m_seconds m_done m_feelings m_tries m_leftOver m_playDoor m_playRing m_isOpen m_isOver m_wasTried m_hasPlayed a_feltNow a_last a_kept m_hasSeconds m_hasTurned m_hasRound a_hasFeels a_isOn m_firstAct m_meanTop m_meanBy a_order m_rowMany m_newSteps 6 m_at (by decide +kernel) hr_m_bad) lk_RX12_180 ⟨rfl, rfl⟩ ⟨Nat.le_of_ble_eq_true rfl, Nat.le_of_ble_eq_true rfl⟩ 12 rfl rfl rfl [0] [1, 2, 3] rfl rfl (by decide) rfl hl.1 rfl (lv_room (Nat.le_of_ble_eq_true rfl)) dX12_readNew_32 ⟨Nat.le_of_ble_eq_true rfl, Nat.le_of_ble_eq_true rfl⟩ (fun u_60 H locs hw hP hD hS => ?_)
      obtain ⟨n_57, n_58⟩ := u_60
      try dsimp only at hw
      obtain ⟨hr_n_57, hf_61⟩ := hw
      refine lv_aload_n hx hb dX12_readNew_35 rfl (lv_at hl 1 rfl) ?_
      refine va_get (D := G) (ci := 12) (v := .int n_57) (C := RX12) (T := TX12) (N := 65) hx hb hts inT12 hown hK hP 3 rfl rfl 12 (by decide) (hts _ tw_1897) (fun _ h9 => h9) rfl dX12_readNew_36 ?_
      refine lv_if_le (tgt := 44) hx hb dX12_readNew_39 (by decide) (fun h9 => (z_no (by have h8 := z_fleT h9; omega))) (fun c_62 => ?_)
      have b_63 := z_fgtF c_62
      refine lv_iconst (v := 0) hx hb dX12_readNew_42 (by decide) ?_
      have hpost : (0 ≤ (0 : Int32).toInt ∧ (0 : Int32).toInt ≤ 2) ∧ (0 ≤ n_57.toInt ∧ n_57.toInt ≤ 9) ∧ (0 ≤ m_token.toInt ∧ m_token.toInt ≤ 4) ∧ (0 ≤ m_at.toInt ∧ m_at.toInt ≤ 900) ∧ (0 ≤ m_behind.toInt ∧ m_behind.toInt ≤ 900) ∧ (0 ≤ m_number.toInt ∧ m_number.toInt ≤ 9999) ∧ (0 ≤ m_letters.toInt ∧ m_letters.toInt ≤ 900) ∧ (m_behind.toInt ≤ m_behind.toInt) ∧ (0 < m_bad.toInt → 0 < n_57.toInt) ∧ (n_57.toInt ≤ 0 → m_token.toInt = 0 ∨ m_behind.toInt < m_behind.toInt) ∧ (n_57.toInt ≤ 0 → (0 : Int32).toInt = (g_c 1462).toInt) ∧ ((0 : Int32).toInt < 3) := ⟨(by decide +kernel), (z_rgw hr_n_57 (by decide) (by decide)), hr_m_token, hr_m_at, hr_m_behind, hr_m_number, hr_m_letters, (by omega), (by omega), (by omega), (by omega), (by omega)⟩
      exact hret _ _ _ _ _ _ (n_57, n_58, m_token, m_at, m_behind, m_number, m_letters, m_word, g_words) [3, 0, 1, 2] hP hD hS rfl (by decide) dX12_readNew_43 hpost
set_option maxHeartbeats 4000000 in
set_option maxRecDepth 100000 in
theorem r_readOld_2 (l : Launch) (G : va_G) (cA : zCA) (h0 : Nat) (m_status : Int32) (m_thrown : Int32) (m_above : Int64) (m_under : Int64) (a_traySort : Nat) (a_trayMany : Nat) (a_numbers : Nat) (a_tape : Nat) (m_taped : Int32) (m_textEnd : Int32) (m_faultKind : Int32) (m_faultAt : Int32) (m_bad : Int32) (m_badAt : Int32) (m_token : Int32) (m_at : Int32) (m_behind : Int32) (m_number : Int32) (m_letters : Int32) (m_word : Int64) (a_c : Nat) (a_words : Nat) (m_markMany : Int32) (a_there : Nat) (a_tried : Nat) (a_best : Nat) (a_found : Nat) (m_thereMany : Int32) (m_foundMany : Int32) (m_orderHow : Int32) (m_orderRing : Int32) (m_orderMany : Int32) (m_hasBest : Int32) (m_bestTop : Int64) (m_bestBy : Int64) (a_weights : Nat) (a_shared : Nat) (m_random : Int32) (m_truePlace : Int32) (m_trueWay : Int32) (m_seconds : Int32) (m_done : Int32) (m_feelings : Int32) (m_tries : Int32) (m_leftOver : Int32) (m_playDoor : Int32) (m_playRing : Int32) (m_isOpen : Int32) (m_isOver : Int32) (m_wasTried : Int32) (m_hasPlayed : Int32) (a_feltNow : Nat) (a_last : Nat) (a_kept : Nat) (m_hasSeconds : Int32) (m_hasTurned : Int32) (m_hasRound : Int32) (a_hasFeels : Nat) (a_isOn : Nat) (m_firstAct : Int32) (m_meanTop : Int64) (m_meanBy : Int64) (a_order : Nat) (m_rowMany : Int32) (m_newSteps : Int32) (g_c : Nat → Int32) (g_words : Nat → Int64) (hr_m_at : 0 ≤ m_at.toInt ∧ m_at.toInt ≤ 900) (hr_m_bad : 0 ≤ m_bad.toInt ∧ m_bad.toInt ≤ 9) (hr_m_token : 0 ≤ m_token.toInt ∧ m_token.toInt ≤ 4) (hr_m_letters : 0 ≤ m_letters.toInt ∧ m_letters.toInt ≤ 900) (hC_g_c : zC g_c) : zCi l yX12_readOld cX12_readOld 4 (some .int) ({ frames := 3, cells := 0, slots := 0, locals := 67 }) G cA [.ref h0, .int 2, .int 13] [(h0, .inr (12, [.int m_status, .int m_thrown, .long m_above, .long m_under, .ref a_traySort, .ref a_trayMany, .ref a_numbers, .ref a_tape, .int m_taped, .int m_textEnd, .int m_faultKind, .int m_faultAt, .int m_bad, .int m_badAt, .int m_token, .int m_at, .int m_behind, .int m_number, .int m_letters, .long m_word, .ref a_c, .ref a_words, .int m_markMany, .ref a_there, .ref a_tried, .ref a_best, .ref a_found, .int m_thereMany, .int m_foundMany, .int m_orderHow, .int m_orderRing, .int m_orderMany, .int m_hasBest, .long m_bestTop, .long m_bestBy, .ref a_weights, .ref a_shared, .int m_random, .int m_truePlace, .int m_trueWay, .int m_seconds, .int m_done, .int m_feelings, .int m_tries, .int m_leftOver, .int m_playDoor, .int m_playRing, .int m_isOpen, .int m_isOver, .int m_wasTried, .int m_hasPlayed, .ref a_feltNow, .ref a_last, .ref a_kept, .int m_hasSeconds, .int m_hasTurned, .int m_hasRound, .ref a_hasFeels, .ref a_isOn, .int m_firstAct, .long m_meanTop, .long m_meanBy, .ref a_order, .int m_rowMany, .int m_newSteps])), (a_c, .inl (cA.1 0, 1825, .inl g_c)), (a_words, .inl (cA.1 1, 105, .inr (.inl g_words)))] (S := Int32 × Int32) (fun (r : Int32) (u : Int32 × Int32) => ((-1) ≤ r.toInt ∧ r.toInt ≤ 2) ∧ (0 ≤ u.1.toInt ∧ u.1.toInt ≤ 9) ∧ (m_behind.toInt ≤ m_behind.toInt) ∧ (0 < m_bad.toInt → 0 < u.1.toInt) ∧ (u.1.toInt ≤ 0 → 0 ≤ r.toInt ∧ r.toInt < (g_c 1462).toInt)) (fun (u : Int32 × Int32) => [(h0, .inr (12, [.int m_status, .int m_thrown, .long m_above, .long m_under, .ref a_traySort, .ref a_trayMany, .ref a_numbers, .ref a_tape, .int m_taped, .int m_textEnd, .int m_faultKind, .int m_faultAt, .int u.1, .int u.2, .int m_token, .int m_at, .int m_behind, .int m_number, .int m_letters, .long m_word, .ref a_c, .ref a_words, .int m_markMany, .ref a_there, .ref a_tried, .ref a_best, .ref a_found, .int m_thereMany, .int m_foundMany, .int m_orderHow, .int m_orderRing, .int m_orderMany, .int m_hasBest, .long m_bestTop, .long m_bestBy, .ref a_weights, .ref a_shared, .int m_random, .int m_truePlace, .int m_trueWay, .int m_seconds, .int m_done, .int m_feelings, .int m_tries, .int m_leftOver, .int m_playDoor, .int m_playRing, .int m_isOpen, .int m_isOver, .int m_wasTried, .int m_hasPlayed, .ref a_feltNow, .ref a_last, .ref a_kept, .int m_hasSeconds, .int m_hasTurned, .int m_hasRound, .ref a_hasFeels, .ref a_isOn, .int m_firstAct, .long m_meanTop, .long m_meanBy, .ref a_order, .int m_rowMany, .int m_newSteps])), (a_c, .inl (cA.1 0, 1825, .inl g_c)), (a_words, .inl (cA.1 1, 105, .inr (.inl g_words)))]) 0 0 := by
  have hk_0 : (0 : Int32).toInt = 0 := by decide +kernel
  have hk_3 : (3 : Int32).toInt = 3 := by decide +kernel
  have hk_4 : (4 : Int32).toInt = 4 := by decide +kernel
  have hk_13 : (13 : Int32).toInt = 13 := by decide +kernel
  refine z_start2i (own := RX12) (by decide) (Nat.le_of_ble_eq_true rfl) rfl ?_
  intro p e s m args below meth c A ls Q hx hb hml hts hown hK hE hT hP hD hS hA hl hret
  have hl : lv_has ls 4 [(0, .ref h0), (1, .int 2), (2, .int 13)] := hl
  refine lv_aload_n hx hb dX12_readOld_0 rfl (lv_at hl 0 rfl) ?_
  refine va_get (D := G) (ci := 12) (v := .int m_bad) (C := RX12) (T := TX12) (N := 65) hx hb hts inT12 hown hK hP 0 rfl rfl 12 (by decide) (hts _ tw_1897) (fun _ h9 => h9) rfl dX12_readOld_1 ?_
  refine lv_if_ne (tgt := 18) hx hb dX12_readOld_4 (by decide) (fun c_1 => ?_) (fun c_1 => ?_)
  · have b_2 := z_fneT c_1
    refine lv_aload_n hx hb dX12_readOld_18 rfl (lv_at hl 0 rfl) ?_
    refine va_get (D := G) (ci := 12) (v := .int m_bad) (C := RX12) (T := TX12) (N := 65) hx hb hts inT12 hown hK hP 0 rfl rfl 12 (by decide) (hts _ tw_1897) (fun _ h9 => h9) rfl dX12_readOld_19 ?_
    refine lv_if_ne (tgt := 44) hx hb dX12_readOld_22 (by decide) (fun c_3 => ?_) (fun h9 => (z_no (by have h8 := z_feqF h9; omega)))
    have b_4 := z_fneT c_3
    refine lv_iconst (v := 0) hx hb dX12_readOld_44 (by decide) ?_
    refine lv_istore_n (lv' := [(3, .int 0), (0, .ref h0), (1, .int 2), (2, .int 13)]) hx hb dX12_readOld_45 rfl hl (by decide) rfl (fun ls hl => ?_)
    refine lv_aload_n hx hb dX12_readOld_46 rfl (lv_at hl 1 rfl) ?_
    refine va_get (D := G) (ci := 12) (v := .int m_bad) (C := RX12) (T := TX12) (N := 65) hx hb hts inT12 hown hK hP 0 rfl rfl 12 (by decide) (hts _ tw_1897) (fun _ h9 => h9) rfl dX12_readOld_47 ?_
    refine lv_if_ne (tgt := 66) hx hb dX12_readOld_50 (by decide) (fun c_5 => ?_) (fun h9 => (z_no (by have h8 := z_feqF h9; omega)))
    have b_6 := z_fneT c_5
    refine lv_iload_n hx hb dX12_readOld_66 rfl (lv_at hl 0 rfl) ?_
    have hpost : ((-1) ≤ (0 : Int32).toInt ∧ (0 : Int32).toInt ≤ 2) ∧ (0 ≤ m_bad.toInt ∧ m_bad.toInt ≤ 9) ∧ (m_behind.toInt ≤ m_behind.toInt) ∧ (0 < m_bad.toInt → 0 < m_bad.toInt) ∧ (m_bad.toInt ≤ 0 → 0 ≤ (0 : Int32).toInt ∧ (0 : Int32).toInt < (g_c 1462).toInt) := ⟨(by decide +kernel), hr_m_bad, (by omega), (by omega), (by omega)⟩
    exact hret _ _ _ _ _ _ (m_bad, m_badAt) [0, 1, 2] hP hD hS rfl (by decide) dX12_readOld_67 hpost
  · have b_7 := z_feqF c_1
    refine lv_aload_n hx hb dX12_readOld_7 rfl (lv_at hl 0 rfl) ?_
    refine z_callVi (As := []) (rest := []) (wr := [(a_c, .inl (cA.1 0, 1825, .inl g_c)), (a_words, .inl (cA.1 1, 105, .inr (.inl g_words)))]) ⟨hx, hb, hml, hown, hts⟩ hK hE hT hP hD hS hA (r_isHouseName l G cA h0 m_status m_thrown m_above m_under a_traySort a_trayMany a_numbers a_tape m_taped m_textEnd m_faultKind m_faultAt m_bad m_badAt m_token m_at m_behind m_number m_letters m_word a_c a_words m_markMany a_there a_tried a_best a_found m_thereMany m_foundMany m_orderHow m_orderRing m_orderMany m_hasBest m_bestTop m_bestBy a_weights a_shared m_random m_truePlace m_trueWay m_seconds m_done m_feelings m_tries m_leftOver m_playDoor m_playRing m_isOpen m_isOver m_wasTried m_hasPlayed a_feltNow a_last a_kept m_hasSeconds m_hasTurned m_hasRound a_hasFeels a_isOn m_firstAct m_meanTop m_meanBy a_order m_rowMany m_newSteps hr_m_token hr_m_letters) lk_RX12_200 ⟨rfl, rfl⟩ ⟨Nat.le_of_ble_eq_true rfl, Nat.le_of_ble_eq_true rfl⟩ 12 rfl rfl rfl [0] [1, 2] rfl rfl (by decide) rfl hl.1 rfl (lv_room (Nat.le_of_ble_eq_true rfl)) dX12_readOld_8 ⟨Nat.le_of_ble_eq_true rfl, Nat.le_of_ble_eq_true rfl⟩ (fun r_8 u_9 H locs hw hP hD hS => ?_)
    rcases hw with ⟨rfl, -⟩ | ⟨rfl, -⟩
    · skip
      refine lv_if_ne (tgt := 18) hx hb dX12_readOld_11 (by decide) (fun h9 => absurd (by decide +kernel) h9) (fun _ => ?_)
      refine lv_aload_n hx hb dX12_readOld_14 rfl (lv_at hl 0 rfl) ?_
      refine z_callVv (As := []) (rest := []) (wr := [(a_c, .inl (cA.1 0, 1825, .inl g_c)), (a_words, .inl (cA.1 1, 105, .inr (.inl g_words)))]) ⟨hx, hb, hml, hown, hts⟩ hK hE hT hP hD hS hA (r_wrong l G cA h0 m_status m_thrown m_above m_under a_traySort a_trayMany a_numbers a_tape m_taped m_textEnd m_faultKind m_faultAt m_bad m_badAt m_token m_at m_behind m_number m_letters m_word a_c a_words m_markMany a_there a_tried a_best a_found m_thereMany m_foundMany m_orderHow m_orderRing m_orderMany m_hasBest m_bestTop m_bestBy a_weights a_shared m_random m_truePlace m_trueWay m_seconds m_done m_feelings m_tries m_leftOver m_playDoor m_playRing m_isOpen m_isOver m_wasTried m_hasPlayed a_feltNow a_last a_kept m_hasSeconds m_hasTurned m_hasRound a_hasFeels a_isOn m_firstAct m_meanTop m_meanBy a_order m_rowMany m_newSteps hr_m_at hr_m_bad hr_m_token) lk_RX12_187 ⟨rfl, rfl⟩ ⟨Nat.le_of_ble_eq_true rfl, Nat.le_of_ble_eq_true rfl⟩ 12 rfl rfl rfl [2] [0, 1] rfl rfl (by decide) rfl hl.1 rfl (lv_room (Nat.le_of_ble_eq_true rfl)) dX12_readOld_15 ⟨Nat.le_of_ble_eq_true rfl, Nat.le_of_ble_eq_true rfl⟩ (fun u_13 H locs hw hP hD hS => ?_)
      obtain ⟨n_10, n_11⟩ := u_13
      try dsimp only at hw
      have hr_n_10 := hw
      refine lv_aload_n hx hb dX12_readOld_18 rfl (lv_at hl 0 rfl) ?_
      refine va_get (D := G) (ci := 12) (v := .int n_10) (C := RX12) (T := TX12) (N := 65) hx hb hts inT12 hown hK hP 2 rfl rfl 12 (by decide) (hts _ tw_1897) (fun _ h9 => h9) rfl dX12_readOld_19 ?_
      refine lv_if_ne (tgt := 44) hx hb dX12_readOld_22 (by decide) (fun c_14 => ?_) (fun h9 => (z_no (by have h8 := z_feqF h9; omega)))
      have b_15 := z_fneT c_14
      refine lv_iconst (v := 0) hx hb dX12_readOld_44 (by decide) ?_
      refine lv_istore_n (lv' := [(3, .int 0), (0, .ref h0), (1, .int 2), (2, .int 13)]) hx hb dX12_readOld_45 rfl hl (by decide) rfl (fun ls hl => ?_)
      refine lv_aload_n hx hb dX12_readOld_46 rfl (lv_at hl 1 rfl) ?_
      refine va_get (D := G) (ci := 12) (v := .int n_10) (C := RX12) (T := TX12) (N := 65) hx hb hts inT12 hown hK hP 2 rfl rfl 12 (by decide) (hts _ tw_1897) (fun _ h9 => h9) rfl dX12_readOld_47 ?_
      refine lv_if_ne (tgt := 66) hx hb dX12_readOld_50 (by decide) (fun c_16 => ?_) (fun h9 => (z_no (by have h8 := z_feqF h9; omega)))
      have b_17 := z_fneT c_16
      refine lv_iload_n hx hb dX12_readOld_66 rfl (lv_at hl 0 rfl) ?_
      have hpost : ((-1) ≤ (0 : Int32).toInt ∧ (0 : Int32).toInt ≤ 2) ∧ (0 ≤ n_10.toInt ∧ n_10.toInt ≤ 9) ∧ (m_behind.toInt ≤ m_behind.toInt) ∧ (0 < m_bad.toInt → 0 < n_10.toInt) ∧ (n_10.toInt ≤ 0 → 0 ≤ (0 : Int32).toInt ∧ (0 : Int32).toInt < (g_c 1462).toInt) := ⟨(by decide +kernel), (z_rgw hr_n_10 (by decide) (by decide)), (by omega), (by omega), (by omega)⟩
      exact hret _ _ _ _ _ _ (n_10, n_11) [2, 0, 1] hP hD hS rfl (by decide) dX12_readOld_67 hpost
    · skip
      refine lv_if_ne (tgt := 18) hx hb dX12_readOld_11 (by decide) (fun _ => ?_) (fun h9 => absurd h9 (by decide +kernel))
      refine lv_aload_n hx hb dX12_readOld_18 rfl (lv_at hl 0 rfl) ?_
      refine va_get (D := G) (ci := 12) (v := .int m_bad) (C := RX12) (T := TX12) (N := 65) hx hb hts inT12 hown hK hP 2 rfl rfl 12 (by decide) (hts _ tw_1897) (fun _ h9 => h9) rfl dX12_readOld_19 ?_
      refine lv_if_ne (tgt := 44) hx hb dX12_readOld_22 (by decide) (fun h9 => (z_no (by have h8 := z_fneT h9; omega))) (fun c_18 => ?_)
      have b_19 := z_feqF c_18
      refine lv_aload_n hx hb dX12_readOld_25 rfl (lv_at hl 0 rfl) ?_
      refine lv_iconst (v := 4) hx hb dX12_readOld_26 (by decide) ?_
      refine lv_iload_n hx hb dX12_readOld_27 rfl (lv_at hl 2 rfl) ?_
      refine lv_aload_n hx hb dX12_readOld_28 rfl (lv_at hl 0 rfl) ?_
      refine va_get (D := G) (ci := 12) (v := .ref a_c) (C := RX12) (T := TX12) (N := 65) hx hb hts inT12 hown hK hP 2 rfl rfl 20 (by decide) (hts _ tw_1905) (fun _ h9 => h9) rfl dX12_readOld_29 ?_
      refine lv_sipush (v := 1460) hx hb dX12_readOld_32 (by decide) ?_
      refine lv_iload_n hx hb dX12_readOld_35 rfl (lv_at hl 1 rfl) ?_
      refine lv_iadd hx hb dX12_readOld_36 ?_
      refine z_topi (y := 1462) (by decide +kernel) ?_
      refine va_iald hx hb hK hP 0 0 rfl rfl (z_in (i := 1462) (n := 1825) (by decide +kernel) (by decide +kernel)) dX12_readOld_37 ?_
      refine lv_topi (fun x_20 he_x_20 => ?_)
      have hr_x_20 := z_ctk hC_g_c he_x_20 (k := 1462) (lo := 0) (hi := 3) (by decide +kernel) (by decide +kernel) (by decide +kernel)
      have hv_x_20 := z_cv he_x_20 (k := 1462) (by decide +kernel)
      refine z_callVi (As := [.int 4, .int 13, .int x_20]) (rest := []) (wr := [(a_c, .inl (cA.1 0, 1825, .inl g_c))]) ⟨hx, hb, hml, hown, hts⟩ hK hE hT hP hD hS hA (r_named_4_13 l G cA h0 m_status m_thrown m_above m_under a_traySort a_trayMany a_numbers a_tape m_taped m_textEnd m_faultKind m_faultAt m_bad m_badAt m_token m_at m_behind m_number m_letters m_word a_c a_words m_markMany a_there a_tried a_best a_found m_thereMany m_foundMany m_orderHow m_orderRing m_orderMany m_hasBest m_bestTop m_bestBy a_weights a_shared m_random m_truePlace m_trueWay m_seconds m_done m_feelings m_tries m_leftOver m_playDoor m_playRing m_isOpen m_isOver m_wasTried m_hasPlayed a_feltNow a_last a_kept m_hasSeconds m_hasTurned m_hasRound a_hasFeels a_isOn m_firstAct m_meanTop m_meanBy a_order m_rowMany m_newSteps g_words x_20 hr_x_20) lk_RX12_196 ⟨rfl, rfl⟩ ⟨Nat.le_of_ble_eq_true rfl, Nat.le_of_ble_eq_true rfl⟩ 12 rfl rfl rfl [2, 1] [0] rfl rfl (by decide) rfl hl.1 rfl (lv_room (Nat.le_of_ble_eq_true rfl)) dX12_readOld_38 ⟨Nat.le_of_ble_eq_true rfl, Nat.le_of_ble_eq_true rfl⟩ (fun r_21 u_22 H locs hw hP hD hS => ?_)
      obtain ⟨hr_r_21, hf_23⟩ := hw
      refine lv_goto (tgt := 45) hx hb dX12_readOld_41 (by decide) ?_
      refine lv_istore_n (lv' := [(3, .int r_21), (0, .ref h0), (1, .int 2), (2, .int 13)]) hx hb dX12_readOld_45 rfl hl (by decide) rfl (fun ls hl => ?_)
      refine lv_aload_n hx hb dX12_readOld_46 rfl (lv_at hl 1 rfl) ?_
      refine va_get (D := G) (ci := 12) (v := .int m_bad) (C := RX12) (T := TX12) (N := 65) hx hb hts inT12 hown hK hP 1 rfl rfl 12 (by decide) (hts _ tw_1897) (fun _ h9 => h9) rfl dX12_readOld_47 ?_
      refine lv_if_ne (tgt := 66) hx hb dX12_readOld_50 (by decide) (fun h9 => (z_no (by have h8 := z_fneT h9; omega))) (fun c_24 => ?_)
      have b_25 := z_feqF c_24
      refine lv_iload_n hx hb dX12_readOld_53 rfl (lv_at hl 0 rfl) ?_
      refine lv_if_ge (tgt := 66) hx hb dX12_readOld_54 (by decide) (fun c_26 => ?_) (fun c_26 => ?_)
      · have b_27 := z_fgeT c_26
        refine lv_iload_n hx hb dX12_readOld_66 rfl (lv_at hl 0 rfl) ?_
        have hpost : ((-1) ≤ r_21.toInt ∧ r_21.toInt ≤ 2) ∧ (0 ≤ m_bad.toInt ∧ m_bad.toInt ≤ 9) ∧ (m_behind.toInt ≤ m_behind.toInt) ∧ (0 < m_bad.toInt → 0 < m_bad.toInt) ∧ (m_bad.toInt ≤ 0 → 0 ≤ r_21.toInt ∧ r_21.toInt < (g_c 1462).toInt) := ⟨hr_r_21, hr_m_bad, (by omega), (by omega), (by omega)⟩
        exact hret _ _ _ _ _ _ (m_bad, m_badAt) [1, 0, 2] hP hD hS rfl (by decide) dX12_readOld_67 hpost
      · have b_28 := z_fltF c_26
        refine lv_aload_n hx hb dX12_readOld_57 rfl (lv_at hl 1 rfl) ?_
        refine lv_iconst (v := 3) hx hb dX12_readOld_58 (by decide) ?_
        refine lv_aload_n hx hb dX12_readOld_59 rfl (lv_at hl 1 rfl) ?_
        refine va_get (D := G) (ci := 12) (v := .int m_at) (C := RX12) (T := TX12) (N := 65) hx hb hts inT12 hown hK hP 1 rfl rfl 15 (by decide) (hts _ tw_1900) (fun _ h9 => h9) rfl dX12_readOld_60 ?_
        refine z_callVv (As := [.int 3, .int m_at]) (rest := []) (wr := [(a_c, .inl (cA.1 0, 1825, .inl g_c)), (a_words, .inl (cA.1 1, 105, .inr (.inl g_words)))]) ⟨hx, hb, hml, hown, hts⟩ hK hE hT hP hD hS hA (r_fail l G cA h0 m_status m_thrown m_above m_under a_traySort a_trayMany a_numbers a_tape m_taped m_textEnd m_faultKind m_faultAt m_bad m_badAt m_token m_at m_behind m_number m_letters m_word a_c a_words m_markMany a_there a_tried a_best a_found m_thereMany m_foundMany m_orderHow m_orderRing m_orderMany m_hasBest m_bestTop m_bestBy a_weights a_shared m_random m_truePlace m_trueWay m_seconds m_done m_feelings m_tries m_leftOver m_playDoor m_playRing m_isOpen m_isOver m_wasTried m_hasPlayed a_feltNow a_last a_kept m_hasSeconds m_hasTurned m_hasRound a_hasFeels a_isOn m_firstAct m_meanTop m_meanBy a_order m_rowMany m_newSteps 3 m_at (by decide +kernel) hr_m_bad) lk_RX12_180 ⟨rfl, rfl⟩ ⟨Nat.le_of_ble_eq_true rfl, Nat.le_of_ble_eq_true rfl⟩ 12 rfl rfl rfl [1] [0, 2] rfl rfl (by decide) rfl hl.1 rfl (lv_room (Nat.le_of_ble_eq_true rfl)) dX12_readOld_63 ⟨Nat.le_of_ble_eq_true rfl, Nat.le_of_ble_eq_true rfl⟩ (fun u_32 H locs hw hP hD hS => ?_)
        obtain ⟨n_29, n_30⟩ := u_32
        try dsimp only at hw
        obtain ⟨hr_n_29, hf_33⟩ := hw
        refine lv_iload_n hx hb dX12_readOld_66 rfl (lv_at hl 0 rfl) ?_
        have hpost : ((-1) ≤ r_21.toInt ∧ r_21.toInt ≤ 2) ∧ (0 ≤ n_29.toInt ∧ n_29.toInt ≤ 9) ∧ (m_behind.toInt ≤ m_behind.toInt) ∧ (0 < m_bad.toInt → 0 < n_29.toInt) ∧ (n_29.toInt ≤ 0 → 0 ≤ r_21.toInt ∧ r_21.toInt < (g_c 1462).toInt) := ⟨hr_r_21, (z_rgw hr_n_29 (by decide) (by decide)), (by omega), (by omega), (by omega)⟩
        exact hret _ _ _ _ _ _ (n_29, n_30) [2, 0, 1] hP hD hS rfl (by decide) dX12_readOld_67 hpost
set_option maxHeartbeats 4000000 in
set_option maxRecDepth 100000 in
theorem r_readNew_3 (l : Launch) (G : va_G) (cA : zCA) (h0 : Nat) (m_status : Int32) (m_thrown : Int32) (m_above : Int64) (m_under : Int64) (a_traySort : Nat) (a_trayMany : Nat) (a_numbers : Nat) (a_tape : Nat) (m_taped : Int32) (m_textEnd : Int32) (m_faultKind : Int32) (m_faultAt : Int32) (m_bad : Int32) (m_badAt : Int32) (m_token : Int32) (m_at : Int32) (m_behind : Int32) (m_number : Int32) (m_letters : Int32) (m_word : Int64) (a_c : Nat) (a_words : Nat) (m_markMany : Int32) (a_there : Nat) (a_tried : Nat) (a_best : Nat) (a_found : Nat) (m_thereMany : Int32) (m_foundMany : Int32) (m_orderHow : Int32) (m_orderRing : Int32) (m_orderMany : Int32) (m_hasBest : Int32) (m_bestTop : Int64) (m_bestBy : Int64) (a_weights : Nat) (a_shared : Nat) (m_random : Int32) (m_truePlace : Int32) (m_trueWay : Int32) (m_seconds : Int32) (m_done : Int32) (m_feelings : Int32) (m_tries : Int32) (m_leftOver : Int32) (m_playDoor : Int32) (m_playRing : Int32) (m_isOpen : Int32) (m_isOver : Int32) (m_wasTried : Int32) (m_hasPlayed : Int32) (a_feltNow : Nat) (a_last : Nat) (a_kept : Nat) (m_hasSeconds : Int32) (m_hasTurned : Int32) (m_hasRound : Int32) (a_hasFeels : Nat) (a_isOn : Nat) (m_firstAct : Int32) (m_meanTop : Int64) (m_meanBy : Int64) (a_order : Nat) (m_rowMany : Int32) (m_newSteps : Int32) (g_tape : Nat → Int32) (g_c : Nat → Int32) (g_words : Nat → Int64) (hr_m_textEnd : 0 ≤ m_textEnd.toInt ∧ m_textEnd.toInt ≤ 900) (hr_m_at : 0 ≤ m_at.toInt ∧ m_at.toInt ≤ 900) (hr_m_behind : 0 ≤ m_behind.toInt ∧ m_behind.toInt ≤ 900) (hr_m_bad : 0 ≤ m_bad.toInt ∧ m_bad.toInt ≤ 9) (hr_m_token : 0 ≤ m_token.toInt ∧ m_token.toInt ≤ 4) (hr_m_number : 0 ≤ m_number.toInt ∧ m_number.toInt ≤ 9999) (hr_m_letters : 0 ≤ m_letters.toInt ∧ m_letters.toInt ≤ 900) (hC_g_c : zC g_c) : zCi l yX12_readNew cX12_readNew 5 (some .int) ({ frames := 3, cells := 0, slots := 0, locals := 67 }) G cA [.ref h0, .int 3, .int 5, .int 16] [(h0, .inr (12, [.int m_status, .int m_thrown, .long m_above, .long m_under, .ref a_traySort, .ref a_trayMany, .ref a_numbers, .ref a_tape, .int m_taped, .int m_textEnd, .int m_faultKind, .int m_faultAt, .int m_bad, .int m_badAt, .int m_token, .int m_at, .int m_behind, .int m_number, .int m_letters, .long m_word, .ref a_c, .ref a_words, .int m_markMany, .ref a_there, .ref a_tried, .ref a_best, .ref a_found, .int m_thereMany, .int m_foundMany, .int m_orderHow, .int m_orderRing, .int m_orderMany, .int m_hasBest, .long m_bestTop, .long m_bestBy, .ref a_weights, .ref a_shared, .int m_random, .int m_truePlace, .int m_trueWay, .int m_seconds, .int m_done, .int m_feelings, .int m_tries, .int m_leftOver, .int m_playDoor, .int m_playRing, .int m_isOpen, .int m_isOver, .int m_wasTried, .int m_hasPlayed, .ref a_feltNow, .ref a_last, .ref a_kept, .int m_hasSeconds, .int m_hasTurned, .int m_hasRound, .ref a_hasFeels, .ref a_isOn, .int m_firstAct, .long m_meanTop, .long m_meanBy, .ref a_order, .int m_rowMany, .int m_newSteps])), (a_tape, .inl (cA.1 2, 900, .inl g_tape)), (a_c, .inl (cA.1 0, 1825, .inl g_c)), (a_words, .inl (cA.1 1, 105, .inr (.inl g_words)))] (S := Int32 × Int32 × Int32 × Int32 × Int32 × Int32 × Int32 × Int64 × (Nat → Int64)) (fun (r : Int32) (u : Int32 × Int32 × Int32 × Int32 × Int32 × Int32 × Int32 × Int64 × (Nat → Int64)) => (0 ≤ r.toInt ∧ r.toInt ≤ 4) ∧ (0 ≤ u.1.toInt ∧ u.1.toInt ≤ 9) ∧ (0 ≤ u.2.2.1.toInt ∧ u.2.2.1.toInt ≤ 4) ∧ (0 ≤ u.2.2.2.1.toInt ∧ u.2.2.2.1.toInt ≤ 900) ∧ (0 ≤ u.2.2.2.2.1.toInt ∧ u.2.2.2.2.1.toInt ≤ 900) ∧ (0 ≤ u.2.2.2.2.2.1.toInt ∧ u.2.2.2.2.2.1.toInt ≤ 9999) ∧ (0 ≤ u.2.2.2.2.2.2.1.toInt ∧ u.2.2.2.2.2.2.1.toInt ≤ 900) ∧ (m_behind.toInt ≤ u.2.2.2.2.1.toInt) ∧ (0 < m_bad.toInt → 0 < u.1.toInt) ∧ (u.1.toInt ≤ 0 → u.2.2.1.toInt = 0 ∨ m_behind.toInt < u.2.2.2.2.1.toInt) ∧ (u.1.toInt ≤ 0 → r.toInt = (g_c 1463).toInt) ∧ (r.toInt < 5)) (fun (u : Int32 × Int32 × Int32 × Int32 × Int32 × Int32 × Int32 × Int64 × (Nat → Int64)) => [(h0, .inr (12, [.int m_status, .int m_thrown, .long m_above, .long m_under, .ref a_traySort, .ref a_trayMany, .ref a_numbers, .ref a_tape, .int m_taped, .int m_textEnd, .int m_faultKind, .int m_faultAt, .int u.1, .int u.2.1, .int u.2.2.1, .int u.2.2.2.1, .int u.2.2.2.2.1, .int u.2.2.2.2.2.1, .int u.2.2.2.2.2.2.1, .long u.2.2.2.2.2.2.2.1, .ref a_c, .ref a_words, .int m_markMany, .ref a_there, .ref a_tried, .ref a_best, .ref a_found, .int m_thereMany, .int m_foundMany, .int m_orderHow, .int m_orderRing, .int m_orderMany, .int m_hasBest, .long m_bestTop, .long m_bestBy, .ref a_weights, .ref a_shared, .int m_random, .int m_truePlace, .int m_trueWay, .int m_seconds, .int m_done, .int m_feelings, .int m_tries, .int m_leftOver, .int m_playDoor, .int m_playRing, .int m_isOpen, .int m_isOver, .int m_wasTried, .int m_hasPlayed, .ref a_feltNow, .ref a_last, .ref a_kept, .int m_hasSeconds, .int m_hasTurned, .int m_hasRound, .ref a_hasFeels, .ref a_isOn, .int m_firstAct, .long m_meanTop, .long m_meanBy, .ref a_order, .int m_rowMany, .int m_newSteps])), (a_tape, .inl (cA.1 2, 900, .inl g_tape)), (a_c, .inl (cA.1 0, 1825, .inl g_c)), (a_words, .inl (cA.1 1, 105, .inr (.inl u.2.2.2.2.2.2.2.2)))]) 0 0 := by
  have hk_0 : (0 : Int32).toInt = 0 := by decide +kernel
  have hk_3 : (3 : Int32).toInt = 3 := by decide +kernel
  have hk_5 : (5 : Int32).toInt = 5 := by decide +kernel
  have hk_6 : (6 : Int32).toInt = 6 := by decide +kernel
  have hk_100 : (100 : Int32).toInt = 100 := by decide +kernel
  refine z_start2i (own := RX12) (by decide) (Nat.le_of_ble_eq_true rfl) rfl ?_
  intro p e s m args below meth c A ls Q hx hb hml hts hown hK hE hT hP hD hS hA hl hret
  have hl : lv_has ls 5 [(0, .ref h0), (1, .int 3), (2, .int 5), (3, .int 16)] := hl
  refine lv_aload_n hx hb dX12_readNew_0 rfl (lv_at hl 0 rfl) ?_
  refine va_get (D := G) (ci := 12) (v := .ref a_c) (C := RX12) (T := TX12) (N := 65) hx hb hts inT12 hown hK hP 0 rfl rfl 20 (by decide) (hts _ tw_1905) (fun _ h9 => h9) rfl dX12_readNew_1 ?_
  refine lv_sipush (v := 1460) hx hb dX12_readNew_4 (by decide) ?_
  refine lv_iload_n hx hb dX12_readNew_7 rfl (lv_at hl 1 rfl) ?_
  refine lv_iadd hx hb dX12_readNew_8 ?_
  refine z_topi (y := 1463) (by decide +kernel) ?_
  refine va_iald hx hb hK hP 2 0 rfl rfl (z_in (i := 1463) (n := 1825) (by decide +kernel) (by decide +kernel)) dX12_readNew_9 ?_
  refine lv_topi (fun x_1 he_x_1 => ?_)
  have hr_x_1 := z_ctk hC_g_c he_x_1 (k := 1463) (lo := 0) (hi := 5) (by decide +kernel) (by decide +kernel) (by decide +kernel)
  have hv_x_1 := z_cv he_x_1 (k := 1463) (by decide +kernel)
  refine lv_istore (lv' := [(4, .int x_1), (0, .ref h0), (1, .int 3), (2, .int 5), (3, .int 16)]) hx hb dX12_readNew_10 hl (by decide) rfl (fun ls hl => ?_)
  refine lv_aload_n hx hb dX12_readNew_12 rfl (lv_at hl 1 rfl) ?_
  refine va_get (D := G) (ci := 12) (v := .int m_bad) (C := RX12) (T := TX12) (N := 65) hx hb hts inT12 hown hK hP 0 rfl rfl 12 (by decide) (hts _ tw_1897) (fun _ h9 => h9) rfl dX12_readNew_13 ?_
  refine lv_if_ne (tgt := 35) hx hb dX12_readNew_16 (by decide) (fun c_2 => ?_) (fun c_2 => ?_)
  · have b_3 := z_fneT c_2
    refine lv_aload_n hx hb dX12_readNew_35 rfl (lv_at hl 1 rfl) ?_
    refine va_get (D := G) (ci := 12) (v := .int m_bad) (C := RX12) (T := TX12) (N := 65) hx hb hts inT12 hown hK hP 0 rfl rfl 12 (by decide) (hts _ tw_1897) (fun _ h9 => h9) rfl dX12_readNew_36 ?_
    refine lv_if_le (tgt := 44) hx hb dX12_readNew_39 (by decide) (fun h9 => (z_no (by have h8 := z_fleT h9; omega))) (fun c_4 => ?_)
    have b_5 := z_fgtF c_4
    refine lv_iconst (v := 0) hx hb dX12_readNew_42 (by decide) ?_
    have hpost : (0 ≤ (0 : Int32).toInt ∧ (0 : Int32).toInt ≤ 4) ∧ (0 ≤ m_bad.toInt ∧ m_bad.toInt ≤ 9) ∧ (0 ≤ m_token.toInt ∧ m_token.toInt ≤ 4) ∧ (0 ≤ m_at.toInt ∧ m_at.toInt ≤ 900) ∧ (0 ≤ m_behind.toInt ∧ m_behind.toInt ≤ 900) ∧ (0 ≤ m_number.toInt ∧ m_number.toInt ≤ 9999) ∧ (0 ≤ m_letters.toInt ∧ m_letters.toInt ≤ 900) ∧ (m_behind.toInt ≤ m_behind.toInt) ∧ (0 < m_bad.toInt → 0 < m_bad.toInt) ∧ (m_bad.toInt ≤ 0 → m_token.toInt = 0 ∨ m_behind.toInt < m_behind.toInt) ∧ (m_bad.toInt ≤ 0 → (0 : Int32).toInt = (g_c 1463).toInt) ∧ ((0 : Int32).toInt < 5) := ⟨(by decide +kernel), hr_m_bad, hr_m_token, hr_m_at, hr_m_behind, hr_m_number, hr_m_letters, (by omega), (by omega), (by omega), (by omega), (by omega)⟩
    exact hret _ _ _ _ _ _ (m_bad, m_badAt, m_token, m_at, m_behind, m_number, m_letters, m_word, g_words) [0, 1, 2, 3] hP hD hS rfl (by decide) dX12_readNew_43 hpost
  · have b_6 := z_feqF c_2
    refine lv_iload hx hb dX12_readNew_19 (lv_at hl 0 rfl) ?_
    refine lv_iload_n hx hb dX12_readNew_21 rfl (lv_at hl 3 rfl) ?_
    refine lv_icmp_ne (tgt := 35) hx hb dX12_readNew_22 (by decide) (fun c_7 => ?_) (fun c_7 => ?_)
    · have b_8 := z_fneT c_7
      refine lv_aload_n hx hb dX12_readNew_35 rfl (lv_at hl 1 rfl) ?_
      refine va_get (D := G) (ci := 12) (v := .int m_bad) (C := RX12) (T := TX12) (N := 65) hx hb hts inT12 hown hK hP 0 rfl rfl 12 (by decide) (hts _ tw_1897) (fun _ h9 => h9) rfl dX12_readNew_36 ?_
      refine lv_if_le (tgt := 44) hx hb dX12_readNew_39 (by decide) (fun c_9 => ?_) (fun h9 => (z_no (by have h8 := z_fgtF h9; omega)))
      have b_10 := z_fleT c_9
      refine lv_aload_n hx hb dX12_readNew_44 rfl (lv_at hl 1 rfl) ?_
      refine z_callVv (As := []) (rest := []) (wr := [(a_c, .inl (cA.1 0, 1825, .inl g_c)), (a_words, .inl (cA.1 1, 105, .inr (.inl g_words)))]) ⟨hx, hb, hml, hown, hts⟩ hK hE hT hP hD hS hA (r_next2 l G cA h0 m_status m_thrown m_above m_under a_traySort a_trayMany a_numbers a_tape m_taped m_textEnd m_faultKind m_faultAt m_bad m_badAt m_token m_at m_behind m_number m_letters m_word a_c a_words m_markMany a_there a_tried a_best a_found m_thereMany m_foundMany m_orderHow m_orderRing m_orderMany m_hasBest m_bestTop m_bestBy a_weights a_shared m_random m_truePlace m_trueWay m_seconds m_done m_feelings m_tries m_leftOver m_playDoor m_playRing m_isOpen m_isOver m_wasTried m_hasPlayed a_feltNow a_last a_kept m_hasSeconds m_hasTurned m_hasRound a_hasFeels a_isOn m_firstAct m_meanTop m_meanBy a_order m_rowMany m_newSteps g_tape hr_m_textEnd hr_m_at hr_m_behind hr_m_token hr_m_number hr_m_letters) lk_RX12_184 ⟨rfl, rfl⟩ ⟨Nat.le_of_ble_eq_true rfl, Nat.le_of_ble_eq_true rfl⟩ 12 rfl rfl rfl [0, 1] [2, 3] rfl rfl (by decide) rfl hl.1 rfl (lv_room (Nat.le_of_ble_eq_true rfl)) dX12_readNew_45 ⟨Nat.le_of_ble_eq_true rfl, Nat.le_of_ble_eq_true rfl⟩ (fun u_18 H locs hw hP hD hS => ?_)
      obtain ⟨n_11, n_12, n_13, n_14, n_15, n_16⟩ := u_18
      try dsimp only at hw
      obtain ⟨hr_n_11, hr_n_12, hr_n_13, hr_n_14, hr_n_15, hf_19, hf_20⟩ := hw
      refine lv_aload_n hx hb dX12_readNew_48 rfl (lv_at hl 1 rfl) ?_
      refine z_callVi (As := []) (rest := []) (wr := [(a_c, .inl (cA.1 0, 1825, .inl g_c)), (a_words, .inl (cA.1 1, 105, .inr (.inl g_words))), (a_tape, .inl (cA.1 2, 900, .inl g_tape))]) ⟨hx, hb, hml, hown, hts⟩ hK hE hT hP hD hS hA (r_isHouseName l G cA h0 m_status m_thrown m_above m_under a_traySort a_trayMany a_numbers a_tape m_taped m_textEnd m_faultKind m_faultAt m_bad m_badAt n_11 n_12 n_13 n_14 n_15 n_16 a_c a_words m_markMany a_there a_tried a_best a_found m_thereMany m_foundMany m_orderHow m_orderRing m_orderMany m_hasBest m_bestTop m_bestBy a_weights a_shared m_random m_truePlace m_trueWay m_seconds m_done m_feelings m_tries m_leftOver m_playDoor m_playRing m_isOpen m_isOver m_wasTried m_hasPlayed a_feltNow a_last a_kept m_hasSeconds m_hasTurned m_hasRound a_hasFeels a_isOn m_firstAct m_meanTop m_meanBy a_order m_rowMany m_newSteps hr_n_11 hr_n_15) lk_RX12_200 ⟨rfl, rfl⟩ ⟨Nat.le_of_ble_eq_true rfl, Nat.le_of_ble_eq_true rfl⟩ 12 rfl rfl rfl [2] [0, 1, 3] rfl rfl (by decide) rfl hl.1 rfl (lv_room (Nat.le_of_ble_eq_true rfl)) dX12_readNew_49 ⟨Nat.le_of_ble_eq_true rfl, Nat.le_of_ble_eq_true rfl⟩ (fun r_21 u_22 H locs hw hP hD hS => ?_)
      rcases hw with ⟨rfl, -⟩ | ⟨rfl, -⟩
      · skip
        refine lv_if_ne (tgt := 59) hx hb dX12_readNew_52 (by decide) (fun h9 => absurd (by decide +kernel) h9) (fun _ => ?_)
        refine lv_aload_n hx hb dX12_readNew_55 rfl (lv_at hl 1 rfl) ?_
        refine z_callVv (As := []) (rest := []) (wr := [(a_c, .inl (cA.1 0, 1825, .inl g_c)), (a_words, .inl (cA.1 1, 105, .inr (.inl g_words))), (a_tape, .inl (cA.1 2, 900, .inl g_tape))]) ⟨hx, hb, hml, hown, hts⟩ hK hE hT hP hD hS hA (r_wrong l G cA h0 m_status m_thrown m_above m_under a_traySort a_trayMany a_numbers a_tape m_taped m_textEnd m_faultKind m_faultAt m_bad m_badAt n_11 n_12 n_13 n_14 n_15 n_16 a_c a_words m_markMany a_there a_tried a_best a_found m_thereMany m_foundMany m_orderHow m_orderRing m_orderMany m_hasBest m_bestTop m_bestBy a_weights a_shared m_random m_truePlace m_trueWay m_seconds m_done m_feelings m_tries m_leftOver m_playDoor m_playRing m_isOpen m_isOver m_wasTried m_hasPlayed a_feltNow a_last a_kept m_hasSeconds m_hasTurned m_hasRound a_hasFeels a_isOn m_firstAct m_meanTop m_meanBy a_order m_rowMany m_newSteps hr_n_12 hr_m_bad hr_n_11) lk_RX12_187 ⟨rfl, rfl⟩ ⟨Nat.le_of_ble_eq_true rfl, Nat.le_of_ble_eq_true rfl⟩ 12 rfl rfl rfl [3] [0, 1, 2] rfl rfl (by decide) rfl hl.1 rfl (lv_room (Nat.le_of_ble_eq_true rfl)) dX12_readNew_56 ⟨Nat.le_of_ble_eq_true rfl, Nat.le_of_ble_eq_true rfl⟩ (fun u_26 H locs hw hP hD hS => ?_)
        obtain ⟨n_23, n_24⟩ := u_26
        try dsimp only at hw
        have hr_n_23 := hw
        refine lv_aload_n hx hb dX12_readNew_59 rfl (lv_at hl 1 rfl) ?_
        refine va_get (D := G) (ci := 12) (v := .int n_23) (C := RX12) (T := TX12) (N := 65) hx hb hts inT12 hown hK hP 3 rfl rfl 12 (by decide) (hts _ tw_1897) (fun _ h9 => h9) rfl dX12_readNew_60 ?_
        refine lv_if_ne (tgt := 82) hx hb dX12_readNew_63 (by decide) (fun c_27 => ?_) (fun h9 => (z_no (by have h8 := z_feqF h9; omega)))
        have b_28 := z_fneT c_27
        refine lv_aload_n hx hb dX12_readNew_82 rfl (lv_at hl 1 rfl) ?_
        refine va_get (D := G) (ci := 12) (v := .int n_23) (C := RX12) (T := TX12) (N := 65) hx hb hts inT12 hown hK hP 3 rfl rfl 12 (by decide) (hts _ tw_1897) (fun _ h9 => h9) rfl dX12_readNew_83 ?_
        refine lv_if_le (tgt := 91) hx hb dX12_readNew_86 (by decide) (fun h9 => (z_no (by have h8 := z_fleT h9; omega))) (fun c_29 => ?_)
        have b_30 := z_fgtF c_29
        refine lv_iconst (v := 0) hx hb dX12_readNew_89 (by decide) ?_
        have hpost : (0 ≤ (0 : Int32).toInt ∧ (0 : Int32).toInt ≤ 4) ∧ (0 ≤ n_23.toInt ∧ n_23.toInt ≤ 9) ∧ (0 ≤ n_11.toInt ∧ n_11.toInt ≤ 4) ∧ (0 ≤ n_12.toInt ∧ n_12.toInt ≤ 900) ∧ (0 ≤ n_13.toInt ∧ n_13.toInt ≤ 900) ∧ (0 ≤ n_14.toInt ∧ n_14.toInt ≤ 9999) ∧ (0 ≤ n_15.toInt ∧ n_15.toInt ≤ 900) ∧ (m_behind.toInt ≤ n_13.toInt) ∧ (0 < m_bad.toInt → 0 < n_23.toInt) ∧ (n_23.toInt ≤ 0 → n_11.toInt = 0 ∨ m_behind.toInt < n_13.toInt) ∧ (n_23.toInt ≤ 0 → (0 : Int32).toInt = (g_c 1463).toInt) ∧ ((0 : Int32).toInt < 5) := ⟨(by decide +kernel), (z_rgw hr_n_23 (by decide) (by decide)), hr_n_11, hr_n_12, hr_n_13, hr_n_14, hr_n_15, (by omega), (by omega), (by omega), (by omega), (by omega)⟩
        exact hret _ _ _ _ _ _ (n_23, n_24, n_11, n_12, n_13, n_14, n_15, n_16, g_words) [3, 2, 0, 1] hP hD hS rfl (by decide) dX12_readNew_90 hpost
      · skip
        refine lv_if_ne (tgt := 59) hx hb dX12_readNew_52 (by decide) (fun _ => ?_) (fun h9 => absurd h9 (by decide +kernel))
        refine lv_aload_n hx hb dX12_readNew_59 rfl (lv_at hl 1 rfl) ?_
        refine va_get (D := G) (ci := 12) (v := .int m_bad) (C := RX12) (T := TX12) (N := 65) hx hb hts inT12 hown hK hP 3 rfl rfl 12 (by decide) (hts _ tw_1897) (fun _ h9 => h9) rfl dX12_readNew_60 ?_
        refine lv_if_ne (tgt := 82) hx hb dX12_readNew_63 (by decide) (fun h9 => (z_no (by have h8 := z_fneT h9; omega))) (fun c_31 => ?_)
        have b_32 := z_feqF c_31
        refine lv_aload_n hx hb dX12_readNew_66 rfl (lv_at hl 1 rfl) ?_
        refine z_callVi (As := []) (rest := []) (wr := [(a_tape, .inl (cA.1 2, 900, .inl g_tape))]) ⟨hx, hb, hml, hown, hts⟩ hK hE hT hP hD hS hA (r_isTaken l G cA h0 m_status m_thrown m_above m_under a_traySort a_trayMany a_numbers a_tape m_taped m_textEnd m_faultKind m_faultAt m_bad m_badAt n_11 n_12 n_13 n_14 n_15 n_16 a_c a_words m_markMany a_there a_tried a_best a_found m_thereMany m_foundMany m_orderHow m_orderRing m_orderMany m_hasBest m_bestTop m_bestBy a_weights a_shared m_random m_truePlace m_trueWay m_seconds m_done m_feelings m_tries m_leftOver m_playDoor m_playRing m_isOpen m_isOver m_wasTried m_hasPlayed a_feltNow a_last a_kept m_hasSeconds m_hasTurned m_hasRound a_hasFeels a_isOn m_firstAct m_meanTop m_meanBy a_order m_rowMany m_newSteps g_c g_words hC_g_c) lk_RX12_204 ⟨rfl, rfl⟩ ⟨Nat.le_of_ble_eq_true rfl, Nat.le_of_ble_eq_true rfl⟩ 12 rfl rfl rfl [3, 0, 1] [2] rfl rfl (by decide) rfl hl.1 rfl (lv_room (Nat.le_of_ble_eq_true rfl)) dX12_readNew_67 ⟨Nat.le_of_ble_eq_true rfl, Nat.le_of_ble_eq_true rfl⟩ (fun r_33 u_34 H locs hw hP hD hS => ?_)
        rcases hw with ⟨rfl, -⟩ | ⟨rfl, -⟩
        · skip
          refine lv_if_eq (tgt := 82) hx hb dX12_readNew_70 (by decide) (fun _ => ?_) (fun h9 => absurd (by decide +kernel) h9)
          refine lv_aload_n hx hb dX12_readNew_82 rfl (lv_at hl 1 rfl) ?_
          refine va_get (D := G) (ci := 12) (v := .int m_bad) (C := RX12) (T := TX12) (N := 65) hx hb hts inT12 hown hK hP 1 rfl rfl 12 (by decide) (hts _ tw_1897) (fun _ h9 => h9) rfl dX12_readNew_83 ?_
          refine lv_if_le (tgt := 91) hx hb dX12_readNew_86 (by decide) (fun c_35 => ?_) (fun h9 => (z_no (by have h8 := z_fgtF h9; omega)))
          have b_36 := z_fleT c_35
          refine lv_aload_n hx hb dX12_readNew_91 rfl (lv_at hl 1 rfl) ?_
          refine va_get (D := G) (ci := 12) (v := .ref a_words) (C := RX12) (T := TX12) (N := 65) hx hb hts inT12 hown hK hP 1 rfl rfl 21 (by decide) (hts _ tw_1906) (fun _ h9 => h9) rfl dX12_readNew_92 ?_
          refine lv_bipush (v := 84) hx hb dX12_readNew_95 (by decide) ?_
          refine lv_iload_n hx hb dX12_readNew_97 rfl (lv_at hl 4 rfl) ?_
          refine lv_iadd hx hb dX12_readNew_98 ?_
          refine z_topi (y := 100) (by decide +kernel) ?_
          refine lv_iload hx hb dX12_readNew_99 (lv_at hl 0 rfl) ?_
          refine lv_iadd hx hb dX12_readNew_101 ?_
          refine lv_topi (fun x_37 he_x_37 => ?_)
          have hq_x_37 := z_addq he_x_37 hk_100 (rfl : x_1.toInt = _) (by omega) (by omega)
          refine lv_aload_n hx hb dX12_readNew_102 rfl (lv_at hl 1 rfl) ?_
          refine va_get (D := G) (ci := 12) (v := .long n_16) (C := RX12) (T := TX12) (N := 65) hx hb hts inT12 hown hK hP 1 rfl rfl 19 (by decide) (hts _ tw_1904) (fun _ h9 => h9) rfl dX12_readNew_103 ?_
          refine z_last hx hb hK hP hD hS 3 1 rfl rfl (z_inN (by omega) (by omega)) dX12_readNew_106 (fun g_38 hg_g_38 H locs hP hD hS => ?_)
          refine lv_aload_n hx hb dX12_readNew_107 rfl (lv_at hl 1 rfl) ?_
          refine z_callVv (As := []) (rest := []) (wr := [(a_c, .inl (cA.1 0, 1825, .inl g_c)), (a_words, .inl (cA.1 1, 105, .inr (.inl g_38)))]) ⟨hx, hb, hml, hown, hts⟩ hK hE hT hP hD hS hA (r_next2 l G cA h0 m_status m_thrown m_above m_under a_traySort a_trayMany a_numbers a_tape m_taped m_textEnd m_faultKind m_faultAt m_bad m_badAt n_11 n_12 n_13 n_14 n_15 n_16 a_c a_words m_markMany a_there a_tried a_best a_found m_thereMany m_foundMany m_orderHow m_orderRing m_orderMany m_hasBest m_bestTop m_bestBy a_weights a_shared m_random m_truePlace m_trueWay m_seconds m_done m_feelings m_tries m_leftOver m_playDoor m_playRing m_isOpen m_isOver m_wasTried m_hasPlayed a_feltNow a_last a_kept m_hasSeconds m_hasTurned m_hasRound a_hasFeels a_isOn m_firstAct m_meanTop m_meanBy a_order m_rowMany m_newSteps g_tape hr_m_textEnd hr_n_12 hr_n_13 hr_n_11 hr_n_14 hr_n_15) lk_RX12_184 ⟨rfl, rfl⟩ ⟨Nat.le_of_ble_eq_true rfl, Nat.le_of_ble_eq_true rfl⟩ 12 rfl rfl rfl [1, 0] [2, 3] rfl rfl (by decide) rfl hl.1 rfl (lv_room (Nat.le_of_ble_eq_true rfl)) dX12_readNew_108 ⟨Nat.le_of_ble_eq_true rfl, Nat.le_of_ble_eq_true rfl⟩ (fun u_46 H locs hw hP hD hS => ?_)
          obtain ⟨n_39, n_40, n_41, n_42, n_43, n_44⟩ := u_46
          try dsimp only at hw
          obtain ⟨hr_n_39, hr_n_40, hr_n_41, hr_n_42, hr_n_43, hf_47, hf_48⟩ := hw
          refine lv_iload hx hb dX12_readNew_111 (lv_at hl 0 rfl) ?_
          have hpost : (0 ≤ x_1.toInt ∧ x_1.toInt ≤ 4) ∧ (0 ≤ m_bad.toInt ∧ m_bad.toInt ≤ 9) ∧ (0 ≤ n_39.toInt ∧ n_39.toInt ≤ 4) ∧ (0 ≤ n_40.toInt ∧ n_40.toInt ≤ 900) ∧ (0 ≤ n_41.toInt ∧ n_41.toInt ≤ 900) ∧ (0 ≤ n_42.toInt ∧ n_42.toInt ≤ 9999) ∧ (0 ≤ n_43.toInt ∧ n_43.toInt ≤ 900) ∧ (m_behind.toInt ≤ n_41.toInt) ∧ (0 < m_bad.toInt → 0 < m_bad.toInt) ∧ (m_bad.toInt ≤ 0 → n_39.toInt = 0 ∨ m_behind.toInt < n_41.toInt) ∧ (m_bad.toInt ≤ 0 → x_1.toInt = (g_c 1463).toInt) ∧ (x_1.toInt < 5) := ⟨(by omega), hr_m_bad, hr_n_39, hr_n_40, hr_n_41, hr_n_42, hr_n_43, (by omega), (by omega), (by omega), (by omega), (by omega)⟩
          exact hret _ _ _ _ _ _ (m_bad, m_badAt, n_39, n_40, n_41, n_42, n_43, n_44, g_38) [2, 3, 0, 1] hP hD hS rfl (by decide) dX12_readNew_113 hpost
        · skip
          refine lv_if_eq (tgt := 82) hx hb dX12_readNew_70 (by decide) (fun h9 => absurd h9 (by decide +kernel)) (fun _ => ?_)
          refine lv_aload_n hx hb dX12_readNew_73 rfl (lv_at hl 1 rfl) ?_
          refine lv_iconst (v := 3) hx hb dX12_readNew_74 (by decide) ?_
          refine lv_aload_n hx hb dX12_readNew_75 rfl (lv_at hl 1 rfl) ?_
          refine va_get (D := G) (ci := 12) (v := .int n_12) (C := RX12) (T := TX12) (N := 65) hx hb hts inT12 hown hK hP 1 rfl rfl 15 (by decide) (hts _ tw_1900) (fun _ h9 => h9) rfl dX12_readNew_76 ?_
          refine z_callVv (As := [.int 3, .int n_12]) (rest := []) (wr := [(a_tape, .inl (cA.1 2, 900, .inl g_tape)), (a_c, .inl (cA.1 0, 1825, .inl g_c)), (a_words, .inl (cA.1 1, 105, .inr (.inl g_words)))]) ⟨hx, hb, hml, hown, hts⟩ hK hE hT hP hD hS hA (r_fail l G cA h0 m_status m_thrown m_above m_under a_traySort a_trayMany a_numbers a_tape m_taped m_textEnd m_faultKind m_faultAt m_bad m_badAt n_11 n_12 n_13 n_14 n_15 n_16 a_c a_words m_markMany a_there a_tried a_best a_found m_thereMany m_foundMany m_orderHow m_orderRing m_orderMany m_hasBest m_bestTop m_bestBy a_weights a_shared m_random m_truePlace m_trueWay m_seconds m_done m_feelings m_tries m_leftOver m_playDoor m_playRing m_isOpen m_isOver m_wasTried m_hasPlayed a_feltNow a_last a_kept m_hasSeconds m_hasTurned m_hasRound a_hasFeels a_isOn m_firstAct m_meanTop m_meanBy a_order m_rowMany m_newSteps 3 n_12 (by decide +kernel) hr_m_bad) lk_RX12_180 ⟨rfl, rfl⟩ ⟨Nat.le_of_ble_eq_true rfl, Nat.le_of_ble_eq_true rfl⟩ 12 rfl rfl rfl [1] [0, 2, 3] rfl rfl (by decide) rfl hl.1 rfl (lv_room (Nat.le_of_ble_eq_true rfl)) dX12_readNew_79 ⟨Nat.le_of_ble_eq_true rfl, Nat.le_of_ble_eq_true rfl⟩ (fun u_52 H locs hw hP hD hS => ?_)
          obtain ⟨n_49, n_50⟩ := u_52
          try dsimp only at hw
          obtain ⟨hr_n_49, hf_53⟩ := hw
          refine lv_aload_n hx hb dX12_readNew_82 rfl (lv_at hl 1 rfl) ?_
          refine va_get (D := G) (ci := 12) (v := .int n_49) (C := RX12) (T := TX12) (N := 65) hx hb hts inT12 hown hK hP 3 rfl rfl 12 (by decide) (hts _ tw_1897) (fun _ h9 => h9) rfl dX12_readNew_83 ?_
          refine lv_if_le (tgt := 91) hx hb dX12_readNew_86 (by decide) (fun h9 => (z_no (by have h8 := z_fleT h9; omega))) (fun c_54 => ?_)
          have b_55 := z_fgtF c_54
          refine lv_iconst (v := 0) hx hb dX12_readNew_89 (by decide) ?_
          have hpost : (0 ≤ (0 : Int32).toInt ∧ (0 : Int32).toInt ≤ 4) ∧ (0 ≤ n_49.toInt ∧ n_49.toInt ≤ 9) ∧ (0 ≤ n_11.toInt ∧ n_11.toInt ≤ 4) ∧ (0 ≤ n_12.toInt ∧ n_12.toInt ≤ 900) ∧ (0 ≤ n_13.toInt ∧ n_13.toInt ≤ 900) ∧ (0 ≤ n_14.toInt ∧ n_14.toInt ≤ 9999) ∧ (0 ≤ n_15.toInt ∧ n_15.toInt ≤ 900) ∧ (m_behind.toInt ≤ n_13.toInt) ∧ (0 < m_bad.toInt → 0 < n_49.toInt) ∧ (n_49.toInt ≤ 0 → n_11.toInt = 0 ∨ m_behind.toInt < n_13.toInt) ∧ (n_49.toInt ≤ 0 → (0 : Int32).toInt = (g_c 1463).toInt) ∧ ((0 : Int32).toInt < 5) := ⟨(by decide +kernel), (z_rgw hr_n_49 (by decide) (by decide)), hr_n_11, hr_n_12, hr_n_13, hr_n_14, hr_n_15, (by omega), (by omega), (by omega), (by omega), (by omega)⟩
          exact hret _ _ _ _ _ _ (n_49, n_50, n_11, n_12, n_13, n_14, n_15, n_16, g_words) [3, 0, 1, 2] hP hD hS rfl (by decide) dX12_readNew_90 hpost
    · have b_56 := z_feqF c_7
      refine lv_aload_n hx hb dX12_readNew_25 rfl (lv_at hl 1 rfl) ?_
      refine lv_bipush (v := 6) hx hb dX12_readNew_26 (by decide) ?_
      refine lv_aload_n hx hb dX12_readNew_28 rfl (lv_at hl 1 rfl) ?_
      refine va_get (D := G) (ci := 12) (v := .int m_at) (C := RX12) (T := TX12) (N := 65) hx hb hts inT12 hown hK hP 0 rfl rfl 15 (by decide) (hts _ tw_1900) (fun _ h9 => h9) rfl dX12_readNew_29 ?_
      refine z_callVv (As := [.int 6, .int m_at]) (rest := []) (wr := [(a_tape, .inl (cA.1 2, 900, .inl g_tape)), (a_c, .inl (cA.1 0, 1825, .inl g_c)), (a_words, .inl (cA.1 1, 105, .inr (.inl g_words)))]) ⟨hx, hb, hml, hown, hts⟩ hK hE hT hP hD hS hA (r_fail l G cA h0 m_status m_thrown m_above m_under a_traySort a_trayMany a_numbers a_tape m_taped m_textEnd m_faultKind m_faultAt m_bad m_badAt m_token m_at m_behind m_number m_letters m_word a_c a_words m_markMany a_there a_tried a_best a_found m_thereMany m_foundMany m_orderHow m_orderRing m_orderMany m_hasBest m_bestTop m_bestBy a_weights a_shared m_random m_truePlace m_trueWay m_seconds m_done m_feelings m_tries m_leftOver m_playDoor m_playRing m_isOpen m_isOver m_wasTried m_hasPlayed a_feltNow a_last a_kept m_hasSeconds m_hasTurned m_hasRound a_hasFeels a_isOn m_firstAct m_meanTop m_meanBy a_order m_rowMany m_newSteps 6 m_at (by decide +kernel) hr_m_bad) lk_RX12_180 ⟨rfl, rfl⟩ ⟨Nat.le_of_ble_eq_true rfl, Nat.le_of_ble_eq_true rfl⟩ 12 rfl rfl rfl [0] [1, 2, 3] rfl rfl (by decide) rfl hl.1 rfl (lv_room (Nat.le_of_ble_eq_true rfl)) dX12_readNew_32 ⟨Nat.le_of_ble_eq_true rfl, Nat.le_of_ble_eq_true rfl⟩ (fun u_60 H locs hw hP hD hS => ?_)
      obtain ⟨n_57, n_58⟩ := u_60
      try dsimp only at hw
      obtain ⟨hr_n_57, hf_61⟩ := hw
      refine lv_aload_n hx hb dX12_readNew_35 rfl (lv_at hl 1 rfl) ?_
      refine va_get (D := G) (ci := 12) (v := .int n_57) (C := RX12) (T := TX12) (N := 65) hx hb hts inT12 hown hK hP 3 rfl rfl 12 (by decide) (hts _ tw_1897) (fun _ h9 => h9) rfl dX12_readNew_36 ?_
      refine lv_if_le (tgt := 44) hx hb dX12_readNew_39 (by decide) (fun h9 => (z_no (by have h8 := z_fleT h9; omega))) (fun c_62 => ?_)
      have b_63 := z_fgtF c_62
      refine lv_iconst (v := 0) hx hb dX12_readNew_42 (by decide) ?_
      have hpost : (0 ≤ (0 : Int32).toInt ∧ (0 : Int32).toInt ≤ 4) ∧ (0 ≤ n_57.toInt ∧ n_57.toInt ≤ 9) ∧ (0 ≤ m_token.toInt ∧ m_token.toInt ≤ 4) ∧ (0 ≤ m_at.toInt ∧ m_at.toInt ≤ 900) ∧ (0 ≤ m_behind.toInt ∧ m_behind.toInt ≤ 900) ∧ (0 ≤ m_number.toInt ∧ m_number.toInt ≤ 9999) ∧ (0 ≤ m_letters.toInt ∧ m_letters.toInt ≤ 900) ∧ (m_behind.toInt ≤ m_behind.toInt) ∧ (0 < m_bad.toInt → 0 < n_57.toInt) ∧ (n_57.toInt ≤ 0 → m_token.toInt = 0 ∨ m_behind.toInt < m_behind.toInt) ∧ (n_57.toInt ≤ 0 → (0 : Int32).toInt = (g_c 1463).toInt) ∧ ((0 : Int32).toInt < 5) := ⟨(by decide +kernel), (z_rgw hr_n_57 (by decide) (by decide)), hr_m_token, hr_m_at, hr_m_behind, hr_m_number, hr_m_letters, (by omega), (by omega), (by omega), (by omega), (by omega)⟩
      exact hret _ _ _ _ _ _ (n_57, n_58, m_token, m_at, m_behind, m_number, m_letters, m_word, g_words) [3, 0, 1, 2] hP hD hS rfl (by decide) dX12_readNew_43 hpost
set_option maxHeartbeats 4000000 in
set_option maxRecDepth 100000 in
theorem r_readOld_3 (l : Launch) (G : va_G) (cA : zCA) (h0 : Nat) (m_status : Int32) (m_thrown : Int32) (m_above : Int64) (m_under : Int64) (a_traySort : Nat) (a_trayMany : Nat) (a_numbers : Nat) (a_tape : Nat) (m_taped : Int32) (m_textEnd : Int32) (m_faultKind : Int32) (m_faultAt : Int32) (m_bad : Int32) (m_badAt : Int32) (m_token : Int32) (m_at : Int32) (m_behind : Int32) (m_number : Int32) (m_letters : Int32) (m_word : Int64) (a_c : Nat) (a_words : Nat) (m_markMany : Int32) (a_there : Nat) (a_tried : Nat) (a_best : Nat) (a_found : Nat) (m_thereMany : Int32) (m_foundMany : Int32) (m_orderHow : Int32) (m_orderRing : Int32) (m_orderMany : Int32) (m_hasBest : Int32) (m_bestTop : Int64) (m_bestBy : Int64) (a_weights : Nat) (a_shared : Nat) (m_random : Int32) (m_truePlace : Int32) (m_trueWay : Int32) (m_seconds : Int32) (m_done : Int32) (m_feelings : Int32) (m_tries : Int32) (m_leftOver : Int32) (m_playDoor : Int32) (m_playRing : Int32) (m_isOpen : Int32) (m_isOver : Int32) (m_wasTried : Int32) (m_hasPlayed : Int32) (a_feltNow : Nat) (a_last : Nat) (a_kept : Nat) (m_hasSeconds : Int32) (m_hasTurned : Int32) (m_hasRound : Int32) (a_hasFeels : Nat) (a_isOn : Nat) (m_firstAct : Int32) (m_meanTop : Int64) (m_meanBy : Int64) (a_order : Nat) (m_rowMany : Int32) (m_newSteps : Int32) (g_c : Nat → Int32) (g_words : Nat → Int64) (hr_m_at : 0 ≤ m_at.toInt ∧ m_at.toInt ≤ 900) (hr_m_bad : 0 ≤ m_bad.toInt ∧ m_bad.toInt ≤ 9) (hr_m_token : 0 ≤ m_token.toInt ∧ m_token.toInt ≤ 4) (hr_m_letters : 0 ≤ m_letters.toInt ∧ m_letters.toInt ≤ 900) (hC_g_c : zC g_c) : zCi l yX12_readOld cX12_readOld 4 (some .int) ({ frames := 3, cells := 0, slots := 0, locals := 67 }) G cA [.ref h0, .int 3, .int 16] [(h0, .inr (12, [.int m_status, .int m_thrown, .long m_above, .long m_under, .ref a_traySort, .ref a_trayMany, .ref a_numbers, .ref a_tape, .int m_taped, .int m_textEnd, .int m_faultKind, .int m_faultAt, .int m_bad, .int m_badAt, .int m_token, .int m_at, .int m_behind, .int m_number, .int m_letters, .long m_word, .ref a_c, .ref a_words, .int m_markMany, .ref a_there, .ref a_tried, .ref a_best, .ref a_found, .int m_thereMany, .int m_foundMany, .int m_orderHow, .int m_orderRing, .int m_orderMany, .int m_hasBest, .long m_bestTop, .long m_bestBy, .ref a_weights, .ref a_shared, .int m_random, .int m_truePlace, .int m_trueWay, .int m_seconds, .int m_done, .int m_feelings, .int m_tries, .int m_leftOver, .int m_playDoor, .int m_playRing, .int m_isOpen, .int m_isOver, .int m_wasTried, .int m_hasPlayed, .ref a_feltNow, .ref a_last, .ref a_kept, .int m_hasSeconds, .int m_hasTurned, .int m_hasRound, .ref a_hasFeels, .ref a_isOn, .int m_firstAct, .long m_meanTop, .long m_meanBy, .ref a_order, .int m_rowMany, .int m_newSteps])), (a_c, .inl (cA.1 0, 1825, .inl g_c)), (a_words, .inl (cA.1 1, 105, .inr (.inl g_words)))] (S := Int32 × Int32) (fun (r : Int32) (u : Int32 × Int32) => ((-1) ≤ r.toInt ∧ r.toInt ≤ 4) ∧ (0 ≤ u.1.toInt ∧ u.1.toInt ≤ 9) ∧ (m_behind.toInt ≤ m_behind.toInt) ∧ (0 < m_bad.toInt → 0 < u.1.toInt) ∧ (u.1.toInt ≤ 0 → 0 ≤ r.toInt ∧ r.toInt < (g_c 1463).toInt)) (fun (u : Int32 × Int32) => [(h0, .inr (12, [.int m_status, .int m_thrown, .long m_above, .long m_under, .ref a_traySort, .ref a_trayMany, .ref a_numbers, .ref a_tape, .int m_taped, .int m_textEnd, .int m_faultKind, .int m_faultAt, .int u.1, .int u.2, .int m_token, .int m_at, .int m_behind, .int m_number, .int m_letters, .long m_word, .ref a_c, .ref a_words, .int m_markMany, .ref a_there, .ref a_tried, .ref a_best, .ref a_found, .int m_thereMany, .int m_foundMany, .int m_orderHow, .int m_orderRing, .int m_orderMany, .int m_hasBest, .long m_bestTop, .long m_bestBy, .ref a_weights, .ref a_shared, .int m_random, .int m_truePlace, .int m_trueWay, .int m_seconds, .int m_done, .int m_feelings, .int m_tries, .int m_leftOver, .int m_playDoor, .int m_playRing, .int m_isOpen, .int m_isOver, .int m_wasTried, .int m_hasPlayed, .ref a_feltNow, .ref a_last, .ref a_kept, .int m_hasSeconds, .int m_hasTurned, .int m_hasRound, .ref a_hasFeels, .ref a_isOn, .int m_firstAct, .long m_meanTop, .long m_meanBy, .ref a_order, .int m_rowMany, .int m_newSteps])), (a_c, .inl (cA.1 0, 1825, .inl g_c)), (a_words, .inl (cA.1 1, 105, .inr (.inl g_words)))]) 0 0 := by
  have hk_0 : (0 : Int32).toInt = 0 := by decide +kernel
  have hk_3 : (3 : Int32).toInt = 3 := by decide +kernel
  have hk_4 : (4 : Int32).toInt = 4 := by decide +kernel
  have hk_16 : (16 : Int32).toInt = 16 := by decide +kernel
  refine z_start2i (own := RX12) (by decide) (Nat.le_of_ble_eq_true rfl) rfl ?_
  intro p e s m args below meth c A ls Q hx hb hml hts hown hK hE hT hP hD hS hA hl hret
  have hl : lv_has ls 4 [(0, .ref h0), (1, .int 3), (2, .int 16)] := hl
  refine lv_aload_n hx hb dX12_readOld_0 rfl (lv_at hl 0 rfl) ?_
  refine va_get (D := G) (ci := 12) (v := .int m_bad) (C := RX12) (T := TX12) (N := 65) hx hb hts inT12 hown hK hP 0 rfl rfl 12 (by decide) (hts _ tw_1897) (fun _ h9 => h9) rfl dX12_readOld_1 ?_
  refine lv_if_ne (tgt := 18) hx hb dX12_readOld_4 (by decide) (fun c_1 => ?_) (fun c_1 => ?_)
  · have b_2 := z_fneT c_1
    refine lv_aload_n hx hb dX12_readOld_18 rfl (lv_at hl 0 rfl) ?_
    refine va_get (D := G) (ci := 12) (v := .int m_bad) (C := RX12) (T := TX12) (N := 65) hx hb hts inT12 hown hK hP 0 rfl rfl 12 (by decide) (hts _ tw_1897) (fun _ h9 => h9) rfl dX12_readOld_19 ?_
    refine lv_if_ne (tgt := 44) hx hb dX12_readOld_22 (by decide) (fun c_3 => ?_) (fun h9 => (z_no (by have h8 := z_feqF h9; omega)))
    have b_4 := z_fneT c_3
    refine lv_iconst (v := 0) hx hb dX12_readOld_44 (by decide) ?_
    refine lv_istore_n (lv' := [(3, .int 0), (0, .ref h0), (1, .int 3), (2, .int 16)]) hx hb dX12_readOld_45 rfl hl (by decide) rfl (fun ls hl => ?_)
    refine lv_aload_n hx hb dX12_readOld_46 rfl (lv_at hl 1 rfl) ?_
    refine va_get (D := G) (ci := 12) (v := .int m_bad) (C := RX12) (T := TX12) (N := 65) hx hb hts inT12 hown hK hP 0 rfl rfl 12 (by decide) (hts _ tw_1897) (fun _ h9 => h9) rfl dX12_readOld_47 ?_
    refine lv_if_ne (tgt := 66) hx hb dX12_readOld_50 (by decide) (fun c_5 => ?_) (fun h9 => (z_no (by have h8 := z_feqF h9; omega)))
    have b_6 := z_fneT c_5
    refine lv_iload_n hx hb dX12_readOld_66 rfl (lv_at hl 0 rfl) ?_
    have hpost : ((-1) ≤ (0 : Int32).toInt ∧ (0 : Int32).toInt ≤ 4) ∧ (0 ≤ m_bad.toInt ∧ m_bad.toInt ≤ 9) ∧ (m_behind.toInt ≤ m_behind.toInt) ∧ (0 < m_bad.toInt → 0 < m_bad.toInt) ∧ (m_bad.toInt ≤ 0 → 0 ≤ (0 : Int32).toInt ∧ (0 : Int32).toInt < (g_c 1463).toInt) := ⟨(by decide +kernel), hr_m_bad, (by omega), (by omega), (by omega)⟩
    exact hret _ _ _ _ _ _ (m_bad, m_badAt) [0, 1, 2] hP hD hS rfl (by decide) dX12_readOld_67 hpost
  · have b_7 := z_feqF c_1
    refine lv_aload_n hx hb dX12_readOld_7 rfl (lv_at hl 0 rfl) ?_
    refine z_callVi (As := []) (rest := []) (wr := [(a_c, .inl (cA.1 0, 1825, .inl g_c)), (a_words, .inl (cA.1 1, 105, .inr (.inl g_words)))]) ⟨hx, hb, hml, hown, hts⟩ hK hE hT hP hD hS hA (r_isHouseName l G cA h0 m_status m_thrown m_above m_under a_traySort a_trayMany a_numbers a_tape m_taped m_textEnd m_faultKind m_faultAt m_bad m_badAt m_token m_at m_behind m_number m_letters m_word a_c a_words m_markMany a_there a_tried a_best a_found m_thereMany m_foundMany m_orderHow m_orderRing m_orderMany m_hasBest m_bestTop m_bestBy a_weights a_shared m_random m_truePlace m_trueWay m_seconds m_done m_feelings m_tries m_leftOver m_playDoor m_playRing m_isOpen m_isOver m_wasTried m_hasPlayed a_feltNow a_last a_kept m_hasSeconds m_hasTurned m_hasRound a_hasFeels a_isOn m_firstAct m_meanTop m_meanBy a_order m_rowMany m_newSteps hr_m_token hr_m_letters) lk_RX12_200 ⟨rfl, rfl⟩ ⟨Nat.le_of_ble_eq_true rfl, Nat.le_of_ble_eq_true rfl⟩ 12 rfl rfl rfl [0] [1, 2] rfl rfl (by decide) rfl hl.1 rfl (lv_room (Nat.le_of_ble_eq_true rfl)) dX12_readOld_8 ⟨Nat.le_of_ble_eq_true rfl, Nat.le_of_ble_eq_true rfl⟩ (fun r_8 u_9 H locs hw hP hD hS => ?_)
    rcases hw with ⟨rfl, -⟩ | ⟨rfl, -⟩
    · skip
      refine lv_if_ne (tgt := 18) hx hb dX12_readOld_11 (by decide) (fun h9 => absurd (by decide +kernel) h9) (fun _ => ?_)
      refine lv_aload_n hx hb dX12_readOld_14 rfl (lv_at hl 0 rfl) ?_
      refine z_callVv (As := []) (rest := []) (wr := [(a_c, .inl (cA.1 0, 1825, .inl g_c)), (a_words, .inl (cA.1 1, 105, .inr (.inl g_words)))]) ⟨hx, hb, hml, hown, hts⟩ hK hE hT hP hD hS hA (r_wrong l G cA h0 m_status m_thrown m_above m_under a_traySort a_trayMany a_numbers a_tape m_taped m_textEnd m_faultKind m_faultAt m_bad m_badAt m_token m_at m_behind m_number m_letters m_word a_c a_words m_markMany a_there a_tried a_best a_found m_thereMany m_foundMany m_orderHow m_orderRing m_orderMany m_hasBest m_bestTop m_bestBy a_weights a_shared m_random m_truePlace m_trueWay m_seconds m_done m_feelings m_tries m_leftOver m_playDoor m_playRing m_isOpen m_isOver m_wasTried m_hasPlayed a_feltNow a_last a_kept m_hasSeconds m_hasTurned m_hasRound a_hasFeels a_isOn m_firstAct m_meanTop m_meanBy a_order m_rowMany m_newSteps hr_m_at hr_m_bad hr_m_token) lk_RX12_187 ⟨rfl, rfl⟩ ⟨Nat.le_of_ble_eq_true rfl, Nat.le_of_ble_eq_true rfl⟩ 12 rfl rfl rfl [2] [0, 1] rfl rfl (by decide) rfl hl.1 rfl (lv_room (Nat.le_of_ble_eq_true rfl)) dX12_readOld_15 ⟨Nat.le_of_ble_eq_true rfl, Nat.le_of_ble_eq_true rfl⟩ (fun u_13 H locs hw hP hD hS => ?_)
      obtain ⟨n_10, n_11⟩ := u_13
      try dsimp only at hw
      have hr_n_10 := hw
      refine lv_aload_n hx hb dX12_readOld_18 rfl (lv_at hl 0 rfl) ?_
      refine va_get (D := G) (ci := 12) (v := .int n_10) (C := RX12) (T := TX12) (N := 65) hx hb hts inT12 hown hK hP 2 rfl rfl 12 (by decide) (hts _ tw_1897) (fun _ h9 => h9) rfl dX12_readOld_19 ?_
      refine lv_if_ne (tgt := 44) hx hb dX12_readOld_22 (by decide) (fun c_14 => ?_) (fun h9 => (z_no (by have h8 := z_feqF h9; omega)))
      have b_15 := z_fneT c_14
      refine lv_iconst (v := 0) hx hb dX12_readOld_44 (by decide) ?_
      refine lv_istore_n (lv' := [(3, .int 0), (0, .ref h0), (1, .int 3), (2, .int 16)]) hx hb dX12_readOld_45 rfl hl (by decide) rfl (fun ls hl => ?_)
      refine lv_aload_n hx hb dX12_readOld_46 rfl (lv_at hl 1 rfl) ?_
      refine va_get (D := G) (ci := 12) (v := .int n_10) (C := RX12) (T := TX12) (N := 65) hx hb hts inT12 hown hK hP 2 rfl rfl 12 (by decide) (hts _ tw_1897) (fun _ h9 => h9) rfl dX12_readOld_47 ?_
      refine lv_if_ne (tgt := 66) hx hb dX12_readOld_50 (by decide) (fun c_16 => ?_) (fun h9 => (z_no (by have h8 := z_feqF h9; omega)))
      have b_17 := z_fneT c_16
      refine lv_iload_n hx hb dX12_readOld_66 rfl (lv_at hl 0 rfl) ?_
      have hpost : ((-1) ≤ (0 : Int32).toInt ∧ (0 : Int32).toInt ≤ 4) ∧ (0 ≤ n_10.toInt ∧ n_10.toInt ≤ 9) ∧ (m_behind.toInt ≤ m_behind.toInt) ∧ (0 < m_bad.toInt → 0 < n_10.toInt) ∧ (n_10.toInt ≤ 0 → 0 ≤ (0 : Int32).toInt ∧ (0 : Int32).toInt < (g_c 1463).toInt) := ⟨(by decide +kernel), (z_rgw hr_n_10 (by decide) (by decide)), (by omega), (by omega), (by omega)⟩
      exact hret _ _ _ _ _ _ (n_10, n_11) [2, 0, 1] hP hD hS rfl (by decide) dX12_readOld_67 hpost
    · skip
      refine lv_if_ne (tgt := 18) hx hb dX12_readOld_11 (by decide) (fun _ => ?_) (fun h9 => absurd h9 (by decide +kernel))
      refine lv_aload_n hx hb dX12_readOld_18 rfl (lv_at hl 0 rfl) ?_
      refine va_get (D := G) (ci := 12) (v := .int m_bad) (C := RX12) (T := TX12) (N := 65) hx hb hts inT12 hown hK hP 2 rfl rfl 12 (by decide) (hts _ tw_1897) (fun _ h9 => h9) rfl dX12_readOld_19 ?_
      refine lv_if_ne (tgt := 44) hx hb dX12_readOld_22 (by decide) (fun h9 => (z_no (by have h8 := z_fneT h9; omega))) (fun c_18 => ?_)
      have b_19 := z_feqF c_18
      refine lv_aload_n hx hb dX12_readOld_25 rfl (lv_at hl 0 rfl) ?_
      refine lv_iconst (v := 4) hx hb dX12_readOld_26 (by decide) ?_
      refine lv_iload_n hx hb dX12_readOld_27 rfl (lv_at hl 2 rfl) ?_
      refine lv_aload_n hx hb dX12_readOld_28 rfl (lv_at hl 0 rfl) ?_
      refine va_get (D := G) (ci := 12) (v := .ref a_c) (C := RX12) (T := TX12) (N := 65) hx hb hts inT12 hown hK hP 2 rfl rfl 20 (by decide) (hts _ tw_1905) (fun _ h9 => h9) rfl dX12_readOld_29 ?_
      refine lv_sipush (v := 1460) hx hb dX12_readOld_32 (by decide) ?_
      refine lv_iload_n hx hb dX12_readOld_35 rfl (lv_at hl 1 rfl) ?_
      refine lv_iadd hx hb dX12_readOld_36 ?_
      refine z_topi (y := 1463) (by decide +kernel) ?_
      refine va_iald hx hb hK hP 0 0 rfl rfl (z_in (i := 1463) (n := 1825) (by decide +kernel) (by decide +kernel)) dX12_readOld_37 ?_
      refine lv_topi (fun x_20 he_x_20 => ?_)
      have hr_x_20 := z_ctk hC_g_c he_x_20 (k := 1463) (lo := 0) (hi := 5) (by decide +kernel) (by decide +kernel) (by decide +kernel)
      have hv_x_20 := z_cv he_x_20 (k := 1463) (by decide +kernel)
      refine z_callVi (As := [.int 4, .int 16, .int x_20]) (rest := []) (wr := [(a_c, .inl (cA.1 0, 1825, .inl g_c))]) ⟨hx, hb, hml, hown, hts⟩ hK hE hT hP hD hS hA (r_named_4_16 l G cA h0 m_status m_thrown m_above m_under a_traySort a_trayMany a_numbers a_tape m_taped m_textEnd m_faultKind m_faultAt m_bad m_badAt m_token m_at m_behind m_number m_letters m_word a_c a_words m_markMany a_there a_tried a_best a_found m_thereMany m_foundMany m_orderHow m_orderRing m_orderMany m_hasBest m_bestTop m_bestBy a_weights a_shared m_random m_truePlace m_trueWay m_seconds m_done m_feelings m_tries m_leftOver m_playDoor m_playRing m_isOpen m_isOver m_wasTried m_hasPlayed a_feltNow a_last a_kept m_hasSeconds m_hasTurned m_hasRound a_hasFeels a_isOn m_firstAct m_meanTop m_meanBy a_order m_rowMany m_newSteps g_words x_20 hr_x_20) lk_RX12_196 ⟨rfl, rfl⟩ ⟨Nat.le_of_ble_eq_true rfl, Nat.le_of_ble_eq_true rfl⟩ 12 rfl rfl rfl [2, 1] [0] rfl rfl (by decide) rfl hl.1 rfl (lv_room (Nat.le_of_ble_eq_true rfl)) dX12_readOld_38 ⟨Nat.le_of_ble_eq_true rfl, Nat.le_of_ble_eq_true rfl⟩ (fun r_21 u_22 H locs hw hP hD hS => ?_)
      obtain ⟨hr_r_21, hf_23⟩ := hw
      refine lv_goto (tgt := 45) hx hb dX12_readOld_41 (by decide) ?_
      refine lv_istore_n (lv' := [(3, .int r_21), (0, .ref h0), (1, .int 3), (2, .int 16)]) hx hb dX12_readOld_45 rfl hl (by decide) rfl (fun ls hl => ?_)
      refine lv_aload_n hx hb dX12_readOld_46 rfl (lv_at hl 1 rfl) ?_
      refine va_get (D := G) (ci := 12) (v := .int m_bad) (C := RX12) (T := TX12) (N := 65) hx hb hts inT12 hown hK hP 1 rfl rfl 12 (by decide) (hts _ tw_1897) (fun _ h9 => h9) rfl dX12_readOld_47 ?_
      refine lv_if_ne (tgt := 66) hx hb dX12_readOld_50 (by decide) (fun h9 => (z_no (by have h8 := z_fneT h9; omega))) (fun c_24 => ?_)
      have b_25 := z_feqF c_24
      refine lv_iload_n hx hb dX12_readOld_53 rfl (lv_at hl 0 rfl) ?_
      refine lv_if_ge (tgt := 66) hx hb dX12_readOld_54 (by decide) (fun c_26 => ?_) (fun c_26 => ?_)
      · have b_27 := z_fgeT c_26
        refine lv_iload_n hx hb dX12_readOld_66 rfl (lv_at hl 0 rfl) ?_
        have hpost : ((-1) ≤ r_21.toInt ∧ r_21.toInt ≤ 4) ∧ (0 ≤ m_bad.toInt ∧ m_bad.toInt ≤ 9) ∧ (m_behind.toInt ≤ m_behind.toInt) ∧ (0 < m_bad.toInt → 0 < m_bad.toInt) ∧ (m_bad.toInt ≤ 0 → 0 ≤ r_21.toInt ∧ r_21.toInt < (g_c 1463).toInt) := ⟨hr_r_21, hr_m_bad, (by omega), (by omega), (by omega)⟩
        exact hret _ _ _ _ _ _ (m_bad, m_badAt) [1, 0, 2] hP hD hS rfl (by decide) dX12_readOld_67 hpost
      · have b_28 := z_fltF c_26
        refine lv_aload_n hx hb dX12_readOld_57 rfl (lv_at hl 1 rfl) ?_
        refine lv_iconst (v := 3) hx hb dX12_readOld_58 (by decide) ?_
        refine lv_aload_n hx hb dX12_readOld_59 rfl (lv_at hl 1 rfl) ?_
        refine va_get (D := G) (ci := 12) (v := .int m_at) (C := RX12) (T := TX12) (N := 65) hx hb hts inT12 hown hK hP 1 rfl rfl 15 (by decide) (hts _ tw_1900) (fun _ h9 => h9) rfl dX12_readOld_60 ?_
        refine z_callVv (As := [.int 3, .int m_at]) (rest := []) (wr := [(a_c, .inl (cA.1 0, 1825, .inl g_c)), (a_words, .inl (cA.1 1, 105, .inr (.inl g_words)))]) ⟨hx, hb, hml, hown, hts⟩ hK hE hT hP hD hS hA (r_fail l G cA h0 m_status m_thrown m_above m_under a_traySort a_trayMany a_numbers a_tape m_taped m_textEnd m_faultKind m_faultAt m_bad m_badAt m_token m_at m_behind m_number m_letters m_word a_c a_words m_markMany a_there a_tried a_best a_found m_thereMany m_foundMany m_orderHow m_orderRing m_orderMany m_hasBest m_bestTop m_bestBy a_weights a_shared m_random m_truePlace m_trueWay m_seconds m_done m_feelings m_tries m_leftOver m_playDoor m_playRing m_isOpen m_isOver m_wasTried m_hasPlayed a_feltNow a_last a_kept m_hasSeconds m_hasTurned m_hasRound a_hasFeels a_isOn m_firstAct m_meanTop m_meanBy a_order m_rowMany m_newSteps 3 m_at (by decide +kernel) hr_m_bad) lk_RX12_180 ⟨rfl, rfl⟩ ⟨Nat.le_of_ble_eq_true rfl, Nat.le_of_ble_eq_true rfl⟩ 12 rfl rfl rfl [1] [0, 2] rfl rfl (by decide) rfl hl.1 rfl (lv_room (Nat.le_of_ble_eq_true rfl)) dX12_readOld_63 ⟨Nat.le_of_ble_eq_true rfl, Nat.le_of_ble_eq_true rfl⟩ (fun u_32 H locs hw hP hD hS => ?_)
        obtain ⟨n_29, n_30⟩ := u_32
        try dsimp only at hw
        obtain ⟨hr_n_29, hf_33⟩ := hw
        refine lv_iload_n hx hb dX12_readOld_66 rfl (lv_at hl 0 rfl) ?_
        have hpost : ((-1) ≤ r_21.toInt ∧ r_21.toInt ≤ 4) ∧ (0 ≤ n_29.toInt ∧ n_29.toInt ≤ 9) ∧ (m_behind.toInt ≤ m_behind.toInt) ∧ (0 < m_bad.toInt → 0 < n_29.toInt) ∧ (n_29.toInt ≤ 0 → 0 ≤ r_21.toInt ∧ r_21.toInt < (g_c 1463).toInt) := ⟨hr_r_21, (z_rgw hr_n_29 (by decide) (by decide)), (by omega), (by omega), (by omega)⟩
        exact hret _ _ _ _ _ _ (n_29, n_30) [2, 0, 1] hP hD hS rfl (by decide) dX12_readOld_67 hpost
set_option maxHeartbeats 4000000 in
set_option maxRecDepth 100000 in
theorem r_isFeature (l : Launch) (G : va_G) (cA : zCA) (h0 : Nat) (m_status : Int32) (m_thrown : Int32) (m_above : Int64) (m_under : Int64) (a_traySort : Nat) (a_trayMany : Nat) (a_numbers : Nat) (a_tape : Nat) (m_taped : Int32) (m_textEnd : Int32) (m_faultKind : Int32) (m_faultAt : Int32) (m_bad : Int32) (m_badAt : Int32) (m_token : Int32) (m_at : Int32) (m_behind : Int32) (m_number : Int32) (m_letters : Int32) (m_word : Int64) (a_c : Nat) (a_words : Nat) (m_markMany : Int32) (a_there : Nat) (a_tried : Nat) (a_best : Nat) (a_found : Nat) (m_thereMany : Int32) (m_foundMany : Int32) (m_orderHow : Int32) (m_orderRing : Int32) (m_orderMany : Int32) (m_hasBest : Int32) (m_bestTop : Int64) (m_bestBy : Int64) (a_weights : Nat) (a_shared : Nat) (m_random : Int32) (m_truePlace : Int32) (m_trueWay : Int32) (m_seconds : Int32) (m_done : Int32) (m_feelings : Int32) (m_tries : Int32) (m_leftOver : Int32) (m_playDoor : Int32) (m_playRing : Int32) (m_isOpen : Int32) (m_isOver : Int32) (m_wasTried : Int32) (m_hasPlayed : Int32) (a_feltNow : Nat) (a_last : Nat) (a_kept : Nat) (m_hasSeconds : Int32) (m_hasTurned : Int32) (m_hasRound : Int32) (a_hasFeels : Nat) (a_isOn : Nat) (m_firstAct : Int32) (m_meanTop : Int64) (m_meanBy : Int64) (a_order : Nat) (m_rowMany : Int32) (m_newSteps : Int32) (g_c : Nat → Int32) (k : Int32) (hC_g_c : zC g_c) : zCi l yX12_isFeature cX12_isFeature 2 (some .boolean) ({ frames := 1, cells := 0, slots := 0, locals := 25 }) G cA [.ref h0, .int k] [(h0, .inr (12, [.int m_status, .int m_thrown, .long m_above, .long m_under, .ref a_traySort, .ref a_trayMany, .ref a_numbers, .ref a_tape, .int m_taped, .int m_textEnd, .int m_faultKind, .int m_faultAt, .int m_bad, .int m_badAt, .int m_token, .int m_at, .int m_behind, .int m_number, .int m_letters, .long m_word, .ref a_c, .ref a_words, .int m_markMany, .ref a_there, .ref a_tried, .ref a_best, .ref a_found, .int m_thereMany, .int m_foundMany, .int m_orderHow, .int m_orderRing, .int m_orderMany, .int m_hasBest, .long m_bestTop, .long m_bestBy, .ref a_weights, .ref a_shared, .int m_random, .int m_truePlace, .int m_trueWay, .int m_seconds, .int m_done, .int m_feelings, .int m_tries, .int m_leftOver, .int m_playDoor, .int m_playRing, .int m_isOpen, .int m_isOver, .int m_wasTried, .int m_hasPlayed, .ref a_feltNow, .ref a_last, .ref a_kept, .int m_hasSeconds, .int m_hasTurned, .int m_hasRound, .ref a_hasFeels, .ref a_isOn, .int m_firstAct, .long m_meanTop, .long m_meanBy, .ref a_order, .int m_rowMany, .int m_newSteps])), (a_c, .inl (cA.1 0, 1825, .inl g_c))] (S := Unit) (fun (r : Int32) (u : Unit) => (r = 0 ∧ True) ∨ (r = 1 ∧ (0 ≤ k.toInt ∧ k.toInt < (g_c 0).toInt) ∧ (k.toInt ≤ 2))) (fun (u : Unit) => [(h0, .inr (12, [.int m_status, .int m_thrown, .long m_above, .long m_under, .ref a_traySort, .ref a_trayMany, .ref a_numbers, .ref a_tape, .int m_taped, .int m_textEnd, .int m_faultKind, .int m_faultAt, .int m_bad, .int m_badAt, .int m_token, .int m_at, .int m_behind, .int m_number, .int m_letters, .long m_word, .ref a_c, .ref a_words, .int m_markMany, .ref a_there, .ref a_tried, .ref a_best, .ref a_found, .int m_thereMany, .int m_foundMany, .int m_orderHow, .int m_orderRing, .int m_orderMany, .int m_hasBest, .long m_bestTop, .long m_bestBy, .ref a_weights, .ref a_shared, .int m_random, .int m_truePlace, .int m_trueWay, .int m_seconds, .int m_done, .int m_feelings, .int m_tries, .int m_leftOver, .int m_playDoor, .int m_playRing, .int m_isOpen, .int m_isOver, .int m_wasTried, .int m_hasPlayed, .ref a_feltNow, .ref a_last, .ref a_kept, .int m_hasSeconds, .int m_hasTurned, .int m_hasRound, .ref a_hasFeels, .ref a_isOn, .int m_firstAct, .long m_meanTop, .long m_meanBy, .ref a_order, .int m_rowMany, .int m_newSteps])), (a_c, .inl (cA.1 0, 1825, .inl g_c))]) 0 0 := by
  have hk_1 : (1 : Int32).toInt = 1 := by decide +kernel
  have hkl_0 : (0 : Int64).toInt = 0 := by decide +kernel
  refine z_start2z (own := RX12) (by decide) (Nat.le_of_ble_eq_true rfl) rfl ?_
  intro p e s m args below meth c A ls Q hx hb hml hts hown hK hE hT hP hD hS hA hl hret
  have hl : lv_has ls 2 [(0, .ref h0), (1, .int k)] := hl
  refine lv_iload_n hx hb dX12_isFeature_0 rfl (lv_at hl 1 rfl) ?_
  refine lv_i2l (v := (k).toInt64) hx hb dX12_isFeature_1 rfl ?_
  refine lv_topl (fun x_1 he_x_1 => ?_)
  have hq_x_1 := z_i2l he_x_1
  have hL_k := z_full k
  refine lv_lconst (v := 0) hx hb dX12_isFeature_2 (by decide) ?_
  refine lv_aload_n hx hb dX12_isFeature_3 rfl (lv_at hl 0 rfl) ?_
  refine va_get (D := G) (ci := 12) (v := .ref a_c) (C := RX12) (T := TX12) (N := 65) hx hb hts inT12 hown hK hP 0 rfl rfl 20 (by decide) (hts _ tw_1905) (fun _ h9 => h9) rfl dX12_isFeature_4 ?_
  refine lv_iconst (v := 0) hx hb dX12_isFeature_7 (by decide) ?_
  refine va_iald hx hb hK hP 1 0 rfl rfl (z_in (i := 0) (n := 1825) (by decide +kernel) (by decide +kernel)) dX12_isFeature_8 ?_
  refine lv_topi (fun x_2 he_x_2 => ?_)
  have hr_x_2 := z_ctk hC_g_c he_x_2 (k := 0) (lo := 0) (hi := 3) (by decide +kernel) (by decide +kernel) (by decide +kernel)
  have hv_x_2 := z_cv he_x_2 (k := 0) (by decide +kernel)
  refine lv_iconst (v := 1) hx hb dX12_isFeature_9 (by decide) ?_
  refine lv_isub hx hb dX12_isFeature_10 ?_
  refine lv_topi (fun x_3 he_x_3 => ?_)
  have hq_x_3 := z_subq he_x_3 (rfl : x_2.toInt = _) hk_1 (by omega) (by omega)
  refine lv_i2l (v := (x_3).toInt64) hx hb dX12_isFeature_11 rfl ?_
  refine lv_topl (fun x_4 he_x_4 => ?_)
  have hq_x_4 := z_i2l he_x_4
  refine z_callSi (As := [.long x_1, .long 0, .long x_4]) (rest := []) (wr := [(h0, .inr (12, [.int m_status, .int m_thrown, .long m_above, .long m_under, .ref a_traySort, .ref a_trayMany, .ref a_numbers, .ref a_tape, .int m_taped, .int m_textEnd, .int m_faultKind, .int m_faultAt, .int m_bad, .int m_badAt, .int m_token, .int m_at, .int m_behind, .int m_number, .int m_letters, .long m_word, .ref a_c, .ref a_words, .int m_markMany, .ref a_there, .ref a_tried, .ref a_best, .ref a_found, .int m_thereMany, .int m_foundMany, .int m_orderHow, .int m_orderRing, .int m_orderMany, .int m_hasBest, .long m_bestTop, .long m_bestBy, .ref a_weights, .ref a_shared, .int m_random, .int m_truePlace, .int m_trueWay, .int m_seconds, .int m_done, .int m_feelings, .int m_tries, .int m_leftOver, .int m_playDoor, .int m_playRing, .int m_isOpen, .int m_isOver, .int m_wasTried, .int m_hasPlayed, .ref a_feltNow, .ref a_last, .ref a_kept, .int m_hasSeconds, .int m_hasTurned, .int m_hasRound, .ref a_hasFeels, .ref a_isOn, .int m_firstAct, .long m_meanTop, .long m_meanBy, .ref a_order, .int m_rowMany, .int m_newSteps])), (a_c, .inl (cA.1 0, 1825, .inl g_c))]) ⟨hx, hb, hml, hown, hts⟩ hK hE hT hP hD hS hA (r_isIn l G cA x_1 0 x_4) lk_RX12_117 ⟨rfl, rfl⟩ ⟨Nat.le_of_ble_eq_true rfl, Nat.le_of_ble_eq_true rfl⟩ [] [0, 1] rfl rfl (by decide) rfl hl.1 rfl (lv_room (Nat.le_of_ble_eq_true rfl)) dX12_isFeature_12 ⟨Nat.le_of_ble_eq_true rfl, Nat.le_of_ble_eq_true rfl⟩ (fun r_5 u_6 H locs hw hP hD hS => ?_)
  rcases hw with ⟨rfl, hf_7⟩ | ⟨rfl, hf_8⟩
  · skip
    have hpost : ((0 : Int32) = 0 ∧ True) ∨ ((0 : Int32) = 1 ∧ (0 ≤ k.toInt ∧ k.toInt < (g_c 0).toInt) ∧ (k.toInt ≤ 2)) := (Or.inl ⟨rfl, trivial⟩)
    exact hret _ _ _ _ _ _ () [0, 1] hP hD hS rfl (by decide) dX12_isFeature_15 (Or.inl rfl) hpost
  · skip
    have hpost : ((1 : Int32) = 0 ∧ True) ∨ ((1 : Int32) = 1 ∧ (0 ≤ k.toInt ∧ k.toInt < (g_c 0).toInt) ∧ (k.toInt ≤ 2)) := (Or.inr ⟨rfl, ⟨(by omega), (by omega)⟩⟩)
    exact hret _ _ _ _ _ _ () [0, 1] hP hD hS rfl (by decide) dX12_isFeature_15 (Or.inr rfl) hpost
set_option maxHeartbeats 4000000 in
set_option maxRecDepth 100000 in
theorem r_isRing (l : Launch) (G : va_G) (cA : zCA) (h0 : Nat) (m_status : Int32) (m_thrown : Int32) (m_above : Int64) (m_under : Int64) (a_traySort : Nat) (a_trayMany : Nat) (a_numbers : Nat) (a_tape : Nat) (m_taped : Int32) (m_textEnd : Int32) (m_faultKind : Int32) (m_faultAt : Int32) (m_bad : Int32) (m_badAt : Int32) (m_token : Int32) (m_at : Int32) (m_behind : Int32) (m_number : Int32) (m_letters : Int32) (m_word : Int64) (a_c : Nat) (a_words : Nat) (m_markMany : Int32) (a_there : Nat) (a_tried : Nat) (a_best : Nat) (a_found : Nat) (m_thereMany : Int32) (m_foundMany : Int32) (m_orderHow : Int32) (m_orderRing : Int32) (m_orderMany : Int32) (m_hasBest : Int32) (m_bestTop : Int64) (m_bestBy : Int64) (a_weights : Nat) (a_shared : Nat) (m_random : Int32) (m_truePlace : Int32) (m_trueWay : Int32) (m_seconds : Int32) (m_done : Int32) (m_feelings : Int32) (m_tries : Int32) (m_leftOver : Int32) (m_playDoor : Int32) (m_playRing : Int32) (m_isOpen : Int32) (m_isOver : Int32) (m_wasTried : Int32) (m_hasPlayed : Int32) (a_feltNow : Nat) (a_last : Nat) (a_kept : Nat) (m_hasSeconds : Int32) (m_hasTurned : Int32) (m_hasRound : Int32) (a_hasFeels : Nat) (a_isOn : Nat) (m_firstAct : Int32) (m_meanTop : Int64) (m_meanBy : Int64) (a_order : Nat) (m_rowMany : Int32) (m_newSteps : Int32) (g_c : Nat → Int32) (k : Int32) (hC_g_c : zC g_c) : zCi l yX12_isRing cX12_isRing 2 (some .boolean) ({ frames := 1, cells := 0, slots := 0, locals := 25 }) G cA [.ref h0, .int k] [(h0, .inr (12, [.int m_status, .int m_thrown, .long m_above, .long m_under, .ref a_traySort, .ref a_trayMany, .ref a_numbers, .ref a_tape, .int m_taped, .int m_textEnd, .int m_faultKind, .int m_faultAt, .int m_bad, .int m_badAt, .int m_token, .int m_at, .int m_behind, .int m_number, .int m_letters, .long m_word, .ref a_c, .ref a_words, .int m_markMany, .ref a_there, .ref a_tried, .ref a_best, .ref a_found, .int m_thereMany, .int m_foundMany, .int m_orderHow, .int m_orderRing, .int m_orderMany, .int m_hasBest, .long m_bestTop, .long m_bestBy, .ref a_weights, .ref a_shared, .int m_random, .int m_truePlace, .int m_trueWay, .int m_seconds, .int m_done, .int m_feelings, .int m_tries, .int m_leftOver, .int m_playDoor, .int m_playRing, .int m_isOpen, .int m_isOver, .int m_wasTried, .int m_hasPlayed, .ref a_feltNow, .ref a_last, .ref a_kept, .int m_hasSeconds, .int m_hasTurned, .int m_hasRound, .ref a_hasFeels, .ref a_isOn, .int m_firstAct, .long m_meanTop, .long m_meanBy, .ref a_order, .int m_rowMany, .int m_newSteps])), (a_c, .inl (cA.1 0, 1825, .inl g_c))] (S := Unit) (fun (r : Int32) (u : Unit) => (r = 0 ∧ True) ∨ (r = 1 ∧ (0 ≤ k.toInt ∧ k.toInt < (g_c 2).toInt) ∧ (k.toInt ≤ 2))) (fun (u : Unit) => [(h0, .inr (12, [.int m_status, .int m_thrown, .long m_above, .long m_under, .ref a_traySort, .ref a_trayMany, .ref a_numbers, .ref a_tape, .int m_taped, .int m_textEnd, .int m_faultKind, .int m_faultAt, .int m_bad, .int m_badAt, .int m_token, .int m_at, .int m_behind, .int m_number, .int m_letters, .long m_word, .ref a_c, .ref a_words, .int m_markMany, .ref a_there, .ref a_tried, .ref a_best, .ref a_found, .int m_thereMany, .int m_foundMany, .int m_orderHow, .int m_orderRing, .int m_orderMany, .int m_hasBest, .long m_bestTop, .long m_bestBy, .ref a_weights, .ref a_shared, .int m_random, .int m_truePlace, .int m_trueWay, .int m_seconds, .int m_done, .int m_feelings, .int m_tries, .int m_leftOver, .int m_playDoor, .int m_playRing, .int m_isOpen, .int m_isOver, .int m_wasTried, .int m_hasPlayed, .ref a_feltNow, .ref a_last, .ref a_kept, .int m_hasSeconds, .int m_hasTurned, .int m_hasRound, .ref a_hasFeels, .ref a_isOn, .int m_firstAct, .long m_meanTop, .long m_meanBy, .ref a_order, .int m_rowMany, .int m_newSteps])), (a_c, .inl (cA.1 0, 1825, .inl g_c))]) 0 0 := by
  have hk_1 : (1 : Int32).toInt = 1 := by decide +kernel
  have hkl_0 : (0 : Int64).toInt = 0 := by decide +kernel
  refine z_start2z (own := RX12) (by decide) (Nat.le_of_ble_eq_true rfl) rfl ?_
  intro p e s m args below meth c A ls Q hx hb hml hts hown hK hE hT hP hD hS hA hl hret
  have hl : lv_has ls 2 [(0, .ref h0), (1, .int k)] := hl
  refine lv_iload_n hx hb dX12_isRing_0 rfl (lv_at hl 1 rfl) ?_
  refine lv_i2l (v := (k).toInt64) hx hb dX12_isRing_1 rfl ?_
  refine lv_topl (fun x_1 he_x_1 => ?_)
  have hq_x_1 := z_i2l he_x_1
  have hL_k := z_full k
  refine lv_lconst (v := 0) hx hb dX12_isRing_2 (by decide) ?_
  refine lv_aload_n hx hb dX12_isRing_3 rfl (lv_at hl 0 rfl) ?_
  refine va_get (D := G) (ci := 12) (v := .ref a_c) (C := RX12) (T := TX12) (N := 65) hx hb hts inT12 hown hK hP 0 rfl rfl 20 (by decide) (hts _ tw_1905) (fun _ h9 => h9) rfl dX12_isRing_4 ?_
  refine lv_iconst (v := 2) hx hb dX12_isRing_7 (by decide) ?_
  refine va_iald hx hb hK hP 1 0 rfl rfl (z_in (i := 2) (n := 1825) (by decide +kernel) (by decide +kernel)) dX12_isRing_8 ?_
  refine lv_topi (fun x_2 he_x_2 => ?_)
  have hr_x_2 := z_ctk hC_g_c he_x_2 (k := 2) (lo := 0) (hi := 3) (by decide +kernel) (by decide +kernel) (by decide +kernel)
  have hv_x_2 := z_cv he_x_2 (k := 2) (by decide +kernel)
  refine lv_iconst (v := 1) hx hb dX12_isRing_9 (by decide) ?_
  refine lv_isub hx hb dX12_isRing_10 ?_
  refine lv_topi (fun x_3 he_x_3 => ?_)
  have hq_x_3 := z_subq he_x_3 (rfl : x_2.toInt = _) hk_1 (by omega) (by omega)
  refine lv_i2l (v := (x_3).toInt64) hx hb dX12_isRing_11 rfl ?_
  refine lv_topl (fun x_4 he_x_4 => ?_)
  have hq_x_4 := z_i2l he_x_4
  refine z_callSi (As := [.long x_1, .long 0, .long x_4]) (rest := []) (wr := [(h0, .inr (12, [.int m_status, .int m_thrown, .long m_above, .long m_under, .ref a_traySort, .ref a_trayMany, .ref a_numbers, .ref a_tape, .int m_taped, .int m_textEnd, .int m_faultKind, .int m_faultAt, .int m_bad, .int m_badAt, .int m_token, .int m_at, .int m_behind, .int m_number, .int m_letters, .long m_word, .ref a_c, .ref a_words, .int m_markMany, .ref a_there, .ref a_tried, .ref a_best, .ref a_found, .int m_thereMany, .int m_foundMany, .int m_orderHow, .int m_orderRing, .int m_orderMany, .int m_hasBest, .long m_bestTop, .long m_bestBy, .ref a_weights, .ref a_shared, .int m_random, .int m_truePlace, .int m_trueWay, .int m_seconds, .int m_done, .int m_feelings, .int m_tries, .int m_leftOver, .int m_playDoor, .int m_playRing, .int m_isOpen, .int m_isOver, .int m_wasTried, .int m_hasPlayed, .ref a_feltNow, .ref a_last, .ref a_kept, .int m_hasSeconds, .int m_hasTurned, .int m_hasRound, .ref a_hasFeels, .ref a_isOn, .int m_firstAct, .long m_meanTop, .long m_meanBy, .ref a_order, .int m_rowMany, .int m_newSteps])), (a_c, .inl (cA.1 0, 1825, .inl g_c))]) ⟨hx, hb, hml, hown, hts⟩ hK hE hT hP hD hS hA (r_isIn l G cA x_1 0 x_4) lk_RX12_117 ⟨rfl, rfl⟩ ⟨Nat.le_of_ble_eq_true rfl, Nat.le_of_ble_eq_true rfl⟩ [] [0, 1] rfl rfl (by decide) rfl hl.1 rfl (lv_room (Nat.le_of_ble_eq_true rfl)) dX12_isRing_12 ⟨Nat.le_of_ble_eq_true rfl, Nat.le_of_ble_eq_true rfl⟩ (fun r_5 u_6 H locs hw hP hD hS => ?_)
  rcases hw with ⟨rfl, hf_7⟩ | ⟨rfl, hf_8⟩
  · skip
    have hpost : ((0 : Int32) = 0 ∧ True) ∨ ((0 : Int32) = 1 ∧ (0 ≤ k.toInt ∧ k.toInt < (g_c 2).toInt) ∧ (k.toInt ≤ 2)) := (Or.inl ⟨rfl, trivial⟩)
    exact hret _ _ _ _ _ _ () [0, 1] hP hD hS rfl (by decide) dX12_isRing_15 (Or.inl rfl) hpost
  · skip
    have hpost : ((1 : Int32) = 0 ∧ True) ∨ ((1 : Int32) = 1 ∧ (0 ≤ k.toInt ∧ k.toInt < (g_c 2).toInt) ∧ (k.toInt ≤ 2)) := (Or.inr ⟨rfl, ⟨(by omega), (by omega)⟩⟩)
    exact hret _ _ _ _ _ _ () [0, 1] hP hD hS rfl (by decide) dX12_isRing_15 (Or.inr rfl) hpost
set_option maxHeartbeats 4000000 in
set_option maxRecDepth 100000 in
theorem r_isDoor (l : Launch) (G : va_G) (cA : zCA) (h0 : Nat) (m_status : Int32) (m_thrown : Int32) (m_above : Int64) (m_under : Int64) (a_traySort : Nat) (a_trayMany : Nat) (a_numbers : Nat) (a_tape : Nat) (m_taped : Int32) (m_textEnd : Int32) (m_faultKind : Int32) (m_faultAt : Int32) (m_bad : Int32) (m_badAt : Int32) (m_token : Int32) (m_at : Int32) (m_behind : Int32) (m_number : Int32) (m_letters : Int32) (m_word : Int64) (a_c : Nat) (a_words : Nat) (m_markMany : Int32) (a_there : Nat) (a_tried : Nat) (a_best : Nat) (a_found : Nat) (m_thereMany : Int32) (m_foundMany : Int32) (m_orderHow : Int32) (m_orderRing : Int32) (m_orderMany : Int32) (m_hasBest : Int32) (m_bestTop : Int64) (m_bestBy : Int64) (a_weights : Nat) (a_shared : Nat) (m_random : Int32) (m_truePlace : Int32) (m_trueWay : Int32) (m_seconds : Int32) (m_done : Int32) (m_feelings : Int32) (m_tries : Int32) (m_leftOver : Int32) (m_playDoor : Int32) (m_playRing : Int32) (m_isOpen : Int32) (m_isOver : Int32) (m_wasTried : Int32) (m_hasPlayed : Int32) (a_feltNow : Nat) (a_last : Nat) (a_kept : Nat) (m_hasSeconds : Int32) (m_hasTurned : Int32) (m_hasRound : Int32) (a_hasFeels : Nat) (a_isOn : Nat) (m_firstAct : Int32) (m_meanTop : Int64) (m_meanBy : Int64) (a_order : Nat) (m_rowMany : Int32) (m_newSteps : Int32) (g_c : Nat → Int32) (k : Int32) (hC_g_c : zC g_c) : zCi l yX12_isDoor cX12_isDoor 2 (some .boolean) ({ frames := 1, cells := 0, slots := 0, locals := 25 }) G cA [.ref h0, .int k] [(h0, .inr (12, [.int m_status, .int m_thrown, .long m_above, .long m_under, .ref a_traySort, .ref a_trayMany, .ref a_numbers, .ref a_tape, .int m_taped, .int m_textEnd, .int m_faultKind, .int m_faultAt, .int m_bad, .int m_badAt, .int m_token, .int m_at, .int m_behind, .int m_number, .int m_letters, .long m_word, .ref a_c, .ref a_words, .int m_markMany, .ref a_there, .ref a_tried, .ref a_best, .ref a_found, .int m_thereMany, .int m_foundMany, .int m_orderHow, .int m_orderRing, .int m_orderMany, .int m_hasBest, .long m_bestTop, .long m_bestBy, .ref a_weights, .ref a_shared, .int m_random, .int m_truePlace, .int m_trueWay, .int m_seconds, .int m_done, .int m_feelings, .int m_tries, .int m_leftOver, .int m_playDoor, .int m_playRing, .int m_isOpen, .int m_isOver, .int m_wasTried, .int m_hasPlayed, .ref a_feltNow, .ref a_last, .ref a_kept, .int m_hasSeconds, .int m_hasTurned, .int m_hasRound, .ref a_hasFeels, .ref a_isOn, .int m_firstAct, .long m_meanTop, .long m_meanBy, .ref a_order, .int m_rowMany, .int m_newSteps])), (a_c, .inl (cA.1 0, 1825, .inl g_c))] (S := Unit) (fun (r : Int32) (u : Unit) => (r = 0 ∧ True) ∨ (r = 1 ∧ (0 ≤ k.toInt ∧ k.toInt < (g_c 3).toInt) ∧ (k.toInt ≤ 4))) (fun (u : Unit) => [(h0, .inr (12, [.int m_status, .int m_thrown, .long m_above, .long m_under, .ref a_traySort, .ref a_trayMany, .ref a_numbers, .ref a_tape, .int m_taped, .int m_textEnd, .int m_faultKind, .int m_faultAt, .int m_bad, .int m_badAt, .int m_token, .int m_at, .int m_behind, .int m_number, .int m_letters, .long m_word, .ref a_c, .ref a_words, .int m_markMany, .ref a_there, .ref a_tried, .ref a_best, .ref a_found, .int m_thereMany, .int m_foundMany, .int m_orderHow, .int m_orderRing, .int m_orderMany, .int m_hasBest, .long m_bestTop, .long m_bestBy, .ref a_weights, .ref a_shared, .int m_random, .int m_truePlace, .int m_trueWay, .int m_seconds, .int m_done, .int m_feelings, .int m_tries, .int m_leftOver, .int m_playDoor, .int m_playRing, .int m_isOpen, .int m_isOver, .int m_wasTried, .int m_hasPlayed, .ref a_feltNow, .ref a_last, .ref a_kept, .int m_hasSeconds, .int m_hasTurned, .int m_hasRound, .ref a_hasFeels, .ref a_isOn, .int m_firstAct, .long m_meanTop, .long m_meanBy, .ref a_order, .int m_rowMany, .int m_newSteps])), (a_c, .inl (cA.1 0, 1825, .inl g_c))]) 0 0 := by
  have hk_1 : (1 : Int32).toInt = 1 := by decide +kernel
  have hkl_0 : (0 : Int64).toInt = 0 := by decide +kernel
  refine z_start2z (own := RX12) (by decide) (Nat.le_of_ble_eq_true rfl) rfl ?_
  intro p e s m args below meth c A ls Q hx hb hml hts hown hK hE hT hP hD hS hA hl hret
  have hl : lv_has ls 2 [(0, .ref h0), (1, .int k)] := hl
  refine lv_iload_n hx hb dX12_isDoor_0 rfl (lv_at hl 1 rfl) ?_
  refine lv_i2l (v := (k).toInt64) hx hb dX12_isDoor_1 rfl ?_
  refine lv_topl (fun x_1 he_x_1 => ?_)
  have hq_x_1 := z_i2l he_x_1
  have hL_k := z_full k
  refine lv_lconst (v := 0) hx hb dX12_isDoor_2 (by decide) ?_
  refine lv_aload_n hx hb dX12_isDoor_3 rfl (lv_at hl 0 rfl) ?_
  refine va_get (D := G) (ci := 12) (v := .ref a_c) (C := RX12) (T := TX12) (N := 65) hx hb hts inT12 hown hK hP 0 rfl rfl 20 (by decide) (hts _ tw_1905) (fun _ h9 => h9) rfl dX12_isDoor_4 ?_
  refine lv_iconst (v := 3) hx hb dX12_isDoor_7 (by decide) ?_
  refine va_iald hx hb hK hP 1 0 rfl rfl (z_in (i := 3) (n := 1825) (by decide +kernel) (by decide +kernel)) dX12_isDoor_8 ?_
  refine lv_topi (fun x_2 he_x_2 => ?_)
  have hr_x_2 := z_ctk hC_g_c he_x_2 (k := 3) (lo := 0) (hi := 5) (by decide +kernel) (by decide +kernel) (by decide +kernel)
  have hv_x_2 := z_cv he_x_2 (k := 3) (by decide +kernel)
  refine lv_iconst (v := 1) hx hb dX12_isDoor_9 (by decide) ?_
  refine lv_isub hx hb dX12_isDoor_10 ?_
  refine lv_topi (fun x_3 he_x_3 => ?_)
  have hq_x_3 := z_subq he_x_3 (rfl : x_2.toInt = _) hk_1 (by omega) (by omega)
  refine lv_i2l (v := (x_3).toInt64) hx hb dX12_isDoor_11 rfl ?_
  refine lv_topl (fun x_4 he_x_4 => ?_)
  have hq_x_4 := z_i2l he_x_4
  refine z_callSi (As := [.long x_1, .long 0, .long x_4]) (rest := []) (wr := [(h0, .inr (12, [.int m_status, .int m_thrown, .long m_above, .long m_under, .ref a_traySort, .ref a_trayMany, .ref a_numbers, .ref a_tape, .int m_taped, .int m_textEnd, .int m_faultKind, .int m_faultAt, .int m_bad, .int m_badAt, .int m_token, .int m_at, .int m_behind, .int m_number, .int m_letters, .long m_word, .ref a_c, .ref a_words, .int m_markMany, .ref a_there, .ref a_tried, .ref a_best, .ref a_found, .int m_thereMany, .int m_foundMany, .int m_orderHow, .int m_orderRing, .int m_orderMany, .int m_hasBest, .long m_bestTop, .long m_bestBy, .ref a_weights, .ref a_shared, .int m_random, .int m_truePlace, .int m_trueWay, .int m_seconds, .int m_done, .int m_feelings, .int m_tries, .int m_leftOver, .int m_playDoor, .int m_playRing, .int m_isOpen, .int m_isOver, .int m_wasTried, .int m_hasPlayed, .ref a_feltNow, .ref a_last, .ref a_kept, .int m_hasSeconds, .int m_hasTurned, .int m_hasRound, .ref a_hasFeels, .ref a_isOn, .int m_firstAct, .long m_meanTop, .long m_meanBy, .ref a_order, .int m_rowMany, .int m_newSteps])), (a_c, .inl (cA.1 0, 1825, .inl g_c))]) ⟨hx, hb, hml, hown, hts⟩ hK hE hT hP hD hS hA (r_isIn l G cA x_1 0 x_4) lk_RX12_117 ⟨rfl, rfl⟩ ⟨Nat.le_of_ble_eq_true rfl, Nat.le_of_ble_eq_true rfl⟩ [] [0, 1] rfl rfl (by decide) rfl hl.1 rfl (lv_room (Nat.le_of_ble_eq_true rfl)) dX12_isDoor_12 ⟨Nat.le_of_ble_eq_true rfl, Nat.le_of_ble_eq_true rfl⟩ (fun r_5 u_6 H locs hw hP hD hS => ?_)
  rcases hw with ⟨rfl, hf_7⟩ | ⟨rfl, hf_8⟩
  · skip
    have hpost : ((0 : Int32) = 0 ∧ True) ∨ ((0 : Int32) = 1 ∧ (0 ≤ k.toInt ∧ k.toInt < (g_c 3).toInt) ∧ (k.toInt ≤ 4)) := (Or.inl ⟨rfl, trivial⟩)
    exact hret _ _ _ _ _ _ () [0, 1] hP hD hS rfl (by decide) dX12_isDoor_15 (Or.inl rfl) hpost
  · skip
    have hpost : ((1 : Int32) = 0 ∧ True) ∨ ((1 : Int32) = 1 ∧ (0 ≤ k.toInt ∧ k.toInt < (g_c 3).toInt) ∧ (k.toInt ≤ 4)) := (Or.inr ⟨rfl, ⟨(by omega), (by omega)⟩⟩)
    exact hret _ _ _ _ _ _ () [0, 1] hP hD hS rfl (by decide) dX12_isDoor_15 (Or.inr rfl) hpost
set_option maxHeartbeats 4000000 in
set_option maxRecDepth 100000 in
theorem r_isKey (l : Launch) (G : va_G) (cA : zCA) (h0 : Nat) (m_status : Int32) (m_thrown : Int32) (m_above : Int64) (m_under : Int64) (a_traySort : Nat) (a_trayMany : Nat) (a_numbers : Nat) (a_tape : Nat) (m_taped : Int32) (m_textEnd : Int32) (m_faultKind : Int32) (m_faultAt : Int32) (m_bad : Int32) (m_badAt : Int32) (m_token : Int32) (m_at : Int32) (m_behind : Int32) (m_number : Int32) (m_letters : Int32) (m_word : Int64) (a_c : Nat) (a_words : Nat) (m_markMany : Int32) (a_there : Nat) (a_tried : Nat) (a_best : Nat) (a_found : Nat) (m_thereMany : Int32) (m_foundMany : Int32) (m_orderHow : Int32) (m_orderRing : Int32) (m_orderMany : Int32) (m_hasBest : Int32) (m_bestTop : Int64) (m_bestBy : Int64) (a_weights : Nat) (a_shared : Nat) (m_random : Int32) (m_truePlace : Int32) (m_trueWay : Int32) (m_seconds : Int32) (m_done : Int32) (m_feelings : Int32) (m_tries : Int32) (m_leftOver : Int32) (m_playDoor : Int32) (m_playRing : Int32) (m_isOpen : Int32) (m_isOver : Int32) (m_wasTried : Int32) (m_hasPlayed : Int32) (a_feltNow : Nat) (a_last : Nat) (a_kept : Nat) (m_hasSeconds : Int32) (m_hasTurned : Int32) (m_hasRound : Int32) (a_hasFeels : Nat) (a_isOn : Nat) (m_firstAct : Int32) (m_meanTop : Int64) (m_meanBy : Int64) (a_order : Nat) (m_rowMany : Int32) (m_newSteps : Int32) (g_c : Nat → Int32) (k : Int64) (hC_g_c : zC g_c) : zCi l yX12_isKey cX12_isKey 3 (some .boolean) ({ frames := 1, cells := 0, slots := 0, locals := 25 }) G cA [.ref h0, .long k] [(h0, .inr (12, [.int m_status, .int m_thrown, .long m_above, .long m_under, .ref a_traySort, .ref a_trayMany, .ref a_numbers, .ref a_tape, .int m_taped, .int m_textEnd, .int m_faultKind, .int m_faultAt, .int m_bad, .int m_badAt, .int m_token, .int m_at, .int m_behind, .int m_number, .int m_letters, .long m_word, .ref a_c, .ref a_words, .int m_markMany, .ref a_there, .ref a_tried, .ref a_best, .ref a_found, .int m_thereMany, .int m_foundMany, .int m_orderHow, .int m_orderRing, .int m_orderMany, .int m_hasBest, .long m_bestTop, .long m_bestBy, .ref a_weights, .ref a_shared, .int m_random, .int m_truePlace, .int m_trueWay, .int m_seconds, .int m_done, .int m_feelings, .int m_tries, .int m_leftOver, .int m_playDoor, .int m_playRing, .int m_isOpen, .int m_isOver, .int m_wasTried, .int m_hasPlayed, .ref a_feltNow, .ref a_last, .ref a_kept, .int m_hasSeconds, .int m_hasTurned, .int m_hasRound, .ref a_hasFeels, .ref a_isOn, .int m_firstAct, .long m_meanTop, .long m_meanBy, .ref a_order, .int m_rowMany, .int m_newSteps])), (a_c, .inl (cA.1 0, 1825, .inl g_c))] (S := Unit) (fun (r : Int32) (u : Unit) => (r = 0 ∧ True) ∨ (r = 1 ∧ (0 ≤ k.toInt ∧ k.toInt < (g_c 1).toInt) ∧ (k.toInt ≤ 9))) (fun (u : Unit) => [(h0, .inr (12, [.int m_status, .int m_thrown, .long m_above, .long m_under, .ref a_traySort, .ref a_trayMany, .ref a_numbers, .ref a_tape, .int m_taped, .int m_textEnd, .int m_faultKind, .int m_faultAt, .int m_bad, .int m_badAt, .int m_token, .int m_at, .int m_behind, .int m_number, .int m_letters, .long m_word, .ref a_c, .ref a_words, .int m_markMany, .ref a_there, .ref a_tried, .ref a_best, .ref a_found, .int m_thereMany, .int m_foundMany, .int m_orderHow, .int m_orderRing, .int m_orderMany, .int m_hasBest, .long m_bestTop, .long m_bestBy, .ref a_weights, .ref a_shared, .int m_random, .int m_truePlace, .int m_trueWay, .int m_seconds, .int m_done, .int m_feelings, .int m_tries, .int m_leftOver, .int m_playDoor, .int m_playRing, .int m_isOpen, .int m_isOver, .int m_wasTried, .int m_hasPlayed, .ref a_feltNow, .ref a_last, .ref a_kept, .int m_hasSeconds, .int m_hasTurned, .int m_hasRound, .ref a_hasFeels, .ref a_isOn, .int m_firstAct, .long m_meanTop, .long m_meanBy, .ref a_order, .int m_rowMany, .int m_newSteps])), (a_c, .inl (cA.1 0, 1825, .inl g_c))]) 0 0 := by
  have hk_1 : (1 : Int32).toInt = 1 := by decide +kernel
  have hkl_0 : (0 : Int64).toInt = 0 := by decide +kernel
  refine z_start2z (own := RX12) (by decide) (Nat.le_of_ble_eq_true rfl) rfl ?_
  intro p e s m args below meth c A ls Q hx hb hml hts hown hK hE hT hP hD hS hA hl hret
  have hl : lv_has ls 3 [(0, .ref h0), (1, .long k)] := hl
  refine lv_lload_n hx hb dX12_isKey_0 rfl (lv_at hl 1 rfl) ?_
  refine lv_lconst (v := 0) hx hb dX12_isKey_1 (by decide) ?_
  refine lv_aload_n hx hb dX12_isKey_2 rfl (lv_at hl 0 rfl) ?_
  refine va_get (D := G) (ci := 12) (v := .ref a_c) (C := RX12) (T := TX12) (N := 65) hx hb hts inT12 hown hK hP 0 rfl rfl 20 (by decide) (hts _ tw_1905) (fun _ h9 => h9) rfl dX12_isKey_3 ?_
  refine lv_iconst (v := 1) hx hb dX12_isKey_6 (by decide) ?_
  refine va_iald hx hb hK hP 1 0 rfl rfl (z_in (i := 1) (n := 1825) (by decide +kernel) (by decide +kernel)) dX12_isKey_7 ?_
  refine lv_topi (fun x_1 he_x_1 => ?_)
  have hr_x_1 := z_ctk hC_g_c he_x_1 (k := 1) (lo := 0) (hi := 10) (by decide +kernel) (by decide +kernel) (by decide +kernel)
  have hv_x_1 := z_cv he_x_1 (k := 1) (by decide +kernel)
  refine lv_iconst (v := 1) hx hb dX12_isKey_8 (by decide) ?_
  refine lv_isub hx hb dX12_isKey_9 ?_
  refine lv_topi (fun x_2 he_x_2 => ?_)
  have hq_x_2 := z_subq he_x_2 (rfl : x_1.toInt = _) hk_1 (by omega) (by omega)
  refine lv_i2l (v := (x_2).toInt64) hx hb dX12_isKey_10 rfl ?_
  refine lv_topl (fun x_3 he_x_3 => ?_)
  have hq_x_3 := z_i2l he_x_3
  refine z_callSi (As := [.long k, .long 0, .long x_3]) (rest := []) (wr := [(h0, .inr (12, [.int m_status, .int m_thrown, .long m_above, .long m_under, .ref a_traySort, .ref a_trayMany, .ref a_numbers, .ref a_tape, .int m_taped, .int m_textEnd, .int m_faultKind, .int m_faultAt, .int m_bad, .int m_badAt, .int m_token, .int m_at, .int m_behind, .int m_number, .int m_letters, .long m_word, .ref a_c, .ref a_words, .int m_markMany, .ref a_there, .ref a_tried, .ref a_best, .ref a_found, .int m_thereMany, .int m_foundMany, .int m_orderHow, .int m_orderRing, .int m_orderMany, .int m_hasBest, .long m_bestTop, .long m_bestBy, .ref a_weights, .ref a_shared, .int m_random, .int m_truePlace, .int m_trueWay, .int m_seconds, .int m_done, .int m_feelings, .int m_tries, .int m_leftOver, .int m_playDoor, .int m_playRing, .int m_isOpen, .int m_isOver, .int m_wasTried, .int m_hasPlayed, .ref a_feltNow, .ref a_last, .ref a_kept, .int m_hasSeconds, .int m_hasTurned, .int m_hasRound, .ref a_hasFeels, .ref a_isOn, .int m_firstAct, .long m_meanTop, .long m_meanBy, .ref a_order, .int m_rowMany, .int m_newSteps])), (a_c, .inl (cA.1 0, 1825, .inl g_c))]) ⟨hx, hb, hml, hown, hts⟩ hK hE hT hP hD hS hA (r_isIn l G cA k 0 x_3) lk_RX12_117 ⟨rfl, rfl⟩ ⟨Nat.le_of_ble_eq_true rfl, Nat.le_of_ble_eq_true rfl⟩ [] [0, 1] rfl rfl (by decide) rfl hl.1 rfl (lv_room (Nat.le_of_ble_eq_true rfl)) dX12_isKey_11 ⟨Nat.le_of_ble_eq_true rfl, Nat.le_of_ble_eq_true rfl⟩ (fun r_4 u_5 H locs hw hP hD hS => ?_)
  rcases hw with ⟨rfl, hf_6⟩ | ⟨rfl, hf_7⟩
  · skip
    have hpost : ((0 : Int32) = 0 ∧ True) ∨ ((0 : Int32) = 1 ∧ (0 ≤ k.toInt ∧ k.toInt < (g_c 1).toInt) ∧ (k.toInt ≤ 9)) := (Or.inl ⟨rfl, trivial⟩)
    exact hret _ _ _ _ _ _ () [0, 1] hP hD hS rfl (by decide) dX12_isKey_14 (Or.inl rfl) hpost
  · skip
    have hpost : ((1 : Int32) = 0 ∧ True) ∨ ((1 : Int32) = 1 ∧ (0 ≤ k.toInt ∧ k.toInt < (g_c 1).toInt) ∧ (k.toInt ≤ 9)) := (Or.inr ⟨rfl, ⟨(by omega), (by omega)⟩⟩)
    exact hret _ _ _ _ _ _ () [0, 1] hP hD hS rfl (by decide) dX12_isKey_14 (Or.inr rfl) hpost
set_option maxHeartbeats 4000000 in
set_option maxRecDepth 100000 in
theorem r_isStep (l : Launch) (G : va_G) (cA : zCA) (h0 : Nat) (m_status : Int32) (m_thrown : Int32) (m_above : Int64) (m_under : Int64) (a_traySort : Nat) (a_trayMany : Nat) (a_numbers : Nat) (a_tape : Nat) (m_taped : Int32) (m_textEnd : Int32) (m_faultKind : Int32) (m_faultAt : Int32) (m_bad : Int32) (m_badAt : Int32) (m_token : Int32) (m_at : Int32) (m_behind : Int32) (m_number : Int32) (m_letters : Int32) (m_word : Int64) (a_c : Nat) (a_words : Nat) (m_markMany : Int32) (a_there : Nat) (a_tried : Nat) (a_best : Nat) (a_found : Nat) (m_thereMany : Int32) (m_foundMany : Int32) (m_orderHow : Int32) (m_orderRing : Int32) (m_orderMany : Int32) (m_hasBest : Int32) (m_bestTop : Int64) (m_bestBy : Int64) (a_weights : Nat) (a_shared : Nat) (m_random : Int32) (m_truePlace : Int32) (m_trueWay : Int32) (m_seconds : Int32) (m_done : Int32) (m_feelings : Int32) (m_tries : Int32) (m_leftOver : Int32) (m_playDoor : Int32) (m_playRing : Int32) (m_isOpen : Int32) (m_isOver : Int32) (m_wasTried : Int32) (m_hasPlayed : Int32) (a_feltNow : Nat) (a_last : Nat) (a_kept : Nat) (m_hasSeconds : Int32) (m_hasTurned : Int32) (m_hasRound : Int32) (a_hasFeels : Nat) (a_isOn : Nat) (m_firstAct : Int32) (m_meanTop : Int64) (m_meanBy : Int64) (a_order : Nat) (m_rowMany : Int32) (m_newSteps : Int32) (g_c : Nat → Int32) (f : Int32) (k : Int32) (hC_g_c : zC g_c) : zCi l yX12_isStep cX12_isStep 3 (some .boolean) ({ frames := 2, cells := 0, slots := 0, locals := 46 }) G cA [.ref h0, .int f, .int k] [(h0, .inr (12, [.int m_status, .int m_thrown, .long m_above, .long m_under, .ref a_traySort, .ref a_trayMany, .ref a_numbers, .ref a_tape, .int m_taped, .int m_textEnd, .int m_faultKind, .int m_faultAt, .int m_bad, .int m_badAt, .int m_token, .int m_at, .int m_behind, .int m_number, .int m_letters, .long m_word, .ref a_c, .ref a_words, .int m_markMany, .ref a_there, .ref a_tried, .ref a_best, .ref a_found, .int m_thereMany, .int m_foundMany, .int m_orderHow, .int m_orderRing, .int m_orderMany, .int m_hasBest, .long m_bestTop, .long m_bestBy, .ref a_weights, .ref a_shared, .int m_random, .int m_truePlace, .int m_trueWay, .int m_seconds, .int m_done, .int m_feelings, .int m_tries, .int m_leftOver, .int m_playDoor, .int m_playRing, .int m_isOpen, .int m_isOver, .int m_wasTried, .int m_hasPlayed, .ref a_feltNow, .ref a_last, .ref a_kept, .int m_hasSeconds, .int m_hasTurned, .int m_hasRound, .ref a_hasFeels, .ref a_isOn, .int m_firstAct, .long m_meanTop, .long m_meanBy, .ref a_order, .int m_rowMany, .int m_newSteps])), (a_c, .inl (cA.1 0, 1825, .inl g_c))] (S := Unit) (fun (r : Int32) (u : Unit) => (r = 0 ∧ True) ∨ (r = 1 ∧ (0 ≤ f.toInt ∧ f.toInt < (g_c 0).toInt) ∧ (f.toInt ≤ 2 ∧ 0 ≤ k.toInt ∧ k.toInt ≤ 3))) (fun (u : Unit) => [(h0, .inr (12, [.int m_status, .int m_thrown, .long m_above, .long m_under, .ref a_traySort, .ref a_trayMany, .ref a_numbers, .ref a_tape, .int m_taped, .int m_textEnd, .int m_faultKind, .int m_faultAt, .int m_bad, .int m_badAt, .int m_token, .int m_at, .int m_behind, .int m_number, .int m_letters, .long m_word, .ref a_c, .ref a_words, .int m_markMany, .ref a_there, .ref a_tried, .ref a_best, .ref a_found, .int m_thereMany, .int m_foundMany, .int m_orderHow, .int m_orderRing, .int m_orderMany, .int m_hasBest, .long m_bestTop, .long m_bestBy, .ref a_weights, .ref a_shared, .int m_random, .int m_truePlace, .int m_trueWay, .int m_seconds, .int m_done, .int m_feelings, .int m_tries, .int m_leftOver, .int m_playDoor, .int m_playRing, .int m_isOpen, .int m_isOver, .int m_wasTried, .int m_hasPlayed, .ref a_feltNow, .ref a_last, .ref a_kept, .int m_hasSeconds, .int m_hasTurned, .int m_hasRound, .ref a_hasFeels, .ref a_isOn, .int m_firstAct, .long m_meanTop, .long m_meanBy, .ref a_order, .int m_rowMany, .int m_newSteps])), (a_c, .inl (cA.1 0, 1825, .inl g_c))]) 0 0 := by
  have hk_1 : (1 : Int32).toInt = 1 := by decide +kernel
  have hk_11 : (11 : Int32).toInt = 11 := by decide +kernel
  have hkl_0 : (0 : Int64).toInt = 0 := by decide +kernel
  refine z_start2z (own := RX12) (by decide) (Nat.le_of_ble_eq_true rfl) rfl ?_
  intro p e s m args below meth c A ls Q hx hb hml hts hown hK hE hT hP hD hS hA hl hret
  have hl : lv_has ls 3 [(0, .ref h0), (1, .int f), (2, .int k)] := hl
  refine lv_aload_n hx hb dX12_isStep_0 rfl (lv_at hl 0 rfl) ?_
  refine lv_iload_n hx hb dX12_isStep_1 rfl (lv_at hl 1 rfl) ?_
  refine z_callVi (As := [.int f]) (rest := []) (wr := []) ⟨hx, hb, hml, hown, hts⟩ hK hE hT hP hD hS hA (r_isFeature l G cA h0 m_status m_thrown m_above m_under a_traySort a_trayMany a_numbers a_tape m_taped m_textEnd m_faultKind m_faultAt m_bad m_badAt m_token m_at m_behind m_number m_letters m_word a_c a_words m_markMany a_there a_tried a_best a_found m_thereMany m_foundMany m_orderHow m_orderRing m_orderMany m_hasBest m_bestTop m_bestBy a_weights a_shared m_random m_truePlace m_trueWay m_seconds m_done m_feelings m_tries m_leftOver m_playDoor m_playRing m_isOpen m_isOver m_wasTried m_hasPlayed a_feltNow a_last a_kept m_hasSeconds m_hasTurned m_hasRound a_hasFeels a_isOn m_firstAct m_meanTop m_meanBy a_order m_rowMany m_newSteps g_c f hC_g_c) lk_RX12_264 ⟨rfl, rfl⟩ ⟨Nat.le_of_ble_eq_true rfl, Nat.le_of_ble_eq_true rfl⟩ 12 rfl rfl rfl [0, 1] [] rfl rfl (by decide) rfl hl.1 rfl (lv_room (Nat.le_of_ble_eq_true rfl)) dX12_isStep_2 ⟨Nat.le_of_ble_eq_true rfl, Nat.le_of_ble_eq_true rfl⟩ (fun r_1 u_2 H locs hw hP hD hS => ?_)
  rcases hw with ⟨rfl, -⟩ | ⟨rfl, hf_3, hf_4⟩
  · skip
    refine lv_if_eq (tgt := 33) hx hb dX12_isStep_5 (by decide) (fun _ => ?_) (fun h9 => absurd (by decide +kernel) h9)
    refine lv_iconst (v := 0) hx hb dX12_isStep_33 (by decide) ?_
    have hpost : ((0 : Int32) = 0 ∧ True) ∨ ((0 : Int32) = 1 ∧ (0 ≤ f.toInt ∧ f.toInt < (g_c 0).toInt) ∧ (f.toInt ≤ 2 ∧ 0 ≤ k.toInt ∧ k.toInt ≤ 3)) := (Or.inl ⟨rfl, trivial⟩)
    exact hret _ _ _ _ _ _ () [0, 1] hP hD hS rfl (by decide) dX12_isStep_34 (Or.inl rfl) hpost
  · skip
    refine lv_if_eq (tgt := 33) hx hb dX12_isStep_5 (by decide) (fun h9 => absurd h9 (by decide +kernel)) (fun _ => ?_)
    refine lv_iload_n hx hb dX12_isStep_8 rfl (lv_at hl 2 rfl) ?_
    refine lv_i2l (v := (k).toInt64) hx hb dX12_isStep_9 rfl ?_
    refine lv_topl (fun x_5 he_x_5 => ?_)
    have hq_x_5 := z_i2l he_x_5
    have hL_k := z_full k
    refine lv_lconst (v := 0) hx hb dX12_isStep_10 (by decide) ?_
    refine lv_aload_n hx hb dX12_isStep_11 rfl (lv_at hl 0 rfl) ?_
    refine va_get (D := G) (ci := 12) (v := .ref a_c) (C := RX12) (T := TX12) (N := 65) hx hb hts inT12 hown hK hP 0 rfl rfl 20 (by decide) (hts _ tw_1905) (fun _ h9 => h9) rfl dX12_isStep_12 ?_
    refine lv_bipush (v := 11) hx hb dX12_isStep_15 (by decide) ?_
    refine lv_iload_n hx hb dX12_isStep_17 rfl (lv_at hl 1 rfl) ?_
    refine lv_iadd hx hb dX12_isStep_18 ?_
    refine lv_topi (fun x_6 he_x_6 => ?_)
    have hq_x_6 := z_addq he_x_6 hk_11 (rfl : f.toInt = _) (by omega) (by omega)
    refine va_iald hx hb hK hP 1 0 rfl rfl (z_inN (by omega) (by omega)) dX12_isStep_19 ?_
    refine lv_topi (fun x_7 he_x_7 => ?_)
    have hr_x_7 := z_ct hC_g_c he_x_7 (a := 11) (b := 13) (lo := 0) (hi := 4) (by decide +kernel) (by decide) (by omega) (by omega)
    refine lv_iconst (v := 1) hx hb dX12_isStep_20 (by decide) ?_
    refine lv_isub hx hb dX12_isStep_21 ?_
    refine lv_topi (fun x_8 he_x_8 => ?_)
    have hq_x_8 := z_subq he_x_8 (rfl : x_7.toInt = _) hk_1 (by omega) (by omega)
    refine lv_i2l (v := (x_8).toInt64) hx hb dX12_isStep_22 rfl ?_
    refine lv_topl (fun x_9 he_x_9 => ?_)
    have hq_x_9 := z_i2l he_x_9
    refine z_callSi (As := [.long x_5, .long 0, .long x_9]) (rest := []) (wr := [(h0, .inr (12, [.int m_status, .int m_thrown, .long m_above, .long m_under, .ref a_traySort, .ref a_trayMany, .ref a_numbers, .ref a_tape, .int m_taped, .int m_textEnd, .int m_faultKind, .int m_faultAt, .int m_bad, .int m_badAt, .int m_token, .int m_at, .int m_behind, .int m_number, .int m_letters, .long m_word, .ref a_c, .ref a_words, .int m_markMany, .ref a_there, .ref a_tried, .ref a_best, .ref a_found, .int m_thereMany, .int m_foundMany, .int m_orderHow, .int m_orderRing, .int m_orderMany, .int m_hasBest, .long m_bestTop, .long m_bestBy, .ref a_weights, .ref a_shared, .int m_random, .int m_truePlace, .int m_trueWay, .int m_seconds, .int m_done, .int m_feelings, .int m_tries, .int m_leftOver, .int m_playDoor, .int m_playRing, .int m_isOpen, .int m_isOver, .int m_wasTried, .int m_hasPlayed, .ref a_feltNow, .ref a_last, .ref a_kept, .int m_hasSeconds, .int m_hasTurned, .int m_hasRound, .ref a_hasFeels, .ref a_isOn, .int m_firstAct, .long m_meanTop, .long m_meanBy, .ref a_order, .int m_rowMany, .int m_newSteps])), (a_c, .inl (cA.1 0, 1825, .inl g_c))]) ⟨hx, hb, hml, hown, hts⟩ hK hE hT hP hD hS hA (r_isIn l G cA x_5 0 x_9) lk_RX12_117 ⟨rfl, rfl⟩ ⟨Nat.le_of_ble_eq_true rfl, Nat.le_of_ble_eq_true rfl⟩ [] [0, 1] rfl rfl (by decide) rfl hl.1 rfl (lv_room (Nat.le_of_ble_eq_true rfl)) dX12_isStep_23 ⟨Nat.le_of_ble_eq_true rfl, Nat.le_of_ble_eq_true rfl⟩ (fun r_10 u_11 H locs hw hP hD hS => ?_)
    rcases hw with ⟨rfl, hf_12⟩ | ⟨rfl, hf_13⟩
    · skip
      refine lv_if_eq (tgt := 33) hx hb dX12_isStep_26 (by decide) (fun _ => ?_) (fun h9 => absurd (by decide +kernel) h9)
      refine lv_iconst (v := 0) hx hb dX12_isStep_33 (by decide) ?_
      have hpost : ((0 : Int32) = 0 ∧ True) ∨ ((0 : Int32) = 1 ∧ (0 ≤ f.toInt ∧ f.toInt < (g_c 0).toInt) ∧ (f.toInt ≤ 2 ∧ 0 ≤ k.toInt ∧ k.toInt ≤ 3)) := (Or.inl ⟨rfl, trivial⟩)
      exact hret _ _ _ _ _ _ () [0, 1] hP hD hS rfl (by decide) dX12_isStep_34 (Or.inl rfl) hpost
    · skip
      refine lv_if_eq (tgt := 33) hx hb dX12_isStep_26 (by decide) (fun h9 => absurd h9 (by decide +kernel)) (fun _ => ?_)
      refine lv_iconst (v := 1) hx hb dX12_isStep_29 (by decide) ?_
      refine lv_goto (tgt := 34) hx hb dX12_isStep_30 (by decide) ?_
      have hpost : ((1 : Int32) = 0 ∧ True) ∨ ((1 : Int32) = 1 ∧ (0 ≤ f.toInt ∧ f.toInt < (g_c 0).toInt) ∧ (f.toInt ≤ 2 ∧ 0 ≤ k.toInt ∧ k.toInt ≤ 3)) := (Or.inr ⟨rfl, ⟨(by omega), (by omega)⟩⟩)
      exact hret _ _ _ _ _ _ () [0, 1] hP hD hS rfl (by decide) dX12_isStep_34 (Or.inr rfl) hpost
set_option maxHeartbeats 4000000 in
set_option maxRecDepth 100000 in
theorem r_canOpen (l : Launch) (G : va_G) (cA : zCA) (h0 : Nat) (m_status : Int32) (m_thrown : Int32) (m_above : Int64) (m_under : Int64) (a_traySort : Nat) (a_trayMany : Nat) (a_numbers : Nat) (a_tape : Nat) (m_taped : Int32) (m_textEnd : Int32) (m_faultKind : Int32) (m_faultAt : Int32) (m_bad : Int32) (m_badAt : Int32) (m_token : Int32) (m_at : Int32) (m_behind : Int32) (m_number : Int32) (m_letters : Int32) (m_word : Int64) (a_c : Nat) (a_words : Nat) (m_markMany : Int32) (a_there : Nat) (a_tried : Nat) (a_best : Nat) (a_found : Nat) (m_thereMany : Int32) (m_foundMany : Int32) (m_orderHow : Int32) (m_orderRing : Int32) (m_orderMany : Int32) (m_hasBest : Int32) (m_bestTop : Int64) (m_bestBy : Int64) (a_weights : Nat) (a_shared : Nat) (m_random : Int32) (m_truePlace : Int32) (m_trueWay : Int32) (m_seconds : Int32) (m_done : Int32) (m_feelings : Int32) (m_tries : Int32) (m_leftOver : Int32) (m_playDoor : Int32) (m_playRing : Int32) (m_isOpen : Int32) (m_isOver : Int32) (m_wasTried : Int32) (m_hasPlayed : Int32) (a_feltNow : Nat) (a_last : Nat) (a_kept : Nat) (m_hasSeconds : Int32) (m_hasTurned : Int32) (m_hasRound : Int32) (a_hasFeels : Nat) (a_isOn : Nat) (m_firstAct : Int32) (m_meanTop : Int64) (m_meanBy : Int64) (a_order : Nat) (m_rowMany : Int32) (m_newSteps : Int32) (g_c : Nat → Int32) (k : Int32) (d : Int32) (hr_k : 0 ≤ k.toInt ∧ k.toInt ≤ 9) (hr_d : 0 ≤ d.toInt ∧ d.toInt ≤ 4) (hC_g_c : zC g_c) : zCi l yX12_canOpen cX12_canOpen 3 (some .boolean) ({ frames := 0, cells := 0, slots := 0, locals := 0 }) G cA [.ref h0, .int k, .int d] [(h0, .inr (12, [.int m_status, .int m_thrown, .long m_above, .long m_under, .ref a_traySort, .ref a_trayMany, .ref a_numbers, .ref a_tape, .int m_taped, .int m_textEnd, .int m_faultKind, .int m_faultAt, .int m_bad, .int m_badAt, .int m_token, .int m_at, .int m_behind, .int m_number, .int m_letters, .long m_word, .ref a_c, .ref a_words, .int m_markMany, .ref a_there, .ref a_tried, .ref a_best, .ref a_found, .int m_thereMany, .int m_foundMany, .int m_orderHow, .int m_orderRing, .int m_orderMany, .int m_hasBest, .long m_bestTop, .long m_bestBy, .ref a_weights, .ref a_shared, .int m_random, .int m_truePlace, .int m_trueWay, .int m_seconds, .int m_done, .int m_feelings, .int m_tries, .int m_leftOver, .int m_playDoor, .int m_playRing, .int m_isOpen, .int m_isOver, .int m_wasTried, .int m_hasPlayed, .ref a_feltNow, .ref a_last, .ref a_kept, .int m_hasSeconds, .int m_hasTurned, .int m_hasRound, .ref a_hasFeels, .ref a_isOn, .int m_firstAct, .long m_meanTop, .long m_meanBy, .ref a_order, .int m_rowMany, .int m_newSteps])), (a_c, .inl (cA.1 0, 1825, .inl g_c))] (S := Unit) (fun (r : Int32) (u : Unit) => (r = 0 ∧ ((zcn g_c k d.toInt).toInt ≠ 1)) ∨ (r = 1 ∧ ((zcn g_c k d.toInt).toInt = 1))) (fun (u : Unit) => [(h0, .inr (12, [.int m_status, .int m_thrown, .long m_above, .long m_under, .ref a_traySort, .ref a_trayMany, .ref a_numbers, .ref a_tape, .int m_taped, .int m_textEnd, .int m_faultKind, .int m_faultAt, .int m_bad, .int m_badAt, .int m_token, .int m_at, .int m_behind, .int m_number, .int m_letters, .long m_word, .ref a_c, .ref a_words, .int m_markMany, .ref a_there, .ref a_tried, .ref a_best, .ref a_found, .int m_thereMany, .int m_foundMany, .int m_orderHow, .int m_orderRing, .int m_orderMany, .int m_hasBest, .long m_bestTop, .long m_bestBy, .ref a_weights, .ref a_shared, .int m_random, .int m_truePlace, .int m_trueWay, .int m_seconds, .int m_done, .int m_feelings, .int m_tries, .int m_leftOver, .int m_playDoor, .int m_playRing, .int m_isOpen, .int m_isOver, .int m_wasTried, .int m_hasPlayed, .ref a_feltNow, .ref a_last, .ref a_kept, .int m_hasSeconds, .int m_hasTurned, .int m_hasRound, .ref a_hasFeels, .ref a_isOn, .int m_firstAct, .long m_meanTop, .long m_meanBy, .ref a_order, .int m_rowMany, .int m_newSteps])), (a_c, .inl (cA.1 0, 1825, .inl g_c))]) 0 0 := by
  have hk_1 : (1 : Int32).toInt = 1 := by decide +kernel
  have hk_133 : (133 : Int32).toInt = 133 := by decide +kernel
  refine z_start2z (own := RX12) (by decide) (Nat.le_of_ble_eq_true rfl) rfl ?_
  intro p e s m args below meth c A ls Q hx hb hml hts hown hK hE hT hP hD hS hA hl hret
  have hl : lv_has ls 3 [(0, .ref h0), (1, .int k), (2, .int d)] := hl
  refine lv_aload_n hx hb dX12_canOpen_0 rfl (lv_at hl 0 rfl) ?_
  refine va_get (D := G) (ci := 12) (v := .ref a_c) (C := RX12) (T := TX12) (N := 65) hx hb hts inT12 hown hK hP 0 rfl rfl 20 (by decide) (hts _ tw_1905) (fun _ h9 => h9) rfl dX12_canOpen_1 ?_
  refine lv_sipush (v := 133) hx hb dX12_canOpen_4 (by decide) ?_
  refine lv_iload_n hx hb dX12_canOpen_7 rfl (lv_at hl 2 rfl) ?_
  refine lv_iadd hx hb dX12_canOpen_8 ?_
  refine lv_topi (fun x_1 he_x_1 => ?_)
  have hq_x_1 := z_addq he_x_1 hk_133 (rfl : d.toInt = _) (by omega) (by omega)
  refine va_iald hx hb hK hP 1 0 rfl rfl (z_inN (by omega) (by omega)) dX12_canOpen_9 ?_
  refine lv_topi (fun x_2 he_x_2 => ?_)
  refine lv_iload_n hx hb dX12_canOpen_10 rfl (lv_at hl 1 rfl) ?_
  refine lv_ishr hx hb dX12_canOpen_11 ?_
  have hL_x_2 := z_full x_2
  refine lv_topi (fun x_3 he_x_3 => ?_)
  refine lv_iconst (v := 1) hx hb dX12_canOpen_12 (by decide) ?_
  refine lv_iand hx hb dX12_canOpen_13 ?_
  have hL_x_3 := z_full x_3
  refine lv_topi (fun x_4 he_x_4 => ?_)
  have hr_x_4 := z_andr he_x_4 hk_1 (by decide)
  refine lv_iconst (v := 1) hx hb dX12_canOpen_14 (by decide) ?_
  refine lv_icmp_ne (tgt := 22) hx hb dX12_canOpen_15 (by decide) (fun c_5 => ?_) (fun c_5 => ?_)
  · have b_6 := z_fneT c_5
    refine lv_iconst (v := 0) hx hb dX12_canOpen_22 (by decide) ?_
    have hpost : ((0 : Int32) = 0 ∧ ((zcn g_c k d.toInt).toInt ≠ 1)) ∨ ((0 : Int32) = 1 ∧ ((zcn g_c k d.toInt).toInt = 1)) := (Or.inl ⟨rfl, (by rw [← zcn_of he_x_2 (by omega) (by omega) he_x_3 he_x_4]; omega)⟩)
    exact hret _ _ _ _ _ _ () [0, 1] hP hD hS rfl (by decide) dX12_canOpen_23 (Or.inl rfl) hpost
  · have b_7 := z_feqF c_5
    refine lv_iconst (v := 1) hx hb dX12_canOpen_18 (by decide) ?_
    refine lv_goto (tgt := 23) hx hb dX12_canOpen_19 (by decide) ?_
    have hpost : ((1 : Int32) = 0 ∧ ((zcn g_c k d.toInt).toInt ≠ 1)) ∨ ((1 : Int32) = 1 ∧ ((zcn g_c k d.toInt).toInt = 1)) := (Or.inr ⟨rfl, (by rw [← zcn_of he_x_2 (by omega) (by omega) he_x_3 he_x_4]; omega)⟩)
    exact hret _ _ _ _ _ _ () [0, 1] hP hD hS rfl (by decide) dX12_canOpen_23 (Or.inr rfl) hpost
set_option maxHeartbeats 4000000 in
set_option maxRecDepth 100000 in
theorem r_many (l : Launch) (G : va_G) (cA : zCA) (h0 : Nat) (m_status : Int32) (m_thrown : Int32) (m_above : Int64) (m_under : Int64) (a_traySort : Nat) (a_trayMany : Nat) (a_numbers : Nat) (a_tape : Nat) (m_taped : Int32) (m_textEnd : Int32) (m_faultKind : Int32) (m_faultAt : Int32) (m_bad : Int32) (m_badAt : Int32) (m_token : Int32) (m_at : Int32) (m_behind : Int32) (m_number : Int32) (m_letters : Int32) (m_word : Int64) (a_c : Nat) (a_words : Nat) (m_markMany : Int32) (a_there : Nat) (a_tried : Nat) (a_best : Nat) (a_found : Nat) (m_thereMany : Int32) (m_foundMany : Int32) (m_orderHow : Int32) (m_orderRing : Int32) (m_orderMany : Int32) (m_hasBest : Int32) (m_bestTop : Int64) (m_bestBy : Int64) (a_weights : Nat) (a_shared : Nat) (m_random : Int32) (m_truePlace : Int32) (m_trueWay : Int32) (m_seconds : Int32) (m_done : Int32) (m_feelings : Int32) (m_tries : Int32) (m_leftOver : Int32) (m_playDoor : Int32) (m_playRing : Int32) (m_isOpen : Int32) (m_isOver : Int32) (m_wasTried : Int32) (m_hasPlayed : Int32) (a_feltNow : Nat) (a_last : Nat) (a_kept : Nat) (m_hasSeconds : Int32) (m_hasTurned : Int32) (m_hasRound : Int32) (a_hasFeels : Nat) (a_isOn : Nat) (m_firstAct : Int32) (m_meanTop : Int64) (m_meanBy : Int64) (a_order : Nat) (m_rowMany : Int32) (m_newSteps : Int32) (g_c : Nat → Int32) (w : Int32) (hC_g_c : zC g_c) : zCi l yX12_many cX12_many 2 (some .int) ({ frames := 1, cells := 0, slots := 0, locals := 25 }) G cA [.ref h0, .int w] [(h0, .inr (12, [.int m_status, .int m_thrown, .long m_above, .long m_under, .ref a_traySort, .ref a_trayMany, .ref a_numbers, .ref a_tape, .int m_taped, .int m_textEnd, .int m_faultKind, .int m_faultAt, .int m_bad, .int m_badAt, .int m_token, .int m_at, .int m_behind, .int m_number, .int m_letters, .long m_word, .ref a_c, .ref a_words, .int m_markMany, .ref a_there, .ref a_tried, .ref a_best, .ref a_found, .int m_thereMany, .int m_foundMany, .int m_orderHow, .int m_orderRing, .int m_orderMany, .int m_hasBest, .long m_bestTop, .long m_bestBy, .ref a_weights, .ref a_shared, .int m_random, .int m_truePlace, .int m_trueWay, .int m_seconds, .int m_done, .int m_feelings, .int m_tries, .int m_leftOver, .int m_playDoor, .int m_playRing, .int m_isOpen, .int m_isOver, .int m_wasTried, .int m_hasPlayed, .ref a_feltNow, .ref a_last, .ref a_kept, .int m_hasSeconds, .int m_hasTurned, .int m_hasRound, .ref a_hasFeels, .ref a_isOn, .int m_firstAct, .long m_meanTop, .long m_meanBy, .ref a_order, .int m_rowMany, .int m_newSteps])), (a_c, .inl (cA.1 0, 1825, .inl g_c))] (S := Int32 × Int32) (fun (r : Int32) (u : Int32 × Int32) => (0 ≤ u.2.toInt ∧ u.2.toInt ≤ 0)) (fun (u : Int32 × Int32) => [(h0, .inr (12, [.int u.1, .int u.2, .long m_above, .long m_under, .ref a_traySort, .ref a_trayMany, .ref a_numbers, .ref a_tape, .int m_taped, .int m_textEnd, .int m_faultKind, .int m_faultAt, .int m_bad, .int m_badAt, .int m_token, .int m_at, .int m_behind, .int m_number, .int m_letters, .long m_word, .ref a_c, .ref a_words, .int m_markMany, .ref a_there, .ref a_tried, .ref a_best, .ref a_found, .int m_thereMany, .int m_foundMany, .int m_orderHow, .int m_orderRing, .int m_orderMany, .int m_hasBest, .long m_bestTop, .long m_bestBy, .ref a_weights, .ref a_shared, .int m_random, .int m_truePlace, .int m_trueWay, .int m_seconds, .int m_done, .int m_feelings, .int m_tries, .int m_leftOver, .int m_playDoor, .int m_playRing, .int m_isOpen, .int m_isOver, .int m_wasTried, .int m_hasPlayed, .ref a_feltNow, .ref a_last, .ref a_kept, .int m_hasSeconds, .int m_hasTurned, .int m_hasRound, .ref a_hasFeels, .ref a_isOn, .int m_firstAct, .long m_meanTop, .long m_meanBy, .ref a_order, .int m_rowMany, .int m_newSteps])), (a_c, .inl (cA.1 0, 1825, .inl g_c))]) 0 0 := by
  have hk_5 : (5 : Int32).toInt = 5 := by decide +kernel
  have hkl_0 : (0 : Int64).toInt = 0 := by decide +kernel
  have hkl_10 : (10 : Int64).toInt = 10 := by decide +kernel
  refine z_start2i (own := RX12) (by decide) (Nat.le_of_ble_eq_true rfl) rfl ?_
  intro p e s m args below meth c A ls Q hx hb hml hts hown hK hE hT hP hD hS hA hl hret
  have hl : lv_has ls 2 [(0, .ref h0), (1, .int w)] := hl
  refine lv_aload_n hx hb dX12_many_0 rfl (lv_at hl 0 rfl) ?_
  refine lv_iconst (v := 0) hx hb dX12_many_1 (by decide) ?_
  refine va_put (D := G) (ci := 12) (v := .int 0) (ty := .int) (C := RX12) (T := TX12) (N := 65) hx hb hts inT12 tyX12 tyX12_ok nmX12 hown hK hP hD hS 0 rfl rfl 1 (by decide) (hts _ tw_1886) (fun _ h9 => h9) rfl (tyX12_ok 1 (by decide)) rfl rfl (Nat.le_of_ble_eq_true rfl) dX12_many_2 (fun H locs hP hD hS => ?_)
  refine lv_aload_n hx hb dX12_many_5 rfl (lv_at hl 0 rfl) ?_
  refine lv_iconst (v := 0) hx hb dX12_many_6 (by decide) ?_
  refine va_put (D := G) (ci := 12) (v := .int 0) (ty := .int) (C := RX12) (T := TX12) (N := 65) hx hb hts inT12 tyX12 tyX12_ok nmX12 hown hK hP hD hS 0 rfl rfl 0 (by decide) (hts _ tw_1885) (fun _ h9 => h9) rfl (tyX12_ok 0 (by decide)) rfl rfl (Nat.le_of_ble_eq_true rfl) dX12_many_7 (fun H locs hP hD hS => ?_)
  refine lv_iload_n hx hb dX12_many_10 rfl (lv_at hl 1 rfl) ?_
  refine lv_i2l (v := (w).toInt64) hx hb dX12_many_11 rfl ?_
  refine lv_topl (fun x_1 he_x_1 => ?_)
  have hq_x_1 := z_i2l he_x_1
  have hL_w := z_full w
  refine lv_lconst (v := 0) hx hb dX12_many_12 (by decide) ?_
  refine lv_ldc2 (v := 10) hx hb hown (hts _ tw_2259) dX12_many_13 ?_
  refine z_callSi (As := [.long x_1, .long 0, .long 10]) (rest := []) (wr := [(h0, .inr (12, [.int 0, .int 0, .long m_above, .long m_under, .ref a_traySort, .ref a_trayMany, .ref a_numbers, .ref a_tape, .int m_taped, .int m_textEnd, .int m_faultKind, .int m_faultAt, .int m_bad, .int m_badAt, .int m_token, .int m_at, .int m_behind, .int m_number, .int m_letters, .long m_word, .ref a_c, .ref a_words, .int m_markMany, .ref a_there, .ref a_tried, .ref a_best, .ref a_found, .int m_thereMany, .int m_foundMany, .int m_orderHow, .int m_orderRing, .int m_orderMany, .int m_hasBest, .long m_bestTop, .long m_bestBy, .ref a_weights, .ref a_shared, .int m_random, .int m_truePlace, .int m_trueWay, .int m_seconds, .int m_done, .int m_feelings, .int m_tries, .int m_leftOver, .int m_playDoor, .int m_playRing, .int m_isOpen, .int m_isOver, .int m_wasTried, .int m_hasPlayed, .ref a_feltNow, .ref a_last, .ref a_kept, .int m_hasSeconds, .int m_hasTurned, .int m_hasRound, .ref a_hasFeels, .ref a_isOn, .int m_firstAct, .long m_meanTop, .long m_meanBy, .ref a_order, .int m_rowMany, .int m_newSteps])), (a_c, .inl (cA.1 0, 1825, .inl g_c))]) ⟨hx, hb, hml, hown, hts⟩ hK hE hT hP hD hS hA (r_isIn l G cA x_1 0 10) lk_RX12_117 ⟨rfl, rfl⟩ ⟨Nat.le_of_ble_eq_true rfl, Nat.le_of_ble_eq_true rfl⟩ [] [0, 1] rfl rfl (by decide) rfl hl.1 rfl (lv_room (Nat.le_of_ble_eq_true rfl)) dX12_many_16 ⟨Nat.le_of_ble_eq_true rfl, Nat.le_of_ble_eq_true rfl⟩ (fun r_2 u_3 H locs hw hP hD hS => ?_)
  rcases hw with ⟨rfl, hf_4⟩ | ⟨rfl, hf_5⟩
  · skip
    refine lv_if_eq (tgt := 31) hx hb dX12_many_19 (by decide) (fun _ => ?_) (fun h9 => absurd (by decide +kernel) h9)
    refine lv_aload_n hx hb dX12_many_31 rfl (lv_at hl 0 rfl) ?_
    refine lv_iconst (v := 5) hx hb dX12_many_32 (by decide) ?_
    refine z_callVi (As := [.int 5]) (rest := []) (wr := [(a_c, .inl (cA.1 0, 1825, .inl g_c))]) ⟨hx, hb, hml, hown, hts⟩ hK hE hT hP hD hS hA (r_refuse l G cA h0 0 0 m_above m_under a_traySort a_trayMany a_numbers a_tape m_taped m_textEnd m_faultKind m_faultAt m_bad m_badAt m_token m_at m_behind m_number m_letters m_word a_c a_words m_markMany a_there a_tried a_best a_found m_thereMany m_foundMany m_orderHow m_orderRing m_orderMany m_hasBest m_bestTop m_bestBy a_weights a_shared m_random m_truePlace m_trueWay m_seconds m_done m_feelings m_tries m_leftOver m_playDoor m_playRing m_isOpen m_isOver m_wasTried m_hasPlayed a_feltNow a_last a_kept m_hasSeconds m_hasTurned m_hasRound a_hasFeels a_isOn m_firstAct m_meanTop m_meanBy a_order m_rowMany m_newSteps 5) lk_RX12_269 ⟨rfl, rfl⟩ ⟨Nat.le_of_ble_eq_true rfl, Nat.le_of_ble_eq_true rfl⟩ 12 rfl rfl rfl [0] [1] rfl rfl (by decide) rfl hl.1 rfl (lv_room (Nat.le_of_ble_eq_true rfl)) dX12_many_33 ⟨Nat.le_of_ble_eq_true rfl, Nat.le_of_ble_eq_true rfl⟩ (fun r_7 u_8 H locs hw hP hD hS => ?_)
    obtain ⟨n_6, rfl⟩ : ∃ z, z = u_8 := ⟨_, rfl⟩
    have hr_r_7 := hw
    have hpost : (0 ≤ (0 : Int32).toInt ∧ (0 : Int32).toInt ≤ 0) := (by decide +kernel)
    exact hret _ _ _ _ _ _ (n_6, 0) [1, 0] hP hD hS rfl (by decide) dX12_many_36 hpost
  · skip
    refine lv_if_eq (tgt := 31) hx hb dX12_many_19 (by decide) (fun h9 => absurd h9 (by decide +kernel)) (fun _ => ?_)
    refine lv_aload_n hx hb dX12_many_22 rfl (lv_at hl 0 rfl) ?_
    refine va_get (D := G) (ci := 12) (v := .ref a_c) (C := RX12) (T := TX12) (N := 65) hx hb hts inT12 hown hK hP 0 rfl rfl 20 (by decide) (hts _ tw_1905) (fun _ h9 => h9) rfl dX12_many_23 ?_
    refine lv_iload_n hx hb dX12_many_26 rfl (lv_at hl 1 rfl) ?_
    refine va_iald hx hb hK hP 1 0 rfl rfl (z_inN (by omega) (by omega)) dX12_many_27 ?_
    refine lv_topi (fun x_9 he_x_9 => ?_)
    refine lv_goto (tgt := 36) hx hb dX12_many_28 (by decide) ?_
    have hpost : (0 ≤ (0 : Int32).toInt ∧ (0 : Int32).toInt ≤ 0) := (by decide +kernel)
    exact hret _ _ _ _ _ _ (0, 0) [0, 1] hP hD hS rfl (by decide) dX12_many_36 hpost
set_option maxHeartbeats 4000000 in
set_option maxRecDepth 100000 in
theorem r_feature (l : Launch) (G : va_G) (cA : zCA) (h0 : Nat) (m_status : Int32) (m_thrown : Int32) (m_above : Int64) (m_under : Int64) (a_traySort : Nat) (a_trayMany : Nat) (a_numbers : Nat) (a_tape : Nat) (m_taped : Int32) (m_textEnd : Int32) (m_faultKind : Int32) (m_faultAt : Int32) (m_bad : Int32) (m_badAt : Int32) (m_token : Int32) (m_at : Int32) (m_behind : Int32) (m_number : Int32) (m_letters : Int32) (m_word : Int64) (a_c : Nat) (a_words : Nat) (m_markMany : Int32) (a_there : Nat) (a_tried : Nat) (a_best : Nat) (a_found : Nat) (m_thereMany : Int32) (m_foundMany : Int32) (m_orderHow : Int32) (m_orderRing : Int32) (m_orderMany : Int32) (m_hasBest : Int32) (m_bestTop : Int64) (m_bestBy : Int64) (a_weights : Nat) (a_shared : Nat) (m_random : Int32) (m_truePlace : Int32) (m_trueWay : Int32) (m_seconds : Int32) (m_done : Int32) (m_feelings : Int32) (m_tries : Int32) (m_leftOver : Int32) (m_playDoor : Int32) (m_playRing : Int32) (m_isOpen : Int32) (m_isOver : Int32) (m_wasTried : Int32) (m_hasPlayed : Int32) (a_feltNow : Nat) (a_last : Nat) (a_kept : Nat) (m_hasSeconds : Int32) (m_hasTurned : Int32) (m_hasRound : Int32) (a_hasFeels : Nat) (a_isOn : Nat) (m_firstAct : Int32) (m_meanTop : Int64) (m_meanBy : Int64) (a_order : Nat) (m_rowMany : Int32) (m_newSteps : Int32) (g_c : Nat → Int32) (f : Int32) (w : Int32) (hC_g_c : zC g_c) : zCi l yX12_feature cX12_feature 3 (some .int) ({ frames := 2, cells := 0, slots := 0, locals := 46 }) G cA [.ref h0, .int f, .int w] [(h0, .inr (12, [.int m_status, .int m_thrown, .long m_above, .long m_under, .ref a_traySort, .ref a_trayMany, .ref a_numbers, .ref a_tape, .int m_taped, .int m_textEnd, .int m_faultKind, .int m_faultAt, .int m_bad, .int m_badAt, .int m_token, .int m_at, .int m_behind, .int m_number, .int m_letters, .long m_word, .ref a_c, .ref a_words, .int m_markMany, .ref a_there, .ref a_tried, .ref a_best, .ref a_found, .int m_thereMany, .int m_foundMany, .int m_orderHow, .int m_orderRing, .int m_orderMany, .int m_hasBest, .long m_bestTop, .long m_bestBy, .ref a_weights, .ref a_shared, .int m_random, .int m_truePlace, .int m_trueWay, .int m_seconds, .int m_done, .int m_feelings, .int m_tries, .int m_leftOver, .int m_playDoor, .int m_playRing, .int m_isOpen, .int m_isOver, .int m_wasTried, .int m_hasPlayed, .ref a_feltNow, .ref a_last, .ref a_kept, .int m_hasSeconds, .int m_hasTurned, .int m_hasRound, .ref a_hasFeels, .ref a_isOn, .int m_firstAct, .long m_meanTop, .long m_meanBy, .ref a_order, .int m_rowMany, .int m_newSteps])), (a_c, .inl (cA.1 0, 1825, .inl g_c))] (S := Int32 × Int32) (fun (r : Int32) (u : Int32 × Int32) => (0 ≤ u.2.toInt ∧ u.2.toInt ≤ 0)) (fun (u : Int32 × Int32) => [(h0, .inr (12, [.int u.1, .int u.2, .long m_above, .long m_under, .ref a_traySort, .ref a_trayMany, .ref a_numbers, .ref a_tape, .int m_taped, .int m_textEnd, .int m_faultKind, .int m_faultAt, .int m_bad, .int m_badAt, .int m_token, .int m_at, .int m_behind, .int m_number, .int m_letters, .long m_word, .ref a_c, .ref a_words, .int m_markMany, .ref a_there, .ref a_tried, .ref a_best, .ref a_found, .int m_thereMany, .int m_foundMany, .int m_orderHow, .int m_orderRing, .int m_orderMany, .int m_hasBest, .long m_bestTop, .long m_bestBy, .ref a_weights, .ref a_shared, .int m_random, .int m_truePlace, .int m_trueWay, .int m_seconds, .int m_done, .int m_feelings, .int m_tries, .int m_leftOver, .int m_playDoor, .int m_playRing, .int m_isOpen, .int m_isOver, .int m_wasTried, .int m_hasPlayed, .ref a_feltNow, .ref a_last, .ref a_kept, .int m_hasSeconds, .int m_hasTurned, .int m_hasRound, .ref a_hasFeels, .ref a_isOn, .int m_firstAct, .long m_meanTop, .long m_meanBy, .ref a_order, .int m_rowMany, .int m_newSteps])), (a_c, .inl (cA.1 0, 1825, .inl g_c))]) 0 0 := by
  have hk_0 : (0 : Int32).toInt = 0 := by decide +kernel
  have hk_1 : (1 : Int32).toInt = 1 := by decide +kernel
  have hk_2 : (2 : Int32).toInt = 2 := by decide +kernel
  have hk_5 : (5 : Int32).toInt = 5 := by decide +kernel
  have hk_11 : (11 : Int32).toInt = 11 := by decide +kernel
  have hk_14 : (14 : Int32).toInt = 14 := by decide +kernel
  refine z_start2i (own := RX12) (by decide) (Nat.le_of_ble_eq_true rfl) rfl ?_
  intro p e s m args below meth c A ls Q hx hb hml hts hown hK hE hT hP hD hS hA hl hret
  have hl : lv_has ls 3 [(0, .ref h0), (1, .int f), (2, .int w)] := hl
  refine lv_aload_n hx hb dX12_feature_0 rfl (lv_at hl 0 rfl) ?_
  refine lv_iconst (v := 0) hx hb dX12_feature_1 (by decide) ?_
  refine va_put (D := G) (ci := 12) (v := .int 0) (ty := .int) (C := RX12) (T := TX12) (N := 65) hx hb hts inT12 tyX12 tyX12_ok nmX12 hown hK hP hD hS 0 rfl rfl 1 (by decide) (hts _ tw_1886) (fun _ h9 => h9) rfl (tyX12_ok 1 (by decide)) rfl rfl (Nat.le_of_ble_eq_true rfl) dX12_feature_2 (fun H locs hP hD hS => ?_)
  refine lv_aload_n hx hb dX12_feature_5 rfl (lv_at hl 0 rfl) ?_
  refine lv_iconst (v := 0) hx hb dX12_feature_6 (by decide) ?_
  refine va_put (D := G) (ci := 12) (v := .int 0) (ty := .int) (C := RX12) (T := TX12) (N := 65) hx hb hts inT12 tyX12 tyX12_ok nmX12 hown hK hP hD hS 0 rfl rfl 0 (by decide) (hts _ tw_1885) (fun _ h9 => h9) rfl (tyX12_ok 0 (by decide)) rfl rfl (Nat.le_of_ble_eq_true rfl) dX12_feature_7 (fun H locs hP hD hS => ?_)
  refine lv_aload_n hx hb dX12_feature_10 rfl (lv_at hl 0 rfl) ?_
  refine lv_iload_n hx hb dX12_feature_11 rfl (lv_at hl 1 rfl) ?_
  refine z_callVi (As := [.int f]) (rest := []) (wr := []) ⟨hx, hb, hml, hown, hts⟩ hK hE hT hP hD hS hA (r_isFeature l G cA h0 0 0 m_above m_under a_traySort a_trayMany a_numbers a_tape m_taped m_textEnd m_faultKind m_faultAt m_bad m_badAt m_token m_at m_behind m_number m_letters m_word a_c a_words m_markMany a_there a_tried a_best a_found m_thereMany m_foundMany m_orderHow m_orderRing m_orderMany m_hasBest m_bestTop m_bestBy a_weights a_shared m_random m_truePlace m_trueWay m_seconds m_done m_feelings m_tries m_leftOver m_playDoor m_playRing m_isOpen m_isOver m_wasTried m_hasPlayed a_feltNow a_last a_kept m_hasSeconds m_hasTurned m_hasRound a_hasFeels a_isOn m_firstAct m_meanTop m_meanBy a_order m_rowMany m_newSteps g_c f hC_g_c) lk_RX12_264 ⟨rfl, rfl⟩ ⟨Nat.le_of_ble_eq_true rfl, Nat.le_of_ble_eq_true rfl⟩ 12 rfl rfl rfl [0, 1] [] rfl rfl (by decide) rfl hl.1 rfl (lv_room (Nat.le_of_ble_eq_true rfl)) dX12_feature_12 ⟨Nat.le_of_ble_eq_true rfl, Nat.le_of_ble_eq_true rfl⟩ (fun r_1 u_2 H locs hw hP hD hS => ?_)
  rcases hw with ⟨rfl, -⟩ | ⟨rfl, hf_3, hf_4⟩
  · skip
    refine lv_if_ne (tgt := 24) hx hb dX12_feature_15 (by decide) (fun h9 => absurd (by decide +kernel) h9) (fun _ => ?_)
    refine lv_aload_n hx hb dX12_feature_18 rfl (lv_at hl 0 rfl) ?_
    refine lv_iconst (v := 2) hx hb dX12_feature_19 (by decide) ?_
    refine z_callVi (As := [.int 2]) (rest := []) (wr := [(a_c, .inl (cA.1 0, 1825, .inl g_c))]) ⟨hx, hb, hml, hown, hts⟩ hK hE hT hP hD hS hA (r_refuse l G cA h0 0 0 m_above m_under a_traySort a_trayMany a_numbers a_tape m_taped m_textEnd m_faultKind m_faultAt m_bad m_badAt m_token m_at m_behind m_number m_letters m_word a_c a_words m_markMany a_there a_tried a_best a_found m_thereMany m_foundMany m_orderHow m_orderRing m_orderMany m_hasBest m_bestTop m_bestBy a_weights a_shared m_random m_truePlace m_trueWay m_seconds m_done m_feelings m_tries m_leftOver m_playDoor m_playRing m_isOpen m_isOver m_wasTried m_hasPlayed a_feltNow a_last a_kept m_hasSeconds m_hasTurned m_hasRound a_hasFeels a_isOn m_firstAct m_meanTop m_meanBy a_order m_rowMany m_newSteps 2) lk_RX12_269 ⟨rfl, rfl⟩ ⟨Nat.le_of_ble_eq_true rfl, Nat.le_of_ble_eq_true rfl⟩ 12 rfl rfl rfl [0] [1] rfl rfl (by decide) rfl hl.1 rfl (lv_room (Nat.le_of_ble_eq_true rfl)) dX12_feature_20 ⟨Nat.le_of_ble_eq_true rfl, Nat.le_of_ble_eq_true rfl⟩ (fun r_6 u_7 H locs hw hP hD hS => ?_)
    obtain ⟨n_5, rfl⟩ : ∃ z, z = u_7 := ⟨_, rfl⟩
    have hr_r_6 := hw
    have hpost : (0 ≤ (0 : Int32).toInt ∧ (0 : Int32).toInt ≤ 0) := (by decide +kernel)
    exact hret _ _ _ _ _ _ (n_5, 0) [1, 0] hP hD hS rfl (by decide) dX12_feature_23 hpost
  · skip
    refine lv_if_ne (tgt := 24) hx hb dX12_feature_15 (by decide) (fun _ => ?_) (fun h9 => absurd h9 (by decide +kernel))
    refine lv_iload_n hx hb dX12_feature_24 rfl (lv_at hl 2 rfl) ?_
    refine lv_if_ne (tgt := 40) hx hb dX12_feature_25 (by decide) (fun c_8 => ?_) (fun c_8 => ?_)
    · have b_9 := z_fneT c_8
      refine lv_iload_n hx hb dX12_feature_40 rfl (lv_at hl 2 rfl) ?_
      refine lv_iconst (v := 1) hx hb dX12_feature_41 (by decide) ?_
      refine lv_icmp_ne (tgt := 57) hx hb dX12_feature_42 (by decide) (fun c_10 => ?_) (fun c_10 => ?_)
      · have b_11 := z_fneT c_10
        refine lv_aload_n hx hb dX12_feature_57 rfl (lv_at hl 0 rfl) ?_
        refine lv_iconst (v := 5) hx hb dX12_feature_58 (by decide) ?_
        refine z_callVi (As := [.int 5]) (rest := []) (wr := [(a_c, .inl (cA.1 0, 1825, .inl g_c))]) ⟨hx, hb, hml, hown, hts⟩ hK hE hT hP hD hS hA (r_refuse l G cA h0 0 0 m_above m_under a_traySort a_trayMany a_numbers a_tape m_taped m_textEnd m_faultKind m_faultAt m_bad m_badAt m_token m_at m_behind m_number m_letters m_word a_c a_words m_markMany a_there a_tried a_best a_found m_thereMany m_foundMany m_orderHow m_orderRing m_orderMany m_hasBest m_bestTop m_bestBy a_weights a_shared m_random m_truePlace m_trueWay m_seconds m_done m_feelings m_tries m_leftOver m_playDoor m_playRing m_isOpen m_isOver m_wasTried m_hasPlayed a_feltNow a_last a_kept m_hasSeconds m_hasTurned m_hasRound a_hasFeels a_isOn m_firstAct m_meanTop m_meanBy a_order m_rowMany m_newSteps 5) lk_RX12_269 ⟨rfl, rfl⟩ ⟨Nat.le_of_ble_eq_true rfl, Nat.le_of_ble_eq_true rfl⟩ 12 rfl rfl rfl [0] [1] rfl rfl (by decide) rfl hl.1 rfl (lv_room (Nat.le_of_ble_eq_true rfl)) dX12_feature_59 ⟨Nat.le_of_ble_eq_true rfl, Nat.le_of_ble_eq_true rfl⟩ (fun r_13 u_14 H locs hw hP hD hS => ?_)
        obtain ⟨n_12, rfl⟩ : ∃ z, z = u_14 := ⟨_, rfl⟩
        have hr_r_13 := hw
        have hpost : (0 ≤ (0 : Int32).toInt ∧ (0 : Int32).toInt ≤ 0) := (by decide +kernel)
        exact hret _ _ _ _ _ _ (n_12, 0) [1, 0] hP hD hS rfl (by decide) dX12_feature_62 hpost
      · have b_15 := z_feqF c_10
        refine lv_aload_n hx hb dX12_feature_45 rfl (lv_at hl 0 rfl) ?_
        refine va_get (D := G) (ci := 12) (v := .ref a_c) (C := RX12) (T := TX12) (N := 65) hx hb hts inT12 hown hK hP 0 rfl rfl 20 (by decide) (hts _ tw_1905) (fun _ h9 => h9) rfl dX12_feature_46 ?_
        refine lv_bipush (v := 14) hx hb dX12_feature_49 (by decide) ?_
        refine lv_iload_n hx hb dX12_feature_51 rfl (lv_at hl 1 rfl) ?_
        refine lv_iadd hx hb dX12_feature_52 ?_
        refine lv_topi (fun x_16 he_x_16 => ?_)
        have hq_x_16 := z_addq he_x_16 hk_14 (rfl : f.toInt = _) (by omega) (by omega)
        refine va_iald hx hb hK hP 1 0 rfl rfl (z_inN (by omega) (by omega)) dX12_feature_53 ?_
        refine lv_topi (fun x_17 he_x_17 => ?_)
        refine lv_goto (tgt := 62) hx hb dX12_feature_54 (by decide) ?_
        have hpost : (0 ≤ (0 : Int32).toInt ∧ (0 : Int32).toInt ≤ 0) := (by decide +kernel)
        exact hret _ _ _ _ _ _ (0, 0) [0, 1] hP hD hS rfl (by decide) dX12_feature_62 hpost
    · have b_18 := z_feqF c_8
      refine lv_aload_n hx hb dX12_feature_28 rfl (lv_at hl 0 rfl) ?_
      refine va_get (D := G) (ci := 12) (v := .ref a_c) (C := RX12) (T := TX12) (N := 65) hx hb hts inT12 hown hK hP 0 rfl rfl 20 (by decide) (hts _ tw_1905) (fun _ h9 => h9) rfl dX12_feature_29 ?_
      refine lv_bipush (v := 11) hx hb dX12_feature_32 (by decide) ?_
      refine lv_iload_n hx hb dX12_feature_34 rfl (lv_at hl 1 rfl) ?_
      refine lv_iadd hx hb dX12_feature_35 ?_
      refine lv_topi (fun x_19 he_x_19 => ?_)
      have hq_x_19 := z_addq he_x_19 hk_11 (rfl : f.toInt = _) (by omega) (by omega)
      refine va_iald hx hb hK hP 1 0 rfl rfl (z_inN (by omega) (by omega)) dX12_feature_36 ?_
      refine lv_topi (fun x_20 he_x_20 => ?_)
      have hr_x_20 := z_ct hC_g_c he_x_20 (a := 11) (b := 13) (lo := 0) (hi := 4) (by decide +kernel) (by decide) (by omega) (by omega)
      refine lv_goto (tgt := 62) hx hb dX12_feature_37 (by decide) ?_
      have hpost : (0 ≤ (0 : Int32).toInt ∧ (0 : Int32).toInt ≤ 0) := (by decide +kernel)
      exact hret _ _ _ _ _ _ (0, 0) [0, 1] hP hD hS rfl (by decide) dX12_feature_62 hpost
set_option maxHeartbeats 4000000 in
set_option maxRecDepth 100000 in
theorem r_feels (l : Launch) (G : va_G) (cA : zCA) (h0 : Nat) (m_status : Int32) (m_thrown : Int32) (m_above : Int64) (m_under : Int64) (a_traySort : Nat) (a_trayMany : Nat) (a_numbers : Nat) (a_tape : Nat) (m_taped : Int32) (m_textEnd : Int32) (m_faultKind : Int32) (m_faultAt : Int32) (m_bad : Int32) (m_badAt : Int32) (m_token : Int32) (m_at : Int32) (m_behind : Int32) (m_number : Int32) (m_letters : Int32) (m_word : Int64) (a_c : Nat) (a_words : Nat) (m_markMany : Int32) (a_there : Nat) (a_tried : Nat) (a_best : Nat) (a_found : Nat) (m_thereMany : Int32) (m_foundMany : Int32) (m_orderHow : Int32) (m_orderRing : Int32) (m_orderMany : Int32) (m_hasBest : Int32) (m_bestTop : Int64) (m_bestBy : Int64) (a_weights : Nat) (a_shared : Nat) (m_random : Int32) (m_truePlace : Int32) (m_trueWay : Int32) (m_seconds : Int32) (m_done : Int32) (m_feelings : Int32) (m_tries : Int32) (m_leftOver : Int32) (m_playDoor : Int32) (m_playRing : Int32) (m_isOpen : Int32) (m_isOver : Int32) (m_wasTried : Int32) (m_hasPlayed : Int32) (a_feltNow : Nat) (a_last : Nat) (a_kept : Nat) (m_hasSeconds : Int32) (m_hasTurned : Int32) (m_hasRound : Int32) (a_hasFeels : Nat) (a_isOn : Nat) (m_firstAct : Int32) (m_meanTop : Int64) (m_meanBy : Int64) (a_order : Nat) (m_rowMany : Int32) (m_newSteps : Int32) (g_c : Nat → Int32) (f : Int32) (ss : Int32) (v : Int32) (hC_g_c : zC g_c) : zCi l yX12_feels cX12_feels 4 (some .int) ({ frames := 3, cells := 0, slots := 0, locals := 68 }) G cA [.ref h0, .int f, .int ss, .int v] [(h0, .inr (12, [.int m_status, .int m_thrown, .long m_above, .long m_under, .ref a_traySort, .ref a_trayMany, .ref a_numbers, .ref a_tape, .int m_taped, .int m_textEnd, .int m_faultKind, .int m_faultAt, .int m_bad, .int m_badAt, .int m_token, .int m_at, .int m_behind, .int m_number, .int m_letters, .long m_word, .ref a_c, .ref a_words, .int m_markMany, .ref a_there, .ref a_tried, .ref a_best, .ref a_found, .int m_thereMany, .int m_foundMany, .int m_orderHow, .int m_orderRing, .int m_orderMany, .int m_hasBest, .long m_bestTop, .long m_bestBy, .ref a_weights, .ref a_shared, .int m_random, .int m_truePlace, .int m_trueWay, .int m_seconds, .int m_done, .int m_feelings, .int m_tries, .int m_leftOver, .int m_playDoor, .int m_playRing, .int m_isOpen, .int m_isOver, .int m_wasTried, .int m_hasPlayed, .ref a_feltNow, .ref a_last, .ref a_kept, .int m_hasSeconds, .int m_hasTurned, .int m_hasRound, .ref a_hasFeels, .ref a_isOn, .int m_firstAct, .long m_meanTop, .long m_meanBy, .ref a_order, .int m_rowMany, .int m_newSteps])), (a_c, .inl (cA.1 0, 1825, .inl g_c))] (S := Int32 × Int32) (fun (r : Int32) (u : Int32 × Int32) => ((-1) ≤ r.toInt ∧ r.toInt ≤ 16) ∧ (0 ≤ u.2.toInt ∧ u.2.toInt ≤ 0)) (fun (u : Int32 × Int32) => [(h0, .inr (12, [.int u.1, .int u.2, .long m_above, .long m_under, .ref a_traySort, .ref a_trayMany, .ref a_numbers, .ref a_tape, .int m_taped, .int m_textEnd, .int m_faultKind, .int m_faultAt, .int m_bad, .int m_badAt, .int m_token, .int m_at, .int m_behind, .int m_number, .int m_letters, .long m_word, .ref a_c, .ref a_words, .int m_markMany, .ref a_there, .ref a_tried, .ref a_best, .ref a_found, .int m_thereMany, .int m_foundMany, .int m_orderHow, .int m_orderRing, .int m_orderMany, .int m_hasBest, .long m_bestTop, .long m_bestBy, .ref a_weights, .ref a_shared, .int m_random, .int m_truePlace, .int m_trueWay, .int m_seconds, .int m_done, .int m_feelings, .int m_tries, .int m_leftOver, .int m_playDoor, .int m_playRing, .int m_isOpen, .int m_isOver, .int m_wasTried, .int m_hasPlayed, .ref a_feltNow, .ref a_last, .ref a_kept, .int m_hasSeconds, .int m_hasTurned, .int m_hasRound, .ref a_hasFeels, .ref a_isOn, .int m_firstAct, .long m_meanTop, .long m_meanBy, .ref a_order, .int m_rowMany, .int m_newSteps])), (a_c, .inl (cA.1 0, 1825, .inl g_c))]) 0 0 := by
  have hk_2 : (2 : Int32).toInt = 2 := by decide +kernel
  have hk_4 : (4 : Int32).toInt = 4 := by decide +kernel
  have hk_16 : (16 : Int32).toInt = 16 := by decide +kernel
  have hk_17 : (17 : Int32).toInt = 17 := by decide +kernel
  refine z_start2i (own := RX12) (by decide) (Nat.le_of_ble_eq_true rfl) rfl ?_
  intro p e s m args below meth c A ls Q hx hb hml hts hown hK hE hT hP hD hS hA hl hret
  have hl : lv_has ls 4 [(0, .ref h0), (1, .int f), (2, .int ss), (3, .int v)] := hl
  refine lv_aload_n hx hb dX12_feels_0 rfl (lv_at hl 0 rfl) ?_
  refine lv_iconst (v := 0) hx hb dX12_feels_1 (by decide) ?_
  refine va_put (D := G) (ci := 12) (v := .int 0) (ty := .int) (C := RX12) (T := TX12) (N := 65) hx hb hts inT12 tyX12 tyX12_ok nmX12 hown hK hP hD hS 0 rfl rfl 1 (by decide) (hts _ tw_1886) (fun _ h9 => h9) rfl (tyX12_ok 1 (by decide)) rfl rfl (Nat.le_of_ble_eq_true rfl) dX12_feels_2 (fun H locs hP hD hS => ?_)
  refine lv_aload_n hx hb dX12_feels_5 rfl (lv_at hl 0 rfl) ?_
  refine lv_iconst (v := 0) hx hb dX12_feels_6 (by decide) ?_
  refine va_put (D := G) (ci := 12) (v := .int 0) (ty := .int) (C := RX12) (T := TX12) (N := 65) hx hb hts inT12 tyX12 tyX12_ok nmX12 hown hK hP hD hS 0 rfl rfl 0 (by decide) (hts _ tw_1885) (fun _ h9 => h9) rfl (tyX12_ok 0 (by decide)) rfl rfl (Nat.le_of_ble_eq_true rfl) dX12_feels_7 (fun H locs hP hD hS => ?_)
  refine lv_aload_n hx hb dX12_feels_10 rfl (lv_at hl 0 rfl) ?_
  refine lv_iload_n hx hb dX12_feels_11 rfl (lv_at hl 1 rfl) ?_
  refine lv_iload_n hx hb dX12_feels_12 rfl (lv_at hl 2 rfl) ?_
  refine z_callVi (As := [.int f, .int ss]) (rest := []) (wr := []) ⟨hx, hb, hml, hown, hts⟩ hK hE hT hP hD hS hA (r_isStep l G cA h0 0 0 m_above m_under a_traySort a_trayMany a_numbers a_tape m_taped m_textEnd m_faultKind m_faultAt m_bad m_badAt m_token m_at m_behind m_number m_letters m_word a_c a_words m_markMany a_there a_tried a_best a_found m_thereMany m_foundMany m_orderHow m_orderRing m_orderMany m_hasBest m_bestTop m_bestBy a_weights a_shared m_random m_truePlace m_trueWay m_seconds m_done m_feelings m_tries m_leftOver m_playDoor m_playRing m_isOpen m_isOver m_wasTried m_hasPlayed a_feltNow a_last a_kept m_hasSeconds m_hasTurned m_hasRound a_hasFeels a_isOn m_firstAct m_meanTop m_meanBy a_order m_rowMany m_newSteps g_c f ss hC_g_c) lk_RX12_272 ⟨rfl, rfl⟩ ⟨Nat.le_of_ble_eq_true rfl, Nat.le_of_ble_eq_true rfl⟩ 12 rfl rfl rfl [0, 1] [] rfl rfl (by decide) rfl hl.1 rfl (lv_room (Nat.le_of_ble_eq_true rfl)) dX12_feels_13 ⟨Nat.le_of_ble_eq_true rfl, Nat.le_of_ble_eq_true rfl⟩ (fun r_1 u_2 H locs hw hP hD hS => ?_)
  rcases hw with ⟨rfl, -⟩ | ⟨rfl, hf_3, hf_4⟩
  · skip
    refine lv_if_eq (tgt := 49) hx hb dX12_feels_16 (by decide) (fun _ => ?_) (fun h9 => absurd (by decide +kernel) h9)
    refine lv_aload_n hx hb dX12_feels_49 rfl (lv_at hl 0 rfl) ?_
    refine lv_iconst (v := 2) hx hb dX12_feels_50 (by decide) ?_
    refine z_callVi (As := [.int 2]) (rest := []) (wr := [(a_c, .inl (cA.1 0, 1825, .inl g_c))]) ⟨hx, hb, hml, hown, hts⟩ hK hE hT hP hD hS hA (r_refuse l G cA h0 0 0 m_above m_under a_traySort a_trayMany a_numbers a_tape m_taped m_textEnd m_faultKind m_faultAt m_bad m_badAt m_token m_at m_behind m_number m_letters m_word a_c a_words m_markMany a_there a_tried a_best a_found m_thereMany m_foundMany m_orderHow m_orderRing m_orderMany m_hasBest m_bestTop m_bestBy a_weights a_shared m_random m_truePlace m_trueWay m_seconds m_done m_feelings m_tries m_leftOver m_playDoor m_playRing m_isOpen m_isOver m_wasTried m_hasPlayed a_feltNow a_last a_kept m_hasSeconds m_hasTurned m_hasRound a_hasFeels a_isOn m_firstAct m_meanTop m_meanBy a_order m_rowMany m_newSteps 2) lk_RX12_269 ⟨rfl, rfl⟩ ⟨Nat.le_of_ble_eq_true rfl, Nat.le_of_ble_eq_true rfl⟩ 12 rfl rfl rfl [0] [1] rfl rfl (by decide) rfl hl.1 rfl (lv_room (Nat.le_of_ble_eq_true rfl)) dX12_feels_51 ⟨Nat.le_of_ble_eq_true rfl, Nat.le_of_ble_eq_true rfl⟩ (fun r_6 u_7 H locs hw hP hD hS => ?_)
    obtain ⟨n_5, rfl⟩ : ∃ z, z = u_7 := ⟨_, rfl⟩
    have hr_r_6 := hw
    have hpost : ((-1) ≤ r_6.toInt ∧ r_6.toInt ≤ 16) ∧ (0 ≤ (0 : Int32).toInt ∧ (0 : Int32).toInt ≤ 0) := ⟨(z_rgw hr_r_6 (by decide) (by decide)), (by decide +kernel)⟩
    exact hret _ _ _ _ _ _ (n_5, 0) [1, 0] hP hD hS rfl (by decide) dX12_feels_54 hpost
  · skip
    refine lv_if_eq (tgt := 49) hx hb dX12_feels_16 (by decide) (fun h9 => absurd h9 (by decide +kernel)) (fun _ => ?_)
    refine lv_aload_n hx hb dX12_feels_19 rfl (lv_at hl 0 rfl) ?_
    refine lv_iload_n hx hb dX12_feels_20 rfl (lv_at hl 1 rfl) ?_
    refine lv_iload_n hx hb dX12_feels_21 rfl (lv_at hl 3 rfl) ?_
    refine z_callVi (As := [.int f, .int v]) (rest := []) (wr := []) ⟨hx, hb, hml, hown, hts⟩ hK hE hT hP hD hS hA (r_isStep l G cA h0 0 0 m_above m_under a_traySort a_trayMany a_numbers a_tape m_taped m_textEnd m_faultKind m_faultAt m_bad m_badAt m_token m_at m_behind m_number m_letters m_word a_c a_words m_markMany a_there a_tried a_best a_found m_thereMany m_foundMany m_orderHow m_orderRing m_orderMany m_hasBest m_bestTop m_bestBy a_weights a_shared m_random m_truePlace m_trueWay m_seconds m_done m_feelings m_tries m_leftOver m_playDoor m_playRing m_isOpen m_isOver m_wasTried m_hasPlayed a_feltNow a_last a_kept m_hasSeconds m_hasTurned m_hasRound a_hasFeels a_isOn m_firstAct m_meanTop m_meanBy a_order m_rowMany m_newSteps g_c f v hC_g_c) lk_RX12_272 ⟨rfl, rfl⟩ ⟨Nat.le_of_ble_eq_true rfl, Nat.le_of_ble_eq_true rfl⟩ 12 rfl rfl rfl [0, 1] [] rfl rfl (by decide) rfl hl.1 rfl (lv_room (Nat.le_of_ble_eq_true rfl)) dX12_feels_22 ⟨Nat.le_of_ble_eq_true rfl, Nat.le_of_ble_eq_true rfl⟩ (fun r_8 u_9 H locs hw hP hD hS => ?_)
    rcases hw with ⟨rfl, -⟩ | ⟨rfl, hf_10, hf_11⟩
    · skip
      refine lv_if_eq (tgt := 49) hx hb dX12_feels_25 (by decide) (fun _ => ?_) (fun h9 => absurd (by decide +kernel) h9)
      refine lv_aload_n hx hb dX12_feels_49 rfl (lv_at hl 0 rfl) ?_
      refine lv_iconst (v := 2) hx hb dX12_feels_50 (by decide) ?_
      refine z_callVi (As := [.int 2]) (rest := []) (wr := [(a_c, .inl (cA.1 0, 1825, .inl g_c))]) ⟨hx, hb, hml, hown, hts⟩ hK hE hT hP hD hS hA (r_refuse l G cA h0 0 0 m_above m_under a_traySort a_trayMany a_numbers a_tape m_taped m_textEnd m_faultKind m_faultAt m_bad m_badAt m_token m_at m_behind m_number m_letters m_word a_c a_words m_markMany a_there a_tried a_best a_found m_thereMany m_foundMany m_orderHow m_orderRing m_orderMany m_hasBest m_bestTop m_bestBy a_weights a_shared m_random m_truePlace m_trueWay m_seconds m_done m_feelings m_tries m_leftOver m_playDoor m_playRing m_isOpen m_isOver m_wasTried m_hasPlayed a_feltNow a_last a_kept m_hasSeconds m_hasTurned m_hasRound a_hasFeels a_isOn m_firstAct m_meanTop m_meanBy a_order m_rowMany m_newSteps 2) lk_RX12_269 ⟨rfl, rfl⟩ ⟨Nat.le_of_ble_eq_true rfl, Nat.le_of_ble_eq_true rfl⟩ 12 rfl rfl rfl [0] [1] rfl rfl (by decide) rfl hl.1 rfl (lv_room (Nat.le_of_ble_eq_true rfl)) dX12_feels_51 ⟨Nat.le_of_ble_eq_true rfl, Nat.le_of_ble_eq_true rfl⟩ (fun r_13 u_14 H locs hw hP hD hS => ?_)
      obtain ⟨n_12, rfl⟩ : ∃ z, z = u_14 := ⟨_, rfl⟩
      have hr_r_13 := hw
      have hpost : ((-1) ≤ r_13.toInt ∧ r_13.toInt ≤ 16) ∧ (0 ≤ (0 : Int32).toInt ∧ (0 : Int32).toInt ≤ 0) := ⟨(z_rgw hr_r_13 (by decide) (by decide)), (by decide +kernel)⟩
      exact hret _ _ _ _ _ _ (n_12, 0) [1, 0] hP hD hS rfl (by decide) dX12_feels_54 hpost
    · skip
      refine lv_if_eq (tgt := 49) hx hb dX12_feels_25 (by decide) (fun h9 => absurd h9 (by decide +kernel)) (fun _ => ?_)
      refine lv_aload_n hx hb dX12_feels_28 rfl (lv_at hl 0 rfl) ?_
      refine va_get (D := G) (ci := 12) (v := .ref a_c) (C := RX12) (T := TX12) (N := 65) hx hb hts inT12 hown hK hP 0 rfl rfl 20 (by decide) (hts _ tw_1905) (fun _ h9 => h9) rfl dX12_feels_29 ?_
      refine lv_bipush (v := 17) hx hb dX12_feels_32 (by decide) ?_
      refine lv_bipush (v := 16) hx hb dX12_feels_34 (by decide) ?_
      refine lv_iload_n hx hb dX12_feels_36 rfl (lv_at hl 1 rfl) ?_
      refine lv_imul hx hb dX12_feels_37 ?_
      refine lv_topi (fun x_15 he_x_15 => ?_)
      have hq_x_15 := z_mulq he_x_15 hk_16 (rfl : f.toInt = _) (by omega) (by omega)
      refine lv_iadd hx hb dX12_feels_38 ?_
      refine lv_topi (fun x_16 he_x_16 => ?_)
      have hq_x_16 := z_addq he_x_16 hk_17 (rfl : x_15.toInt = _) (by omega) (by omega)
      refine lv_iconst (v := 4) hx hb dX12_feels_39 (by decide) ?_
      refine lv_iload_n hx hb dX12_feels_40 rfl (lv_at hl 2 rfl) ?_
      refine lv_imul hx hb dX12_feels_41 ?_
      refine lv_topi (fun x_17 he_x_17 => ?_)
      have hq_x_17 := z_mulq he_x_17 hk_4 (rfl : ss.toInt = _) (by omega) (by omega)
      refine lv_iadd hx hb dX12_feels_42 ?_
      refine lv_topi (fun x_18 he_x_18 => ?_)
      have hq_x_18 := z_addq he_x_18 (rfl : x_16.toInt = _) (rfl : x_17.toInt = _) (by omega) (by omega)
      refine lv_iload_n hx hb dX12_feels_43 rfl (lv_at hl 3 rfl) ?_
      refine lv_iadd hx hb dX12_feels_44 ?_
      refine lv_topi (fun x_19 he_x_19 => ?_)
      have hq_x_19 := z_addq he_x_19 (rfl : x_18.toInt = _) (rfl : v.toInt = _) (by omega) (by omega)
      refine va_iald hx hb hK hP 1 0 rfl rfl (z_inN (by omega) (by omega)) dX12_feels_45 ?_
      refine lv_topi (fun x_20 he_x_20 => ?_)
      have hr_x_20 := z_ct hC_g_c he_x_20 (a := 17) (b := 64) (lo := 0) (hi := 16) (by decide +kernel) (by decide) (by omega) (by omega)
      refine lv_goto (tgt := 54) hx hb dX12_feels_46 (by decide) ?_
      have hpost : ((-1) ≤ x_20.toInt ∧ x_20.toInt ≤ 16) ∧ (0 ≤ (0 : Int32).toInt ∧ (0 : Int32).toInt ≤ 0) := ⟨(z_rgw hr_x_20 (by decide) (by decide)), (by decide +kernel)⟩
      exact hret _ _ _ _ _ _ (0, 0) [0, 1] hP hD hS rfl (by decide) dX12_feels_54 hpost
set_option maxHeartbeats 4000000 in
set_option maxRecDepth 100000 in
theorem r_stepOf (l : Launch) (G : va_G) (cA : zCA) (h0 : Nat) (m_status : Int32) (m_thrown : Int32) (m_above : Int64) (m_under : Int64) (a_traySort : Nat) (a_trayMany : Nat) (a_numbers : Nat) (a_tape : Nat) (m_taped : Int32) (m_textEnd : Int32) (m_faultKind : Int32) (m_faultAt : Int32) (m_bad : Int32) (m_badAt : Int32) (m_token : Int32) (m_at : Int32) (m_behind : Int32) (m_number : Int32) (m_letters : Int32) (m_word : Int64) (a_c : Nat) (a_words : Nat) (m_markMany : Int32) (a_there : Nat) (a_tried : Nat) (a_best : Nat) (a_found : Nat) (m_thereMany : Int32) (m_foundMany : Int32) (m_orderHow : Int32) (m_orderRing : Int32) (m_orderMany : Int32) (m_hasBest : Int32) (m_bestTop : Int64) (m_bestBy : Int64) (a_weights : Nat) (a_shared : Nat) (m_random : Int32) (m_truePlace : Int32) (m_trueWay : Int32) (m_seconds : Int32) (m_done : Int32) (m_feelings : Int32) (m_tries : Int32) (m_leftOver : Int32) (m_playDoor : Int32) (m_playRing : Int32) (m_isOpen : Int32) (m_isOver : Int32) (m_wasTried : Int32) (m_hasPlayed : Int32) (a_feltNow : Nat) (a_last : Nat) (a_kept : Nat) (m_hasSeconds : Int32) (m_hasTurned : Int32) (m_hasRound : Int32) (a_hasFeels : Nat) (a_isOn : Nat) (m_firstAct : Int32) (m_meanTop : Int64) (m_meanBy : Int64) (a_order : Nat) (m_rowMany : Int32) (m_newSteps : Int32) (g_c : Nat → Int32) (k : Int32) (f : Int32) (hC_g_c : zC g_c) : zCi l yX12_stepOf cX12_stepOf 3 (some .int) ({ frames := 2, cells := 0, slots := 0, locals := 47 }) G cA [.ref h0, .int k, .int f] [(h0, .inr (12, [.int m_status, .int m_thrown, .long m_above, .long m_under, .ref a_traySort, .ref a_trayMany, .ref a_numbers, .ref a_tape, .int m_taped, .int m_textEnd, .int m_faultKind, .int m_faultAt, .int m_bad, .int m_badAt, .int m_token, .int m_at, .int m_behind, .int m_number, .int m_letters, .long m_word, .ref a_c, .ref a_words, .int m_markMany, .ref a_there, .ref a_tried, .ref a_best, .ref a_found, .int m_thereMany, .int m_foundMany, .int m_orderHow, .int m_orderRing, .int m_orderMany, .int m_hasBest, .long m_bestTop, .long m_bestBy, .ref a_weights, .ref a_shared, .int m_random, .int m_truePlace, .int m_trueWay, .int m_seconds, .int m_done, .int m_feelings, .int m_tries, .int m_leftOver, .int m_playDoor, .int m_playRing, .int m_isOpen, .int m_isOver, .int m_wasTried, .int m_hasPlayed, .ref a_feltNow, .ref a_last, .ref a_kept, .int m_hasSeconds, .int m_hasTurned, .int m_hasRound, .ref a_hasFeels, .ref a_isOn, .int m_firstAct, .long m_meanTop, .long m_meanBy, .ref a_order, .int m_rowMany, .int m_newSteps])), (a_c, .inl (cA.1 0, 1825, .inl g_c))] (S := Int32 × Int32) (fun (r : Int32) (u : Int32 × Int32) => ((-1) ≤ r.toInt ∧ r.toInt ≤ 3) ∧ (0 ≤ u.2.toInt ∧ u.2.toInt ≤ 0)) (fun (u : Int32 × Int32) => [(h0, .inr (12, [.int u.1, .int u.2, .long m_above, .long m_under, .ref a_traySort, .ref a_trayMany, .ref a_numbers, .ref a_tape, .int m_taped, .int m_textEnd, .int m_faultKind, .int m_faultAt, .int m_bad, .int m_badAt, .int m_token, .int m_at, .int m_behind, .int m_number, .int m_letters, .long m_word, .ref a_c, .ref a_words, .int m_markMany, .ref a_there, .ref a_tried, .ref a_best, .ref a_found, .int m_thereMany, .int m_foundMany, .int m_orderHow, .int m_orderRing, .int m_orderMany, .int m_hasBest, .long m_bestTop, .long m_bestBy, .ref a_weights, .ref a_shared, .int m_random, .int m_truePlace, .int m_trueWay, .int m_seconds, .int m_done, .int m_feelings, .int m_tries, .int m_leftOver, .int m_playDoor, .int m_playRing, .int m_isOpen, .int m_isOver, .int m_wasTried, .int m_hasPlayed, .ref a_feltNow, .ref a_last, .ref a_kept, .int m_hasSeconds, .int m_hasTurned, .int m_hasRound, .ref a_hasFeels, .ref a_isOn, .int m_firstAct, .long m_meanTop, .long m_meanBy, .ref a_order, .int m_rowMany, .int m_newSteps])), (a_c, .inl (cA.1 0, 1825, .inl g_c))]) 0 0 := by
  have hk_2 : (2 : Int32).toInt = 2 := by decide +kernel
  have hk_3 : (3 : Int32).toInt = 3 := by decide +kernel
  have hk_65 : (65 : Int32).toInt = 65 := by decide +kernel
  refine z_start2i (own := RX12) (by decide) (Nat.le_of_ble_eq_true rfl) rfl ?_
  intro p e s m args below meth c A ls Q hx hb hml hts hown hK hE hT hP hD hS hA hl hret
  have hl : lv_has ls 3 [(0, .ref h0), (1, .int k), (2, .int f)] := hl
  refine lv_aload_n hx hb dX12_stepOf_0 rfl (lv_at hl 0 rfl) ?_
  refine lv_iconst (v := 0) hx hb dX12_stepOf_1 (by decide) ?_
  refine va_put (D := G) (ci := 12) (v := .int 0) (ty := .int) (C := RX12) (T := TX12) (N := 65) hx hb hts inT12 tyX12 tyX12_ok nmX12 hown hK hP hD hS 0 rfl rfl 1 (by decide) (hts _ tw_1886) (fun _ h9 => h9) rfl (tyX12_ok 1 (by decide)) rfl rfl (Nat.le_of_ble_eq_true rfl) dX12_stepOf_2 (fun H locs hP hD hS => ?_)
  refine lv_aload_n hx hb dX12_stepOf_5 rfl (lv_at hl 0 rfl) ?_
  refine lv_iconst (v := 0) hx hb dX12_stepOf_6 (by decide) ?_
  refine va_put (D := G) (ci := 12) (v := .int 0) (ty := .int) (C := RX12) (T := TX12) (N := 65) hx hb hts inT12 tyX12 tyX12_ok nmX12 hown hK hP hD hS 0 rfl rfl 0 (by decide) (hts _ tw_1885) (fun _ h9 => h9) rfl (tyX12_ok 0 (by decide)) rfl rfl (Nat.le_of_ble_eq_true rfl) dX12_stepOf_7 (fun H locs hP hD hS => ?_)
  refine lv_aload_n hx hb dX12_stepOf_10 rfl (lv_at hl 0 rfl) ?_
  refine lv_iload_n hx hb dX12_stepOf_11 rfl (lv_at hl 1 rfl) ?_
  refine lv_i2l (v := (k).toInt64) hx hb dX12_stepOf_12 rfl ?_
  refine lv_topl (fun x_1 he_x_1 => ?_)
  have hq_x_1 := z_i2l he_x_1
  have hL_k := z_full k
  refine z_callVi (As := [.long x_1]) (rest := []) (wr := []) ⟨hx, hb, hml, hown, hts⟩ hK hE hT hP hD hS hA (r_isKey l G cA h0 0 0 m_above m_under a_traySort a_trayMany a_numbers a_tape m_taped m_textEnd m_faultKind m_faultAt m_bad m_badAt m_token m_at m_behind m_number m_letters m_word a_c a_words m_markMany a_there a_tried a_best a_found m_thereMany m_foundMany m_orderHow m_orderRing m_orderMany m_hasBest m_bestTop m_bestBy a_weights a_shared m_random m_truePlace m_trueWay m_seconds m_done m_feelings m_tries m_leftOver m_playDoor m_playRing m_isOpen m_isOver m_wasTried m_hasPlayed a_feltNow a_last a_kept m_hasSeconds m_hasTurned m_hasRound a_hasFeels a_isOn m_firstAct m_meanTop m_meanBy a_order m_rowMany m_newSteps g_c x_1 hC_g_c) lk_RX12_275 ⟨rfl, rfl⟩ ⟨Nat.le_of_ble_eq_true rfl, Nat.le_of_ble_eq_true rfl⟩ 12 rfl rfl rfl [0, 1] [] rfl rfl (by decide) rfl hl.1 rfl (lv_room (Nat.le_of_ble_eq_true rfl)) dX12_stepOf_13 ⟨Nat.le_of_ble_eq_true rfl, Nat.le_of_ble_eq_true rfl⟩ (fun r_2 u_3 H locs hw hP hD hS => ?_)
  rcases hw with ⟨rfl, -⟩ | ⟨rfl, hf_4, hf_5⟩
  · skip
    refine lv_if_eq (tgt := 43) hx hb dX12_stepOf_16 (by decide) (fun _ => ?_) (fun h9 => absurd (by decide +kernel) h9)
    refine lv_aload_n hx hb dX12_stepOf_43 rfl (lv_at hl 0 rfl) ?_
    refine lv_iconst (v := 2) hx hb dX12_stepOf_44 (by decide) ?_
    refine z_callVi (As := [.int 2]) (rest := []) (wr := [(a_c, .inl (cA.1 0, 1825, .inl g_c))]) ⟨hx, hb, hml, hown, hts⟩ hK hE hT hP hD hS hA (r_refuse l G cA h0 0 0 m_above m_under a_traySort a_trayMany a_numbers a_tape m_taped m_textEnd m_faultKind m_faultAt m_bad m_badAt m_token m_at m_behind m_number m_letters m_word a_c a_words m_markMany a_there a_tried a_best a_found m_thereMany m_foundMany m_orderHow m_orderRing m_orderMany m_hasBest m_bestTop m_bestBy a_weights a_shared m_random m_truePlace m_trueWay m_seconds m_done m_feelings m_tries m_leftOver m_playDoor m_playRing m_isOpen m_isOver m_wasTried m_hasPlayed a_feltNow a_last a_kept m_hasSeconds m_hasTurned m_hasRound a_hasFeels a_isOn m_firstAct m_meanTop m_meanBy a_order m_rowMany m_newSteps 2) lk_RX12_269 ⟨rfl, rfl⟩ ⟨Nat.le_of_ble_eq_true rfl, Nat.le_of_ble_eq_true rfl⟩ 12 rfl rfl rfl [0] [1] rfl rfl (by decide) rfl hl.1 rfl (lv_room (Nat.le_of_ble_eq_true rfl)) dX12_stepOf_45 ⟨Nat.le_of_ble_eq_true rfl, Nat.le_of_ble_eq_true rfl⟩ (fun r_7 u_8 H locs hw hP hD hS => ?_)
    obtain ⟨n_6, rfl⟩ : ∃ z, z = u_8 := ⟨_, rfl⟩
    have hr_r_7 := hw
    have hpost : ((-1) ≤ r_7.toInt ∧ r_7.toInt ≤ 3) ∧ (0 ≤ (0 : Int32).toInt ∧ (0 : Int32).toInt ≤ 0) := ⟨(z_rgw hr_r_7 (by decide) (by decide)), (by decide +kernel)⟩
    exact hret _ _ _ _ _ _ (n_6, 0) [1, 0] hP hD hS rfl (by decide) dX12_stepOf_48 hpost
  · skip
    refine lv_if_eq (tgt := 43) hx hb dX12_stepOf_16 (by decide) (fun h9 => absurd h9 (by decide +kernel)) (fun _ => ?_)
    refine lv_aload_n hx hb dX12_stepOf_19 rfl (lv_at hl 0 rfl) ?_
    refine lv_iload_n hx hb dX12_stepOf_20 rfl (lv_at hl 2 rfl) ?_
    refine z_callVi (As := [.int f]) (rest := []) (wr := []) ⟨hx, hb, hml, hown, hts⟩ hK hE hT hP hD hS hA (r_isFeature l G cA h0 0 0 m_above m_under a_traySort a_trayMany a_numbers a_tape m_taped m_textEnd m_faultKind m_faultAt m_bad m_badAt m_token m_at m_behind m_number m_letters m_word a_c a_words m_markMany a_there a_tried a_best a_found m_thereMany m_foundMany m_orderHow m_orderRing m_orderMany m_hasBest m_bestTop m_bestBy a_weights a_shared m_random m_truePlace m_trueWay m_seconds m_done m_feelings m_tries m_leftOver m_playDoor m_playRing m_isOpen m_isOver m_wasTried m_hasPlayed a_feltNow a_last a_kept m_hasSeconds m_hasTurned m_hasRound a_hasFeels a_isOn m_firstAct m_meanTop m_meanBy a_order m_rowMany m_newSteps g_c f hC_g_c) lk_RX12_264 ⟨rfl, rfl⟩ ⟨Nat.le_of_ble_eq_true rfl, Nat.le_of_ble_eq_true rfl⟩ 12 rfl rfl rfl [0, 1] [] rfl rfl (by decide) rfl hl.1 rfl (lv_room (Nat.le_of_ble_eq_true rfl)) dX12_stepOf_21 ⟨Nat.le_of_ble_eq_true rfl, Nat.le_of_ble_eq_true rfl⟩ (fun r_9 u_10 H locs hw hP hD hS => ?_)
    rcases hw with ⟨rfl, -⟩ | ⟨rfl, hf_11, hf_12⟩
    · skip
      refine lv_if_eq (tgt := 43) hx hb dX12_stepOf_24 (by decide) (fun _ => ?_) (fun h9 => absurd (by decide +kernel) h9)
      refine lv_aload_n hx hb dX12_stepOf_43 rfl (lv_at hl 0 rfl) ?_
      refine lv_iconst (v := 2) hx hb dX12_stepOf_44 (by decide) ?_
      refine z_callVi (As := [.int 2]) (rest := []) (wr := [(a_c, .inl (cA.1 0, 1825, .inl g_c))]) ⟨hx, hb, hml, hown, hts⟩ hK hE hT hP hD hS hA (r_refuse l G cA h0 0 0 m_above m_under a_traySort a_trayMany a_numbers a_tape m_taped m_textEnd m_faultKind m_faultAt m_bad m_badAt m_token m_at m_behind m_number m_letters m_word a_c a_words m_markMany a_there a_tried a_best a_found m_thereMany m_foundMany m_orderHow m_orderRing m_orderMany m_hasBest m_bestTop m_bestBy a_weights a_shared m_random m_truePlace m_trueWay m_seconds m_done m_feelings m_tries m_leftOver m_playDoor m_playRing m_isOpen m_isOver m_wasTried m_hasPlayed a_feltNow a_last a_kept m_hasSeconds m_hasTurned m_hasRound a_hasFeels a_isOn m_firstAct m_meanTop m_meanBy a_order m_rowMany m_newSteps 2) lk_RX12_269 ⟨rfl, rfl⟩ ⟨Nat.le_of_ble_eq_true rfl, Nat.le_of_ble_eq_true rfl⟩ 12 rfl rfl rfl [0] [1] rfl rfl (by decide) rfl hl.1 rfl (lv_room (Nat.le_of_ble_eq_true rfl)) dX12_stepOf_45 ⟨Nat.le_of_ble_eq_true rfl, Nat.le_of_ble_eq_true rfl⟩ (fun r_14 u_15 H locs hw hP hD hS => ?_)
      obtain ⟨n_13, rfl⟩ : ∃ z, z = u_15 := ⟨_, rfl⟩
      have hr_r_14 := hw
      have hpost : ((-1) ≤ r_14.toInt ∧ r_14.toInt ≤ 3) ∧ (0 ≤ (0 : Int32).toInt ∧ (0 : Int32).toInt ≤ 0) := ⟨(z_rgw hr_r_14 (by decide) (by decide)), (by decide +kernel)⟩
      exact hret _ _ _ _ _ _ (n_13, 0) [1, 0] hP hD hS rfl (by decide) dX12_stepOf_48 hpost
    · skip
      refine lv_if_eq (tgt := 43) hx hb dX12_stepOf_24 (by decide) (fun h9 => absurd h9 (by decide +kernel)) (fun _ => ?_)
      refine lv_aload_n hx hb dX12_stepOf_27 rfl (lv_at hl 0 rfl) ?_
      refine va_get (D := G) (ci := 12) (v := .ref a_c) (C := RX12) (T := TX12) (N := 65) hx hb hts inT12 hown hK hP 0 rfl rfl 20 (by decide) (hts _ tw_1905) (fun _ h9 => h9) rfl dX12_stepOf_28 ?_
      refine lv_bipush (v := 65) hx hb dX12_stepOf_31 (by decide) ?_
      refine lv_iconst (v := 3) hx hb dX12_stepOf_33 (by decide) ?_
      refine lv_iload_n hx hb dX12_stepOf_34 rfl (lv_at hl 1 rfl) ?_
      refine lv_imul hx hb dX12_stepOf_35 ?_
      refine lv_topi (fun x_16 he_x_16 => ?_)
      have hq_x_16 := z_mulq he_x_16 hk_3 (rfl : k.toInt = _) (by omega) (by omega)
      refine lv_iadd hx hb dX12_stepOf_36 ?_
      refine lv_topi (fun x_17 he_x_17 => ?_)
      have hq_x_17 := z_addq he_x_17 hk_65 (rfl : x_16.toInt = _) (by omega) (by omega)
      refine lv_iload_n hx hb dX12_stepOf_37 rfl (lv_at hl 2 rfl) ?_
      refine lv_iadd hx hb dX12_stepOf_38 ?_
      refine lv_topi (fun x_18 he_x_18 => ?_)
      have hq_x_18 := z_addq he_x_18 (rfl : x_17.toInt = _) (rfl : f.toInt = _) (by omega) (by omega)
      refine va_iald hx hb hK hP 1 0 rfl rfl (z_inN (by omega) (by omega)) dX12_stepOf_39 ?_
      refine lv_topi (fun x_19 he_x_19 => ?_)
      have hr_x_19 := z_ct hC_g_c he_x_19 (a := 65) (b := 94) (lo := 0) (hi := 3) (by decide +kernel) (by decide) (by omega) (by omega)
      refine lv_goto (tgt := 48) hx hb dX12_stepOf_40 (by decide) ?_
      have hpost : ((-1) ≤ x_19.toInt ∧ x_19.toInt ≤ 3) ∧ (0 ≤ (0 : Int32).toInt ∧ (0 : Int32).toInt ≤ 0) := ⟨(z_rgw hr_x_19 (by decide) (by decide)), (by decide +kernel)⟩
      exact hret _ _ _ _ _ _ (0, 0) [0, 1] hP hD hS rfl (by decide) dX12_stepOf_48 hpost
set_option maxHeartbeats 4000000 in
set_option maxRecDepth 100000 in
theorem r_ringOf (l : Launch) (G : va_G) (cA : zCA) (h0 : Nat) (m_status : Int32) (m_thrown : Int32) (m_above : Int64) (m_under : Int64) (a_traySort : Nat) (a_trayMany : Nat) (a_numbers : Nat) (a_tape : Nat) (m_taped : Int32) (m_textEnd : Int32) (m_faultKind : Int32) (m_faultAt : Int32) (m_bad : Int32) (m_badAt : Int32) (m_token : Int32) (m_at : Int32) (m_behind : Int32) (m_number : Int32) (m_letters : Int32) (m_word : Int64) (a_c : Nat) (a_words : Nat) (m_markMany : Int32) (a_there : Nat) (a_tried : Nat) (a_best : Nat) (a_found : Nat) (m_thereMany : Int32) (m_foundMany : Int32) (m_orderHow : Int32) (m_orderRing : Int32) (m_orderMany : Int32) (m_hasBest : Int32) (m_bestTop : Int64) (m_bestBy : Int64) (a_weights : Nat) (a_shared : Nat) (m_random : Int32) (m_truePlace : Int32) (m_trueWay : Int32) (m_seconds : Int32) (m_done : Int32) (m_feelings : Int32) (m_tries : Int32) (m_leftOver : Int32) (m_playDoor : Int32) (m_playRing : Int32) (m_isOpen : Int32) (m_isOver : Int32) (m_wasTried : Int32) (m_hasPlayed : Int32) (a_feltNow : Nat) (a_last : Nat) (a_kept : Nat) (m_hasSeconds : Int32) (m_hasTurned : Int32) (m_hasRound : Int32) (a_hasFeels : Nat) (a_isOn : Nat) (m_firstAct : Int32) (m_meanTop : Int64) (m_meanBy : Int64) (a_order : Nat) (m_rowMany : Int32) (m_newSteps : Int32) (g_c : Nat → Int32) (k : Int32) (hr_k : 0 ≤ k.toInt ∧ k.toInt ≤ 9) (hC_g_c : zC g_c) : zCi l yX12_ringOf cX12_ringOf 4 (some .int) ({ frames := 0, cells := 0, slots := 0, locals := 0 }) G cA [.ref h0, .int k] [(h0, .inr (12, [.int m_status, .int m_thrown, .long m_above, .long m_under, .ref a_traySort, .ref a_trayMany, .ref a_numbers, .ref a_tape, .int m_taped, .int m_textEnd, .int m_faultKind, .int m_faultAt, .int m_bad, .int m_badAt, .int m_token, .int m_at, .int m_behind, .int m_number, .int m_letters, .long m_word, .ref a_c, .ref a_words, .int m_markMany, .ref a_there, .ref a_tried, .ref a_best, .ref a_found, .int m_thereMany, .int m_foundMany, .int m_orderHow, .int m_orderRing, .int m_orderMany, .int m_hasBest, .long m_bestTop, .long m_bestBy, .ref a_weights, .ref a_shared, .int m_random, .int m_truePlace, .int m_trueWay, .int m_seconds, .int m_done, .int m_feelings, .int m_tries, .int m_leftOver, .int m_playDoor, .int m_playRing, .int m_isOpen, .int m_isOver, .int m_wasTried, .int m_hasPlayed, .ref a_feltNow, .ref a_last, .ref a_kept, .int m_hasSeconds, .int m_hasTurned, .int m_hasRound, .ref a_hasFeels, .ref a_isOn, .int m_firstAct, .long m_meanTop, .long m_meanBy, .ref a_order, .int m_rowMany, .int m_newSteps])), (a_c, .inl (cA.1 0, 1825, .inl g_c))] (S := Unit) (fun (r : Int32) (u : Unit) => ((-1) ≤ r.toInt ∧ r.toInt ≤ 2) ∧ (zRO g_c k.toInt r.toInt)) (fun (u : Unit) => [(h0, .inr (12, [.int m_status, .int m_thrown, .long m_above, .long m_under, .ref a_traySort, .ref a_trayMany, .ref a_numbers, .ref a_tape, .int m_taped, .int m_textEnd, .int m_faultKind, .int m_faultAt, .int m_bad, .int m_badAt, .int m_token, .int m_at, .int m_behind, .int m_number, .int m_letters, .long m_word, .ref a_c, .ref a_words, .int m_markMany, .ref a_there, .ref a_tried, .ref a_best, .ref a_found, .int m_thereMany, .int m_foundMany, .int m_orderHow, .int m_orderRing, .int m_orderMany, .int m_hasBest, .long m_bestTop, .long m_bestBy, .ref a_weights, .ref a_shared, .int m_random, .int m_truePlace, .int m_trueWay, .int m_seconds, .int m_done, .int m_feelings, .int m_tries, .int m_leftOver, .int m_playDoor, .int m_playRing, .int m_isOpen, .int m_isOver, .int m_wasTried, .int m_hasPlayed, .ref a_feltNow, .ref a_last, .ref a_kept, .int m_hasSeconds, .int m_hasTurned, .int m_hasRound, .ref a_hasFeels, .ref a_isOn, .int m_firstAct, .long m_meanTop, .long m_meanBy, .ref a_order, .int m_rowMany, .int m_newSteps])), (a_c, .inl (cA.1 0, 1825, .inl g_c))]) 0 0 := by
  have hk_m1 : ((-1) : Int32).toInt = (-1) := by decide +kernel
  have hk_0 : (0 : Int32).toInt = 0 := by decide +kernel
  have hk_1 : (1 : Int32).toInt = 1 := by decide +kernel
  have hk_10 : (10 : Int32).toInt = 10 := by decide +kernel
  have hk_95 : (95 : Int32).toInt = 95 := by decide +kernel
  have hk_98 : (98 : Int32).toInt = 98 := by decide +kernel
  refine z_start2i (own := RX12) (by decide) (Nat.le_of_ble_eq_true rfl) rfl ?_
  intro p e s m args below meth c A ls Q hx hb hml hts hown hK hE hT hP hD hS hA hl hret
  have hl : lv_has ls 4 [(0, .ref h0), (1, .int k)] := hl
  refine lv_iconst (v := 0) hx hb dX12_ringOf_0 (by decide) ?_
  refine lv_istore_n (lv' := [(2, .int 0), (0, .ref h0), (1, .int k)]) hx hb dX12_ringOf_1 rfl hl (by decide) rfl (fun ls hl => ?_)
  have hlp_900 : ∀ (n : Nat) (v_711 : Int32) (H : Heap) (locs : List Loc) (ls : Array Slot), (2147483647 - v_711.toInt).toNat < n → (0 ≤ v_711.toInt ∧ v_711.toInt ≤ 3) → (zNo g_c k.toInt v_711.toInt 0) → va_P G vwCl [(h0, .inr (12, [.int m_status, .int m_thrown, .long m_above, .long m_under, .ref a_traySort, .ref a_trayMany, .ref a_numbers, .ref a_tape, .int m_taped, .int m_textEnd, .int m_faultKind, .int m_faultAt, .int m_bad, .int m_badAt, .int m_token, .int m_at, .int m_behind, .int m_number, .int m_letters, .long m_word, .ref a_c, .ref a_words, .int m_markMany, .ref a_there, .ref a_tried, .ref a_best, .ref a_found, .int m_thereMany, .int m_foundMany, .int m_orderHow, .int m_orderRing, .int m_orderMany, .int m_hasBest, .long m_bestTop, .long m_bestBy, .ref a_weights, .ref a_shared, .int m_random, .int m_truePlace, .int m_trueWay, .int m_seconds, .int m_done, .int m_feelings, .int m_tries, .int m_leftOver, .int m_playDoor, .int m_playRing, .int m_isOpen, .int m_isOver, .int m_wasTried, .int m_hasPlayed, .ref a_feltNow, .ref a_last, .ref a_kept, .int m_hasSeconds, .int m_hasTurned, .int m_hasRound, .ref a_hasFeels, .ref a_isOn, .int m_firstAct, .long m_meanTop, .long m_meanBy, .ref a_order, .int m_rowMany, .int m_newSteps])), (a_c, .inl (cA.1 0, 1825, .inl g_c))] H → va_D A [(h0, .inr (12, [.int m_status, .int m_thrown, .long m_above, .long m_under, .ref a_traySort, .ref a_trayMany, .ref a_numbers, .ref a_tape, .int m_taped, .int m_textEnd, .int m_faultKind, .int m_faultAt, .int m_bad, .int m_badAt, .int m_token, .int m_at, .int m_behind, .int m_number, .int m_letters, .long m_word, .ref a_c, .ref a_words, .int m_markMany, .ref a_there, .ref a_tried, .ref a_best, .ref a_found, .int m_thereMany, .int m_foundMany, .int m_orderHow, .int m_orderRing, .int m_orderMany, .int m_hasBest, .long m_bestTop, .long m_bestBy, .ref a_weights, .ref a_shared, .int m_random, .int m_truePlace, .int m_trueWay, .int m_seconds, .int m_done, .int m_feelings, .int m_tries, .int m_leftOver, .int m_playDoor, .int m_playRing, .int m_isOpen, .int m_isOver, .int m_wasTried, .int m_hasPlayed, .ref a_feltNow, .ref a_last, .ref a_kept, .int m_hasSeconds, .int m_hasTurned, .int m_hasRound, .ref a_hasFeels, .ref a_isOn, .int m_firstAct, .long m_meanTop, .long m_meanBy, .ref a_order, .int m_rowMany, .int m_newSteps])), (a_c, .inl (cA.1 0, 1825, .inl g_c))] → va_S A s.heap H locs → lv_has ls 4 [(0, .ref h0), (1, .int k), (2, .int v_711)] → W p l e ({ frames := 0, cells := 0, slots := 0, locals := 0 }) s m args below meth c H locs 0 0 Q (F0 m 2 ls []) := by
    intro n
    induction n with
    | zero =>
      intro v_711 H locs ls hmu_hlp_900 hr_v_711 hi_899 hP hD hS hl
      exact absurd hmu_hlp_900 (Nat.not_lt_zero _)
    | succ n ih_901 =>
      intro v_711 H locs ls hmu_hlp_900 hr_v_711 hi_899 hP hD hS hl
      refine lv_iload_n hx hb dX12_ringOf_2 rfl (lv_at hl 2 rfl) ?_
      refine lv_aload_n hx hb dX12_ringOf_3 rfl (lv_at hl 0 rfl) ?_
      refine va_get (D := G) (ci := 12) (v := .ref a_c) (C := RX12) (T := TX12) (N := 65) hx hb hts inT12 hown hK hP 0 rfl rfl 20 (by decide) (hts _ tw_1905) (fun _ h9 => h9) rfl dX12_ringOf_4 ?_
      refine lv_iconst (v := 2) hx hb dX12_ringOf_7 (by decide) ?_
      refine va_iald hx hb hK hP 1 0 rfl rfl (z_in (i := 2) (n := 1825) (by decide +kernel) (by decide +kernel)) dX12_ringOf_8 ?_
      refine lv_topi (fun x_902 he_x_902 => ?_)
      have hr_x_902 := z_ctk hC_g_c he_x_902 (k := 2) (lo := 0) (hi := 3) (by decide +kernel) (by decide +kernel) (by decide +kernel)
      have hv_x_902 := z_cv he_x_902 (k := 2) (by decide +kernel)
      refine lv_icmp_ge (tgt := 59) hx hb dX12_ringOf_9 (by decide) (fun c_903 => ?_) (fun c_903 => ?_)
      · have b_904 := z_fgeT c_903
        refine lv_iconst (v := (-1)) hx hb dX12_ringOf_59 (by decide) ?_
        have hpost : ((-1) ≤ ((-1) : Int32).toInt ∧ ((-1) : Int32).toInt ≤ 2) ∧ (zRO g_c k.toInt ((-1) : Int32).toInt) := ⟨(by decide +kernel), (zRO_none hi_899 (by omega))⟩
        exact hret _ _ _ _ _ _ () [0, 1] hP hD hS rfl (by decide) dX12_ringOf_60 hpost
      · have b_905 := z_fltF c_903
        refine lv_iconst (v := 0) hx hb dX12_ringOf_12 (by decide) ?_
        refine lv_istore_n (lv' := [(3, .int 0), (0, .ref h0), (1, .int k), (2, .int v_711)]) hx hb dX12_ringOf_13 rfl hl (by decide) rfl (fun ls hl => ?_)
        have hlp_1073 : ∀ (n : Nat) (v_1058 : Int32) (H : Heap) (locs : List Loc) (ls : Array Slot), (2147483647 - v_1058.toInt).toNat < n → (0 ≤ v_1058.toInt ∧ v_1058.toInt ≤ 10) → (zNo g_c k.toInt v_711.toInt v_1058.toInt) → va_P G vwCl [(h0, .inr (12, [.int m_status, .int m_thrown, .long m_above, .long m_under, .ref a_traySort, .ref a_trayMany, .ref a_numbers, .ref a_tape, .int m_taped, .int m_textEnd, .int m_faultKind, .int m_faultAt, .int m_bad, .int m_badAt, .int m_token, .int m_at, .int m_behind, .int m_number, .int m_letters, .long m_word, .ref a_c, .ref a_words, .int m_markMany, .ref a_there, .ref a_tried, .ref a_best, .ref a_found, .int m_thereMany, .int m_foundMany, .int m_orderHow, .int m_orderRing, .int m_orderMany, .int m_hasBest, .long m_bestTop, .long m_bestBy, .ref a_weights, .ref a_shared, .int m_random, .int m_truePlace, .int m_trueWay, .int m_seconds, .int m_done, .int m_feelings, .int m_tries, .int m_leftOver, .int m_playDoor, .int m_playRing, .int m_isOpen, .int m_isOver, .int m_wasTried, .int m_hasPlayed, .ref a_feltNow, .ref a_last, .ref a_kept, .int m_hasSeconds, .int m_hasTurned, .int m_hasRound, .ref a_hasFeels, .ref a_isOn, .int m_firstAct, .long m_meanTop, .long m_meanBy, .ref a_order, .int m_rowMany, .int m_newSteps])), (a_c, .inl (cA.1 0, 1825, .inl g_c))] H → va_D A [(h0, .inr (12, [.int m_status, .int m_thrown, .long m_above, .long m_under, .ref a_traySort, .ref a_trayMany, .ref a_numbers, .ref a_tape, .int m_taped, .int m_textEnd, .int m_faultKind, .int m_faultAt, .int m_bad, .int m_badAt, .int m_token, .int m_at, .int m_behind, .int m_number, .int m_letters, .long m_word, .ref a_c, .ref a_words, .int m_markMany, .ref a_there, .ref a_tried, .ref a_best, .ref a_found, .int m_thereMany, .int m_foundMany, .int m_orderHow, .int m_orderRing, .int m_orderMany, .int m_hasBest, .long m_bestTop, .long m_bestBy, .ref a_weights, .ref a_shared, .int m_random, .int m_truePlace, .int m_trueWay, .int m_seconds, .int m_done, .int m_feelings, .int m_tries, .int m_leftOver, .int m_playDoor, .int m_playRing, .int m_isOpen, .int m_isOver, .int m_wasTried, .int m_hasPlayed, .ref a_feltNow, .ref a_last, .ref a_kept, .int m_hasSeconds, .int m_hasTurned, .int m_hasRound, .ref a_hasFeels, .ref a_isOn, .int m_firstAct, .long m_meanTop, .long m_meanBy, .ref a_order, .int m_rowMany, .int m_newSteps])), (a_c, .inl (cA.1 0, 1825, .inl g_c))] → va_S A s.heap H locs → lv_has ls 4 [(0, .ref h0), (1, .int k), (2, .int v_711), (3, .int v_1058)] → W p l e ({ frames := 0, cells := 0, slots := 0, locals := 0 }) s m args below meth c H locs 0 0 Q (F0 m 14 ls []) := by
          intro n
          induction n with
          | zero =>
            intro v_1058 H locs ls hmu_hlp_1073 hr_v_1058 hi_1072 hP hD hS hl
            exact absurd hmu_hlp_1073 (Nat.not_lt_zero _)
          | succ n ih_1074 =>
            intro v_1058 H locs ls hmu_hlp_1073 hr_v_1058 hi_1072 hP hD hS hl
            refine lv_iload_n hx hb dX12_ringOf_14 rfl (lv_at hl 3 rfl) ?_
            refine lv_aload_n hx hb dX12_ringOf_15 rfl (lv_at hl 0 rfl) ?_
            refine va_get (D := G) (ci := 12) (v := .ref a_c) (C := RX12) (T := TX12) (N := 65) hx hb hts inT12 hown hK hP 0 rfl rfl 20 (by decide) (hts _ tw_1905) (fun _ h9 => h9) rfl dX12_ringOf_16 ?_
            refine lv_bipush (v := 95) hx hb dX12_ringOf_19 (by decide) ?_
            refine lv_iload_n hx hb dX12_ringOf_21 rfl (lv_at hl 2 rfl) ?_
            refine lv_iadd hx hb dX12_ringOf_22 ?_
            refine lv_topi (fun x_1075 he_x_1075 => ?_)
            have hq_x_1075 := z_addq he_x_1075 hk_95 (rfl : v_711.toInt = _) (by omega) (by omega)
            refine va_iald hx hb hK hP 1 0 rfl rfl (z_inN (by omega) (by omega)) dX12_ringOf_23 ?_
            refine lv_topi (fun x_1076 he_x_1076 => ?_)
            have hr_x_1076 := z_ct hC_g_c he_x_1076 (a := 95) (b := 97) (lo := 0) (hi := 10) (by decide +kernel) (by decide) (by omega) (by omega)
            refine lv_icmp_ge (tgt := 53) hx hb dX12_ringOf_24 (by decide) (fun c_1077 => ?_) (fun c_1077 => ?_)
            · have b_1078 := z_fgeT c_1077
              obtain ⟨x_1079, he_x_1079⟩ : ∃ z : Int32, z = v_711 + 1 := ⟨_, rfl⟩
              have hq_x_1079 := z_addq he_x_1079 (rfl : v_711.toInt = _) hk_1 (by omega) (by omega)
              refine lv_iinc (v := x_1079) (lv' := [(2, .int x_1079), (0, .ref h0), (1, .int k), (3, .int v_1058)]) hx hb dX12_ringOf_53 hl (k := 2) rfl ((z_ofi (by decide +kernel)).trans he_x_1079.symm) (by decide) rfl (fun ls hl => ?_)
              refine lv_goto (tgt := 2) hx hb dX12_ringOf_56 (by decide) ?_
              exact ih_901 x_1079 H locs ls (by omega) (by omega) (by rw [hq_x_1079]; exact zNo_next hi_1072 he_x_1076 (by omega) (by omega) (by omega)) hP hD hS (lv_sub hl [1, 2, 0] rfl)
            · have b_1080 := z_fltF c_1077
              refine lv_aload_n hx hb dX12_ringOf_27 rfl (lv_at hl 0 rfl) ?_
              refine va_get (D := G) (ci := 12) (v := .ref a_c) (C := RX12) (T := TX12) (N := 65) hx hb hts inT12 hown hK hP 0 rfl rfl 20 (by decide) (hts _ tw_1905) (fun _ h9 => h9) rfl dX12_ringOf_28 ?_
              refine lv_bipush (v := 98) hx hb dX12_ringOf_31 (by decide) ?_
              refine lv_bipush (v := 10) hx hb dX12_ringOf_33 (by decide) ?_
              refine lv_iload_n hx hb dX12_ringOf_35 rfl (lv_at hl 2 rfl) ?_
              refine lv_imul hx hb dX12_ringOf_36 ?_
              refine lv_topi (fun x_1081 he_x_1081 => ?_)
              have hq_x_1081 := z_mulq he_x_1081 hk_10 (rfl : v_711.toInt = _) (by omega) (by omega)
              refine lv_iadd hx hb dX12_ringOf_37 ?_
              refine lv_topi (fun x_1082 he_x_1082 => ?_)
              have hq_x_1082 := z_addq he_x_1082 hk_98 (rfl : x_1081.toInt = _) (by omega) (by omega)
              refine lv_iload_n hx hb dX12_ringOf_38 rfl (lv_at hl 3 rfl) ?_
              refine lv_iadd hx hb dX12_ringOf_39 ?_
              refine lv_topi (fun x_1083 he_x_1083 => ?_)
              have hq_x_1083 := z_addq he_x_1083 (rfl : x_1082.toInt = _) (rfl : v_1058.toInt = _) (by omega) (by omega)
              refine va_iald hx hb hK hP 1 0 rfl rfl (z_inN (by omega) (by omega)) dX12_ringOf_40 ?_
              refine lv_topi (fun x_1084 he_x_1084 => ?_)
              have hr_x_1084 := z_ct hC_g_c he_x_1084 (a := 98) (b := 127) (lo := 0) (hi := 9) (by decide +kernel) (by decide) (by omega) (by omega)
              refine lv_iload_n hx hb dX12_ringOf_41 rfl (lv_at hl 1 rfl) ?_
              refine lv_icmp_ne (tgt := 47) hx hb dX12_ringOf_42 (by decide) (fun c_1085 => ?_) (fun c_1085 => ?_)
              · have b_1086 := z_fneT c_1085
                obtain ⟨x_1087, he_x_1087⟩ : ∃ z : Int32, z = v_1058 + 1 := ⟨_, rfl⟩
                have hq_x_1087 := z_addq he_x_1087 (rfl : v_1058.toInt = _) hk_1 (by omega) (by omega)
                refine lv_iinc (v := x_1087) (lv' := [(3, .int x_1087), (0, .ref h0), (1, .int k), (2, .int v_711)]) hx hb dX12_ringOf_47 hl (k := 3) rfl ((z_ofi (by decide +kernel)).trans he_x_1087.symm) (by decide) rfl (fun ls hl => ?_)
                refine lv_goto (tgt := 14) hx hb dX12_ringOf_50 (by decide) ?_
                exact ih_1074 x_1087 H locs ls (by omega) (by omega) (by rw [hq_x_1087]; exact zNo_step hi_1072 he_x_1084 (by omega) (by omega) (by omega) (by omega)) hP hD hS (lv_sub hl [1, 2, 3, 0] rfl)
              · have b_1088 := z_feqF c_1085
                refine lv_iload_n hx hb dX12_ringOf_45 rfl (lv_at hl 2 rfl) ?_
                have hpost : ((-1) ≤ v_711.toInt ∧ v_711.toInt ≤ 2) ∧ (zRO g_c k.toInt v_711.toInt) := ⟨(by omega), (zRO_found hi_1072 (by omega) (by omega) (by omega) he_x_1084 (by omega) he_x_1076 (by omega) (by omega) (by omega))⟩
                exact hret _ _ _ _ _ _ () [0, 1] hP hD hS rfl (by decide) dX12_ringOf_46 hpost
        exact hlp_1073 _ 0 _ _ _ (Nat.lt_succ_self _) (by decide +kernel) (zNo_in hi_899) hP hD hS (lv_sub hl [1, 2, 3, 0] rfl)
  exact hlp_900 _ 0 _ _ _ (Nat.lt_succ_self _) (by decide +kernel) zNo_0 hP hD hS (lv_sub hl [1, 2, 0] rfl)
