set_option maxHeartbeats 4000000 in
set_option maxRecDepth 100000 in
theorem r_soon (l : Launch) (G : va_G) (cA : zCA) (h0 : Nat) (m_status : Int32) (m_thrown : Int32) (m_above : Int64) (m_under : Int64) (a_traySort : Nat) (a_trayMany : Nat) (a_numbers : Nat) (a_tape : Nat) (m_taped : Int32) (m_textEnd : Int32) (m_faultKind : Int32) (m_faultAt : Int32) (m_bad : Int32) (m_badAt : Int32) (m_token : Int32) (m_at : Int32) (m_behind : Int32) (m_number : Int32) (m_letters : Int32) (m_word : Int64) (a_c : Nat) (a_words : Nat) (m_markMany : Int32) (a_there : Nat) (a_tried : Nat) (a_best : Nat) (a_found : Nat) (m_thereMany : Int32) (m_foundMany : Int32) (m_orderHow : Int32) (m_orderRing : Int32) (m_orderMany : Int32) (m_hasBest : Int32) (m_bestTop : Int64) (m_bestBy : Int64) (a_weights : Nat) (a_shared : Nat) (m_random : Int32) (m_truePlace : Int32) (m_trueWay : Int32) (m_seconds : Int32) (m_done : Int32) (m_feelings : Int32) (m_tries : Int32) (m_leftOver : Int32) (m_playDoor : Int32) (m_playRing : Int32) (m_isOpen : Int32) (m_isOver : Int32) (m_wasTried : Int32) (m_hasPlayed : Int32) (a_feltNow : Nat) (a_last : Nat) (a_kept : Nat) (m_hasSeconds : Int32) (m_hasTurned : Int32) (m_hasRound : Int32) (a_hasFeels : Nat) (a_isOn : Nat) (m_firstAct : Int32) (m_meanTop : Int64) (m_meanBy : Int64) (a_order : Nat) (m_rowMany : Int32) (m_newSteps : Int32) (g_c : Nat → Int32) (g_there : Nat → Int32) (k : Int32) (d : Int32) (lent : Int32) (sure : Int32) (hr_m_thereMany : 0 ≤ m_thereMany.toInt ∧ m_thereMany.toInt ≤ 10) (hC_g_c : zC g_c) (hC_g_there : zRg 10 0 9 g_there) : zCi l yX12_soon cX12_soon 7 (some .int) ({ frames := 2, cells := 0, slots := 0, locals := 47 }) G cA [.ref h0, .int k, .int d, .int lent, .int sure] [(h0, .inr (12, [.int m_status, .int m_thrown, .long m_above, .long m_under, .ref a_traySort, .ref a_trayMany, .ref a_numbers, .ref a_tape, .int m_taped, .int m_textEnd, .int m_faultKind, .int m_faultAt, .int m_bad, .int m_badAt, .int m_token, .int m_at, .int m_behind, .int m_number, .int m_letters, .long m_word, .ref a_c, .ref a_words, .int m_markMany, .ref a_there, .ref a_tried, .ref a_best, .ref a_found, .int m_thereMany, .int m_foundMany, .int m_orderHow, .int m_orderRing, .int m_orderMany, .int m_hasBest, .long m_bestTop, .long m_bestBy, .ref a_weights, .ref a_shared, .int m_random, .int m_truePlace, .int m_trueWay, .int m_seconds, .int m_done, .int m_feelings, .int m_tries, .int m_leftOver, .int m_playDoor, .int m_playRing, .int m_isOpen, .int m_isOver, .int m_wasTried, .int m_hasPlayed, .ref a_feltNow, .ref a_last, .ref a_kept, .int m_hasSeconds, .int m_hasTurned, .int m_hasRound, .ref a_hasFeels, .ref a_isOn, .int m_firstAct, .long m_meanTop, .long m_meanBy, .ref a_order, .int m_rowMany, .int m_newSteps])), (a_c, .inl (cA.1 0, 1825, .inl g_c)), (a_there, .inl (cA.1 0, 10, .inl g_there))] (S := Int32 × Int32 × Int32 × (Nat → Int32)) (fun (r : Int32) (u : Int32 × Int32 × Int32 × (Nat → Int32)) => ((-1) ≤ r.toInt ∧ r.toInt ≤ 10) ∧ (0 ≤ u.2.1.toInt ∧ u.2.1.toInt ≤ 0) ∧ (0 ≤ u.2.2.1.toInt ∧ u.2.2.1.toInt ≤ 10) ∧ (zRg 10 0 9 u.2.2.2)) (fun (u : Int32 × Int32 × Int32 × (Nat → Int32)) => [(h0, .inr (12, [.int u.1, .int u.2.1, .long m_above, .long m_under, .ref a_traySort, .ref a_trayMany, .ref a_numbers, .ref a_tape, .int m_taped, .int m_textEnd, .int m_faultKind, .int m_faultAt, .int m_bad, .int m_badAt, .int m_token, .int m_at, .int m_behind, .int m_number, .int m_letters, .long m_word, .ref a_c, .ref a_words, .int m_markMany, .ref a_there, .ref a_tried, .ref a_best, .ref a_found, .int u.2.2.1, .int m_foundMany, .int m_orderHow, .int m_orderRing, .int m_orderMany, .int m_hasBest, .long m_bestTop, .long m_bestBy, .ref a_weights, .ref a_shared, .int m_random, .int m_truePlace, .int m_trueWay, .int m_seconds, .int m_done, .int m_feelings, .int m_tries, .int m_leftOver, .int m_playDoor, .int m_playRing, .int m_isOpen, .int m_isOver, .int m_wasTried, .int m_hasPlayed, .ref a_feltNow, .ref a_last, .ref a_kept, .int m_hasSeconds, .int m_hasTurned, .int m_hasRound, .ref a_hasFeels, .ref a_isOn, .int m_firstAct, .long m_meanTop, .long m_meanBy, .ref a_order, .int m_rowMany, .int m_newSteps])), (a_c, .inl (cA.1 0, 1825, .inl g_c)), (a_there, .inl (cA.1 0, 10, .inl u.2.2.2))]) 0 0 := by
  have hk_0 : (0 : Int32).toInt = 0 := by decide +kernel
  have hk_1 : (1 : Int32).toInt = 1 := by decide +kernel
  have hk_2 : (2 : Int32).toInt = 2 := by decide +kernel
  have hk_5 : (5 : Int32).toInt = 5 := by decide +kernel
  have hk_8 : (8 : Int32).toInt = 8 := by decide +kernel
  have hk_9 : (9 : Int32).toInt = 9 := by decide +kernel
  have hk_16 : (16 : Int32).toInt = 16 := by decide +kernel
  have hkl_0 : (0 : Int64).toInt = 0 := by decide +kernel
  have hkl_1 : (1 : Int64).toInt = 1 := by decide +kernel
  have hkl_16 : (16 : Int64).toInt = 16 := by decide +kernel
  refine z_start2i (own := RX12) (by decide) (Nat.le_of_ble_eq_true rfl) rfl ?_
  intro p e s m args below meth c A ls Q hx hb hml hts hown hK hE hT hP hD hS hA hl hret
  have hl : lv_has ls 7 [(0, .ref h0), (1, .int k), (2, .int d), (3, .int lent), (4, .int sure)] := hl
  refine lv_aload_n hx hb dX12_soon_0 rfl (lv_at hl 0 rfl) ?_
  refine lv_iconst (v := 0) hx hb dX12_soon_1 (by decide) ?_
  refine va_put (D := G) (ci := 12) (v := .int 0) (ty := .int) (C := RX12) (T := TX12) (N := 65) hx hb hts inT12 tyX12 tyX12_ok nmX12 hown hK hP hD hS 0 rfl rfl 1 (by decide) (hts _ tw_1886) (fun _ h9 => h9) rfl (tyX12_ok 1 (by decide)) rfl rfl (Nat.le_of_ble_eq_true rfl) dX12_soon_2 (fun H locs hP hD hS => ?_)
  refine lv_aload_n hx hb dX12_soon_5 rfl (lv_at hl 0 rfl) ?_
  refine lv_iconst (v := 0) hx hb dX12_soon_6 (by decide) ?_
  refine va_put (D := G) (ci := 12) (v := .int 0) (ty := .int) (C := RX12) (T := TX12) (N := 65) hx hb hts inT12 tyX12 tyX12_ok nmX12 hown hK hP hD hS 0 rfl rfl 0 (by decide) (hts _ tw_1885) (fun _ h9 => h9) rfl (tyX12_ok 0 (by decide)) rfl rfl (Nat.le_of_ble_eq_true rfl) dX12_soon_7 (fun H locs hP hD hS => ?_)
  refine lv_aload_n hx hb dX12_soon_10 rfl (lv_at hl 0 rfl) ?_
  refine lv_iload_n hx hb dX12_soon_11 rfl (lv_at hl 1 rfl) ?_
  refine lv_i2l (v := (k).toInt64) hx hb dX12_soon_12 rfl ?_
  refine lv_topl (fun x_1 he_x_1 => ?_)
  have hq_x_1 := z_i2l he_x_1
  have hL_k := z_full k
  refine z_callVi (As := [.long x_1]) (rest := []) (wr := [(a_there, .inl (cA.1 0, 10, .inl g_there))]) ⟨hx, hb, hml, hown, hts⟩ hK hE hT hP hD hS hA (r_isKey l G cA h0 0 0 m_above m_under a_traySort a_trayMany a_numbers a_tape m_taped m_textEnd m_faultKind m_faultAt m_bad m_badAt m_token m_at m_behind m_number m_letters m_word a_c a_words m_markMany a_there a_tried a_best a_found m_thereMany m_foundMany m_orderHow m_orderRing m_orderMany m_hasBest m_bestTop m_bestBy a_weights a_shared m_random m_truePlace m_trueWay m_seconds m_done m_feelings m_tries m_leftOver m_playDoor m_playRing m_isOpen m_isOver m_wasTried m_hasPlayed a_feltNow a_last a_kept m_hasSeconds m_hasTurned m_hasRound a_hasFeels a_isOn m_firstAct m_meanTop m_meanBy a_order m_rowMany m_newSteps g_c x_1 hC_g_c) lk_RX12_275 ⟨rfl, rfl⟩ ⟨Nat.le_of_ble_eq_true rfl, Nat.le_of_ble_eq_true rfl⟩ 12 rfl rfl rfl [0, 1] [2] rfl rfl (by decide) rfl hl.1 rfl (lv_room (Nat.le_of_ble_eq_true rfl)) dX12_soon_13 ⟨Nat.le_of_ble_eq_true rfl, Nat.le_of_ble_eq_true rfl⟩ (fun r_2 u_3 H locs hw hP hD hS => ?_)
  rcases hw with ⟨rfl, -⟩ | ⟨rfl, hf_4, hf_5⟩
  · skip
    refine lv_if_eq (tgt := 27) hx hb dX12_soon_16 (by decide) (fun _ => ?_) (fun h9 => absurd (by decide +kernel) h9)
    refine lv_aload_n hx hb dX12_soon_27 rfl (lv_at hl 0 rfl) ?_
    refine lv_iconst (v := 2) hx hb dX12_soon_28 (by decide) ?_
    refine z_callVi (As := [.int 2]) (rest := []) (wr := [(a_there, .inl (cA.1 0, 10, .inl g_there)), (a_c, .inl (cA.1 0, 1825, .inl g_c))]) ⟨hx, hb, hml, hown, hts⟩ hK hE hT hP hD hS hA (r_refuse l G cA h0 0 0 m_above m_under a_traySort a_trayMany a_numbers a_tape m_taped m_textEnd m_faultKind m_faultAt m_bad m_badAt m_token m_at m_behind m_number m_letters m_word a_c a_words m_markMany a_there a_tried a_best a_found m_thereMany m_foundMany m_orderHow m_orderRing m_orderMany m_hasBest m_bestTop m_bestBy a_weights a_shared m_random m_truePlace m_trueWay m_seconds m_done m_feelings m_tries m_leftOver m_playDoor m_playRing m_isOpen m_isOver m_wasTried m_hasPlayed a_feltNow a_last a_kept m_hasSeconds m_hasTurned m_hasRound a_hasFeels a_isOn m_firstAct m_meanTop m_meanBy a_order m_rowMany m_newSteps 2) lk_RX12_269 ⟨rfl, rfl⟩ ⟨Nat.le_of_ble_eq_true rfl, Nat.le_of_ble_eq_true rfl⟩ 12 rfl rfl rfl [1] [0, 2] rfl rfl (by decide) rfl hl.1 rfl (lv_room (Nat.le_of_ble_eq_true rfl)) dX12_soon_29 ⟨Nat.le_of_ble_eq_true rfl, Nat.le_of_ble_eq_true rfl⟩ (fun r_7 u_8 H locs hw hP hD hS => ?_)
    obtain ⟨n_6, rfl⟩ : ∃ z, z = u_8 := ⟨_, rfl⟩
    obtain ⟨he_r_7, he_n_6, hw⟩ := hw
    have hr_r_7 := hw
    have hpost : ((-1) ≤ r_7.toInt ∧ r_7.toInt ≤ 10) ∧ (0 ≤ (0 : Int32).toInt ∧ (0 : Int32).toInt ≤ 0) ∧ (0 ≤ m_thereMany.toInt ∧ m_thereMany.toInt ≤ 10) ∧ (zRg 10 0 9 g_there) := ⟨(z_rgw hr_r_7 (by decide) (by decide)), (by decide +kernel), hr_m_thereMany, hC_g_there⟩
    exact hret _ _ _ _ _ _ (n_6, 0, m_thereMany, g_there) [2, 1, 0] hP hD hS rfl (by decide) dX12_soon_32 hpost
  · skip
    refine lv_if_eq (tgt := 27) hx hb dX12_soon_16 (by decide) (fun h9 => absurd h9 (by decide +kernel)) (fun _ => ?_)
    refine lv_aload_n hx hb dX12_soon_19 rfl (lv_at hl 0 rfl) ?_
    refine lv_iload_n hx hb dX12_soon_20 rfl (lv_at hl 2 rfl) ?_
    refine z_callVi (As := [.int d]) (rest := []) (wr := [(a_there, .inl (cA.1 0, 10, .inl g_there))]) ⟨hx, hb, hml, hown, hts⟩ hK hE hT hP hD hS hA (r_isDoor l G cA h0 0 0 m_above m_under a_traySort a_trayMany a_numbers a_tape m_taped m_textEnd m_faultKind m_faultAt m_bad m_badAt m_token m_at m_behind m_number m_letters m_word a_c a_words m_markMany a_there a_tried a_best a_found m_thereMany m_foundMany m_orderHow m_orderRing m_orderMany m_hasBest m_bestTop m_bestBy a_weights a_shared m_random m_truePlace m_trueWay m_seconds m_done m_feelings m_tries m_leftOver m_playDoor m_playRing m_isOpen m_isOver m_wasTried m_hasPlayed a_feltNow a_last a_kept m_hasSeconds m_hasTurned m_hasRound a_hasFeels a_isOn m_firstAct m_meanTop m_meanBy a_order m_rowMany m_newSteps g_c d hC_g_c) lk_RX12_295 ⟨rfl, rfl⟩ ⟨Nat.le_of_ble_eq_true rfl, Nat.le_of_ble_eq_true rfl⟩ 12 rfl rfl rfl [1, 2] [0] rfl rfl (by decide) rfl hl.1 rfl (lv_room (Nat.le_of_ble_eq_true rfl)) dX12_soon_21 ⟨Nat.le_of_ble_eq_true rfl, Nat.le_of_ble_eq_true rfl⟩ (fun r_9 u_10 H locs hw hP hD hS => ?_)
    rcases hw with ⟨rfl, -⟩ | ⟨rfl, hf_11, hf_12⟩
    · skip
      refine lv_if_ne (tgt := 33) hx hb dX12_soon_24 (by decide) (fun h9 => absurd (by decide +kernel) h9) (fun _ => ?_)
      refine lv_aload_n hx hb dX12_soon_27 rfl (lv_at hl 0 rfl) ?_
      refine lv_iconst (v := 2) hx hb dX12_soon_28 (by decide) ?_
      refine z_callVi (As := [.int 2]) (rest := []) (wr := [(a_there, .inl (cA.1 0, 10, .inl g_there)), (a_c, .inl (cA.1 0, 1825, .inl g_c))]) ⟨hx, hb, hml, hown, hts⟩ hK hE hT hP hD hS hA (r_refuse l G cA h0 0 0 m_above m_under a_traySort a_trayMany a_numbers a_tape m_taped m_textEnd m_faultKind m_faultAt m_bad m_badAt m_token m_at m_behind m_number m_letters m_word a_c a_words m_markMany a_there a_tried a_best a_found m_thereMany m_foundMany m_orderHow m_orderRing m_orderMany m_hasBest m_bestTop m_bestBy a_weights a_shared m_random m_truePlace m_trueWay m_seconds m_done m_feelings m_tries m_leftOver m_playDoor m_playRing m_isOpen m_isOver m_wasTried m_hasPlayed a_feltNow a_last a_kept m_hasSeconds m_hasTurned m_hasRound a_hasFeels a_isOn m_firstAct m_meanTop m_meanBy a_order m_rowMany m_newSteps 2) lk_RX12_269 ⟨rfl, rfl⟩ ⟨Nat.le_of_ble_eq_true rfl, Nat.le_of_ble_eq_true rfl⟩ 12 rfl rfl rfl [1] [0, 2] rfl rfl (by decide) rfl hl.1 rfl (lv_room (Nat.le_of_ble_eq_true rfl)) dX12_soon_29 ⟨Nat.le_of_ble_eq_true rfl, Nat.le_of_ble_eq_true rfl⟩ (fun r_14 u_15 H locs hw hP hD hS => ?_)
      obtain ⟨n_13, rfl⟩ : ∃ z, z = u_15 := ⟨_, rfl⟩
      obtain ⟨he_r_14, he_n_13, hw⟩ := hw
      have hr_r_14 := hw
      have hpost : ((-1) ≤ r_14.toInt ∧ r_14.toInt ≤ 10) ∧ (0 ≤ (0 : Int32).toInt ∧ (0 : Int32).toInt ≤ 0) ∧ (0 ≤ m_thereMany.toInt ∧ m_thereMany.toInt ≤ 10) ∧ (zRg 10 0 9 g_there) := ⟨(z_rgw hr_r_14 (by decide) (by decide)), (by decide +kernel), hr_m_thereMany, hC_g_there⟩
      exact hret _ _ _ _ _ _ (n_13, 0, m_thereMany, g_there) [2, 1, 0] hP hD hS rfl (by decide) dX12_soon_32 hpost
    · skip
      refine lv_if_ne (tgt := 33) hx hb dX12_soon_24 (by decide) (fun _ => ?_) (fun h9 => absurd h9 (by decide +kernel))
      refine lv_iload_n hx hb dX12_soon_33 rfl (lv_at hl 3 rfl) ?_
      refine lv_i2l (v := (lent).toInt64) hx hb dX12_soon_34 rfl ?_
      refine lv_topl (fun x_16 he_x_16 => ?_)
      have hq_x_16 := z_i2l he_x_16
      have hL_lent := z_full lent
      refine lv_lconst (v := 0) hx hb dX12_soon_35 (by decide) ?_
      refine lv_ldc2 (v := 16) hx hb hown (hts _ tw_2470) dX12_soon_36 ?_
      refine z_callSi (As := [.long x_16, .long 0, .long 16]) (rest := []) (wr := [(a_there, .inl (cA.1 0, 10, .inl g_there)), (h0, .inr (12, [.int 0, .int 0, .long m_above, .long m_under, .ref a_traySort, .ref a_trayMany, .ref a_numbers, .ref a_tape, .int m_taped, .int m_textEnd, .int m_faultKind, .int m_faultAt, .int m_bad, .int m_badAt, .int m_token, .int m_at, .int m_behind, .int m_number, .int m_letters, .long m_word, .ref a_c, .ref a_words, .int m_markMany, .ref a_there, .ref a_tried, .ref a_best, .ref a_found, .int m_thereMany, .int m_foundMany, .int m_orderHow, .int m_orderRing, .int m_orderMany, .int m_hasBest, .long m_bestTop, .long m_bestBy, .ref a_weights, .ref a_shared, .int m_random, .int m_truePlace, .int m_trueWay, .int m_seconds, .int m_done, .int m_feelings, .int m_tries, .int m_leftOver, .int m_playDoor, .int m_playRing, .int m_isOpen, .int m_isOver, .int m_wasTried, .int m_hasPlayed, .ref a_feltNow, .ref a_last, .ref a_kept, .int m_hasSeconds, .int m_hasTurned, .int m_hasRound, .ref a_hasFeels, .ref a_isOn, .int m_firstAct, .long m_meanTop, .long m_meanBy, .ref a_order, .int m_rowMany, .int m_newSteps])), (a_c, .inl (cA.1 0, 1825, .inl g_c))]) ⟨hx, hb, hml, hown, hts⟩ hK hE hT hP hD hS hA (r_isIn l G cA x_16 0 16) lk_RX12_117 ⟨rfl, rfl⟩ ⟨Nat.le_of_ble_eq_true rfl, Nat.le_of_ble_eq_true rfl⟩ [] [0, 1, 2] rfl rfl (by decide) rfl hl.1 rfl (lv_room (Nat.le_of_ble_eq_true rfl)) dX12_soon_39 ⟨Nat.le_of_ble_eq_true rfl, Nat.le_of_ble_eq_true rfl⟩ (fun r_17 u_18 H locs hw hP hD hS => ?_)
      obtain ⟨he_r_17, hw⟩ := hw
      rcases hw with ⟨rfl, hf_19⟩ | ⟨rfl, hf_20⟩
      · skip
        refine lv_if_eq (tgt := 58) hx hb dX12_soon_42 (by decide) (fun _ => ?_) (fun h9 => absurd (by decide +kernel) h9)
        refine lv_aload_n hx hb dX12_soon_58 rfl (lv_at hl 0 rfl) ?_
        refine lv_iconst (v := 5) hx hb dX12_soon_59 (by decide) ?_
        refine z_callVi (As := [.int 5]) (rest := []) (wr := [(a_there, .inl (cA.1 0, 10, .inl g_there)), (a_c, .inl (cA.1 0, 1825, .inl g_c))]) ⟨hx, hb, hml, hown, hts⟩ hK hE hT hP hD hS hA (r_refuse l G cA h0 0 0 m_above m_under a_traySort a_trayMany a_numbers a_tape m_taped m_textEnd m_faultKind m_faultAt m_bad m_badAt m_token m_at m_behind m_number m_letters m_word a_c a_words m_markMany a_there a_tried a_best a_found m_thereMany m_foundMany m_orderHow m_orderRing m_orderMany m_hasBest m_bestTop m_bestBy a_weights a_shared m_random m_truePlace m_trueWay m_seconds m_done m_feelings m_tries m_leftOver m_playDoor m_playRing m_isOpen m_isOver m_wasTried m_hasPlayed a_feltNow a_last a_kept m_hasSeconds m_hasTurned m_hasRound a_hasFeels a_isOn m_firstAct m_meanTop m_meanBy a_order m_rowMany m_newSteps 5) lk_RX12_269 ⟨rfl, rfl⟩ ⟨Nat.le_of_ble_eq_true rfl, Nat.le_of_ble_eq_true rfl⟩ 12 rfl rfl rfl [1] [0, 2] rfl rfl (by decide) rfl hl.1 rfl (lv_room (Nat.le_of_ble_eq_true rfl)) dX12_soon_60 ⟨Nat.le_of_ble_eq_true rfl, Nat.le_of_ble_eq_true rfl⟩ (fun r_22 u_23 H locs hw hP hD hS => ?_)
        obtain ⟨n_21, rfl⟩ : ∃ z, z = u_23 := ⟨_, rfl⟩
        obtain ⟨he_r_22, he_n_21, hw⟩ := hw
        have hr_r_22 := hw
        have hpost : ((-1) ≤ r_22.toInt ∧ r_22.toInt ≤ 10) ∧ (0 ≤ (0 : Int32).toInt ∧ (0 : Int32).toInt ≤ 0) ∧ (0 ≤ m_thereMany.toInt ∧ m_thereMany.toInt ≤ 10) ∧ (zRg 10 0 9 g_there) := ⟨(z_rgw hr_r_22 (by decide) (by decide)), (by decide +kernel), hr_m_thereMany, hC_g_there⟩
        exact hret _ _ _ _ _ _ (n_21, 0, m_thereMany, g_there) [2, 1, 0] hP hD hS rfl (by decide) dX12_soon_63 hpost
      · skip
        refine lv_if_eq (tgt := 58) hx hb dX12_soon_42 (by decide) (fun h9 => absurd h9 (by decide +kernel)) (fun _ => ?_)
        refine lv_iload hx hb dX12_soon_45 (lv_at hl 4 rfl) ?_
        refine lv_i2l (v := (sure).toInt64) hx hb dX12_soon_47 rfl ?_
        refine lv_topl (fun x_24 he_x_24 => ?_)
        have hq_x_24 := z_i2l he_x_24
        have hL_sure := z_full sure
        refine lv_lconst (v := 1) hx hb dX12_soon_48 (by decide) ?_
        refine lv_ldc2 (v := 16) hx hb hown (hts _ tw_2470) dX12_soon_49 ?_
        refine z_callSi (As := [.long x_24, .long 1, .long 16]) (rest := []) (wr := [(a_there, .inl (cA.1 0, 10, .inl g_there)), (h0, .inr (12, [.int 0, .int 0, .long m_above, .long m_under, .ref a_traySort, .ref a_trayMany, .ref a_numbers, .ref a_tape, .int m_taped, .int m_textEnd, .int m_faultKind, .int m_faultAt, .int m_bad, .int m_badAt, .int m_token, .int m_at, .int m_behind, .int m_number, .int m_letters, .long m_word, .ref a_c, .ref a_words, .int m_markMany, .ref a_there, .ref a_tried, .ref a_best, .ref a_found, .int m_thereMany, .int m_foundMany, .int m_orderHow, .int m_orderRing, .int m_orderMany, .int m_hasBest, .long m_bestTop, .long m_bestBy, .ref a_weights, .ref a_shared, .int m_random, .int m_truePlace, .int m_trueWay, .int m_seconds, .int m_done, .int m_feelings, .int m_tries, .int m_leftOver, .int m_playDoor, .int m_playRing, .int m_isOpen, .int m_isOver, .int m_wasTried, .int m_hasPlayed, .ref a_feltNow, .ref a_last, .ref a_kept, .int m_hasSeconds, .int m_hasTurned, .int m_hasRound, .ref a_hasFeels, .ref a_isOn, .int m_firstAct, .long m_meanTop, .long m_meanBy, .ref a_order, .int m_rowMany, .int m_newSteps])), (a_c, .inl (cA.1 0, 1825, .inl g_c))]) ⟨hx, hb, hml, hown, hts⟩ hK hE hT hP hD hS hA (r_isIn l G cA x_24 1 16) lk_RX12_117 ⟨rfl, rfl⟩ ⟨Nat.le_of_ble_eq_true rfl, Nat.le_of_ble_eq_true rfl⟩ [] [0, 1, 2] rfl rfl (by decide) rfl hl.1 rfl (lv_room (Nat.le_of_ble_eq_true rfl)) dX12_soon_52 ⟨Nat.le_of_ble_eq_true rfl, Nat.le_of_ble_eq_true rfl⟩ (fun r_25 u_26 H locs hw hP hD hS => ?_)
        obtain ⟨he_r_25, hw⟩ := hw
        rcases hw with ⟨rfl, hf_27⟩ | ⟨rfl, hf_28⟩
        · skip
          refine lv_if_ne (tgt := 64) hx hb dX12_soon_55 (by decide) (fun h9 => absurd (by decide +kernel) h9) (fun _ => ?_)
          refine lv_aload_n hx hb dX12_soon_58 rfl (lv_at hl 0 rfl) ?_
          refine lv_iconst (v := 5) hx hb dX12_soon_59 (by decide) ?_
          refine z_callVi (As := [.int 5]) (rest := []) (wr := [(a_there, .inl (cA.1 0, 10, .inl g_there)), (a_c, .inl (cA.1 0, 1825, .inl g_c))]) ⟨hx, hb, hml, hown, hts⟩ hK hE hT hP hD hS hA (r_refuse l G cA h0 0 0 m_above m_under a_traySort a_trayMany a_numbers a_tape m_taped m_textEnd m_faultKind m_faultAt m_bad m_badAt m_token m_at m_behind m_number m_letters m_word a_c a_words m_markMany a_there a_tried a_best a_found m_thereMany m_foundMany m_orderHow m_orderRing m_orderMany m_hasBest m_bestTop m_bestBy a_weights a_shared m_random m_truePlace m_trueWay m_seconds m_done m_feelings m_tries m_leftOver m_playDoor m_playRing m_isOpen m_isOver m_wasTried m_hasPlayed a_feltNow a_last a_kept m_hasSeconds m_hasTurned m_hasRound a_hasFeels a_isOn m_firstAct m_meanTop m_meanBy a_order m_rowMany m_newSteps 5) lk_RX12_269 ⟨rfl, rfl⟩ ⟨Nat.le_of_ble_eq_true rfl, Nat.le_of_ble_eq_true rfl⟩ 12 rfl rfl rfl [1] [0, 2] rfl rfl (by decide) rfl hl.1 rfl (lv_room (Nat.le_of_ble_eq_true rfl)) dX12_soon_60 ⟨Nat.le_of_ble_eq_true rfl, Nat.le_of_ble_eq_true rfl⟩ (fun r_30 u_31 H locs hw hP hD hS => ?_)
          obtain ⟨n_29, rfl⟩ : ∃ z, z = u_31 := ⟨_, rfl⟩
          obtain ⟨he_r_30, he_n_29, hw⟩ := hw
          have hr_r_30 := hw
          have hpost : ((-1) ≤ r_30.toInt ∧ r_30.toInt ≤ 10) ∧ (0 ≤ (0 : Int32).toInt ∧ (0 : Int32).toInt ≤ 0) ∧ (0 ≤ m_thereMany.toInt ∧ m_thereMany.toInt ≤ 10) ∧ (zRg 10 0 9 g_there) := ⟨(z_rgw hr_r_30 (by decide) (by decide)), (by decide +kernel), hr_m_thereMany, hC_g_there⟩
          exact hret _ _ _ _ _ _ (n_29, 0, m_thereMany, g_there) [2, 1, 0] hP hD hS rfl (by decide) dX12_soon_63 hpost
        · skip
          refine lv_if_ne (tgt := 64) hx hb dX12_soon_55 (by decide) (fun _ => ?_) (fun h9 => absurd h9 (by decide +kernel))
          refine lv_aload_n hx hb dX12_soon_64 rfl (lv_at hl 0 rfl) ?_
          refine lv_iload_n hx hb dX12_soon_65 rfl (lv_at hl 1 rfl) ?_
          refine lv_iload_n hx hb dX12_soon_66 rfl (lv_at hl 2 rfl) ?_
          refine z_callVi (As := [.int k, .int d]) (rest := []) (wr := []) ⟨hx, hb, hml, hown, hts⟩ hK hE hT hP hD hS hA (r_isOnly l G cA h0 0 0 m_above m_under a_traySort a_trayMany a_numbers a_tape m_taped m_textEnd m_faultKind m_faultAt m_bad m_badAt m_token m_at m_behind m_number m_letters m_word a_c a_words m_markMany a_there a_tried a_best a_found m_thereMany m_foundMany m_orderHow m_orderRing m_orderMany m_hasBest m_bestTop m_bestBy a_weights a_shared m_random m_truePlace m_trueWay m_seconds m_done m_feelings m_tries m_leftOver m_playDoor m_playRing m_isOpen m_isOver m_wasTried m_hasPlayed a_feltNow a_last a_kept m_hasSeconds m_hasTurned m_hasRound a_hasFeels a_isOn m_firstAct m_meanTop m_meanBy a_order m_rowMany m_newSteps g_c g_there k d (by omega) (by omega) hr_m_thereMany hC_g_c hC_g_there) lk_RX12_479 ⟨rfl, rfl⟩ ⟨Nat.le_of_ble_eq_true rfl, Nat.le_of_ble_eq_true rfl⟩ 12 rfl rfl rfl [1, 2, 0] [] rfl rfl (by decide) rfl hl.1 rfl (lv_room (Nat.le_of_ble_eq_true rfl)) dX12_soon_67 ⟨Nat.le_of_ble_eq_true rfl, Nat.le_of_ble_eq_true rfl⟩ (fun r_34 u_35 H locs hw hP hD hS => ?_)
          obtain ⟨n_32, n_33⟩ := u_35
          try dsimp only at hw
          rcases hw with ⟨rfl, hr_n_32, hC_n_33⟩ | ⟨rfl, hr_n_32, hC_n_33, hf_36⟩
          · skip
            refine lv_if_ne (tgt := 80) hx hb dX12_soon_70 (by decide) (fun h9 => absurd (by decide +kernel) h9) (fun _ => ?_)
            refine lv_aload_n hx hb dX12_soon_73 rfl (lv_at hl 0 rfl) ?_
            refine lv_bipush (v := 9) hx hb dX12_soon_74 (by decide) ?_
            refine z_callVi (As := [.int 9]) (rest := []) (wr := [(a_c, .inl (cA.1 0, 1825, .inl g_c)), (a_there, .inl (cA.1 0, 10, .inl n_33))]) ⟨hx, hb, hml, hown, hts⟩ hK hE hT hP hD hS hA (r_refuse l G cA h0 0 0 m_above m_under a_traySort a_trayMany a_numbers a_tape m_taped m_textEnd m_faultKind m_faultAt m_bad m_badAt m_token m_at m_behind m_number m_letters m_word a_c a_words m_markMany a_there a_tried a_best a_found n_32 m_foundMany m_orderHow m_orderRing m_orderMany m_hasBest m_bestTop m_bestBy a_weights a_shared m_random m_truePlace m_trueWay m_seconds m_done m_feelings m_tries m_leftOver m_playDoor m_playRing m_isOpen m_isOver m_wasTried m_hasPlayed a_feltNow a_last a_kept m_hasSeconds m_hasTurned m_hasRound a_hasFeels a_isOn m_firstAct m_meanTop m_meanBy a_order m_rowMany m_newSteps 9) lk_RX12_269 ⟨rfl, rfl⟩ ⟨Nat.le_of_ble_eq_true rfl, Nat.le_of_ble_eq_true rfl⟩ 12 rfl rfl rfl [0] [1, 2] rfl rfl (by decide) rfl hl.1 rfl (lv_room (Nat.le_of_ble_eq_true rfl)) dX12_soon_76 ⟨Nat.le_of_ble_eq_true rfl, Nat.le_of_ble_eq_true rfl⟩ (fun r_38 u_39 H locs hw hP hD hS => ?_)
            obtain ⟨n_37, rfl⟩ : ∃ z, z = u_39 := ⟨_, rfl⟩
            obtain ⟨he_r_38, he_n_37, hw⟩ := hw
            have hr_r_38 := hw
            have hpost : ((-1) ≤ r_38.toInt ∧ r_38.toInt ≤ 10) ∧ (0 ≤ (0 : Int32).toInt ∧ (0 : Int32).toInt ≤ 0) ∧ (0 ≤ n_32.toInt ∧ n_32.toInt ≤ 10) ∧ (zRg 10 0 9 n_33) := ⟨(z_rgw hr_r_38 (by decide) (by decide)), (by decide +kernel), hr_n_32, hC_n_33⟩
            exact hret _ _ _ _ _ _ (n_37, 0, n_32, n_33) [2, 0, 1] hP hD hS rfl (by decide) dX12_soon_79 hpost
          · skip
            refine lv_if_ne (tgt := 80) hx hb dX12_soon_70 (by decide) (fun _ => ?_) (fun h9 => absurd h9 (by decide +kernel))
            refine lv_iload_n hx hb dX12_soon_80 rfl (lv_at hl 3 rfl) ?_
            refine lv_if_ne (tgt := 91) hx hb dX12_soon_81 (by decide) (fun c_40 => ?_) (fun c_40 => ?_)
            · have b_41 := z_fneT c_40
              refine lv_aload_n hx hb dX12_soon_91 rfl (lv_at hl 0 rfl) ?_
              refine va_get (D := G) (ci := 12) (v := .int n_32) (C := RX12) (T := TX12) (N := 65) hx hb hts inT12 hown hK hP 0 rfl rfl 27 (by decide) (hts _ tw_1912) (fun _ h9 => h9) rfl dX12_soon_92 ?_
              refine lv_istore (lv' := [(5, .int n_32), (0, .ref h0), (1, .int k), (2, .int d), (3, .int lent), (4, .int sure)]) hx hb dX12_soon_95 hl (by decide) rfl (fun ls hl => ?_)
              refine lv_iconst (v := 0) hx hb dX12_soon_97 (by decide) ?_
              refine lv_istore (lv' := [(6, .int 0), (5, .int n_32), (0, .ref h0), (1, .int k), (2, .int d), (3, .int lent), (4, .int sure)]) hx hb dX12_soon_98 hl (by decide) rfl (fun ls hl => ?_)
              have hlp_304 : ∀ (n : Nat) (v_282 : Int32) (H : Heap) (locs : List Loc) (ls : Array Slot), (2147483647 - v_282.toInt).toNat < n → (0 ≤ v_282.toInt ∧ v_282.toInt ≤ 10) → va_P G vwCl [(h0, .inr (12, [.int 0, .int 0, .long m_above, .long m_under, .ref a_traySort, .ref a_trayMany, .ref a_numbers, .ref a_tape, .int m_taped, .int m_textEnd, .int m_faultKind, .int m_faultAt, .int m_bad, .int m_badAt, .int m_token, .int m_at, .int m_behind, .int m_number, .int m_letters, .long m_word, .ref a_c, .ref a_words, .int m_markMany, .ref a_there, .ref a_tried, .ref a_best, .ref a_found, .int n_32, .int m_foundMany, .int m_orderHow, .int m_orderRing, .int m_orderMany, .int m_hasBest, .long m_bestTop, .long m_bestBy, .ref a_weights, .ref a_shared, .int m_random, .int m_truePlace, .int m_trueWay, .int m_seconds, .int m_done, .int m_feelings, .int m_tries, .int m_leftOver, .int m_playDoor, .int m_playRing, .int m_isOpen, .int m_isOver, .int m_wasTried, .int m_hasPlayed, .ref a_feltNow, .ref a_last, .ref a_kept, .int m_hasSeconds, .int m_hasTurned, .int m_hasRound, .ref a_hasFeels, .ref a_isOn, .int m_firstAct, .long m_meanTop, .long m_meanBy, .ref a_order, .int m_rowMany, .int m_newSteps])), (a_c, .inl (cA.1 0, 1825, .inl g_c)), (a_there, .inl (cA.1 0, 10, .inl n_33))] H → va_D A [(h0, .inr (12, [.int 0, .int 0, .long m_above, .long m_under, .ref a_traySort, .ref a_trayMany, .ref a_numbers, .ref a_tape, .int m_taped, .int m_textEnd, .int m_faultKind, .int m_faultAt, .int m_bad, .int m_badAt, .int m_token, .int m_at, .int m_behind, .int m_number, .int m_letters, .long m_word, .ref a_c, .ref a_words, .int m_markMany, .ref a_there, .ref a_tried, .ref a_best, .ref a_found, .int n_32, .int m_foundMany, .int m_orderHow, .int m_orderRing, .int m_orderMany, .int m_hasBest, .long m_bestTop, .long m_bestBy, .ref a_weights, .ref a_shared, .int m_random, .int m_truePlace, .int m_trueWay, .int m_seconds, .int m_done, .int m_feelings, .int m_tries, .int m_leftOver, .int m_playDoor, .int m_playRing, .int m_isOpen, .int m_isOver, .int m_wasTried, .int m_hasPlayed, .ref a_feltNow, .ref a_last, .ref a_kept, .int m_hasSeconds, .int m_hasTurned, .int m_hasRound, .ref a_hasFeels, .ref a_isOn, .int m_firstAct, .long m_meanTop, .long m_meanBy, .ref a_order, .int m_rowMany, .int m_newSteps])), (a_c, .inl (cA.1 0, 1825, .inl g_c)), (a_there, .inl (cA.1 0, 10, .inl n_33))] → va_S A s.heap H locs → lv_has ls 7 [(0, .ref h0), (1, .int k), (2, .int d), (3, .int lent), (4, .int sure), (5, .int n_32), (6, .int v_282)] → W p l e ({ frames := 2, cells := 0, slots := 0, locals := 47 }) s m args below meth c H locs 0 0 Q (F0 m 100 ls []) := by
                intro n
                induction n with
                | zero =>
                  intro v_282 H locs ls hmu_hlp_304 hr_v_282 hP hD hS hl
                  exact absurd hmu_hlp_304 (Nat.not_lt_zero _)
                | succ n ih_305 =>
                  intro v_282 H locs ls hmu_hlp_304 hr_v_282 hP hD hS hl
                  refine lv_iload hx hb dX12_soon_100 (lv_at hl 6 rfl) ?_
                  refine lv_iload hx hb dX12_soon_102 (lv_at hl 5 rfl) ?_
                  refine lv_icmp_ge (tgt := 152) hx hb dX12_soon_104 (by decide) (fun c_306 => ?_) (fun c_306 => ?_)
                  · have b_307 := z_fgeT c_306
                    refine lv_iload hx hb dX12_soon_152 (lv_at hl 5 rfl) ?_
                    have hpost : ((-1) ≤ n_32.toInt ∧ n_32.toInt ≤ 10) ∧ (0 ≤ (0 : Int32).toInt ∧ (0 : Int32).toInt ≤ 0) ∧ (0 ≤ n_32.toInt ∧ n_32.toInt ≤ 10) ∧ (zRg 10 0 9 n_33) := ⟨(z_rgw hr_n_32 (by decide) (by decide)), (by decide +kernel), hr_n_32, hC_n_33⟩
                    exact hret _ _ _ _ _ _ (0, 0, n_32, n_33) [0, 1, 2] hP hD hS rfl (by decide) dX12_soon_154 hpost
                  · have b_308 := z_fltF c_306
                    refine lv_ldc2 (v := 16) hx hb hown (hts _ tw_2470) dX12_soon_107 ?_
                    refine lv_iload_n hx hb dX12_soon_110 rfl (lv_at hl 3 rfl) ?_
                    refine lv_i2l (v := (lent).toInt64) hx hb dX12_soon_111 rfl ?_
                    refine lv_topl (fun x_309 he_x_309 => ?_)
                    have hq_x_309 := z_i2l he_x_309
                    refine lv_lmul hx hb dX12_soon_112 ?_
                    refine lv_topl (fun x_310 he_x_310 => ?_)
                    have hq_x_310 := z_mulql he_x_310 hkl_16 (rfl : x_309.toInt = _) (by omega) (by omega)
                    refine lv_iload hx hb dX12_soon_113 (lv_at hl 5 rfl) ?_
                    refine lv_i2l (v := (n_32).toInt64) hx hb dX12_soon_115 rfl ?_
                    refine lv_topl (fun x_311 he_x_311 => ?_)
                    have hq_x_311 := z_i2l he_x_311
                    refine lv_lmul hx hb dX12_soon_116 ?_
                    refine lv_topl (fun x_312 he_x_312 => ?_)
                    have hr_x_312 := z_mulrl he_x_312 (M := 256) (N := 10) (by omega) (by omega) (by decide)
                    have hm_x_312 := z_mulpl he_x_312 (M := 256) (N := 10) (by omega) (by omega) (by decide)
                    refine lv_iload hx hb dX12_soon_117 (lv_at hl 4 rfl) ?_
                    refine lv_i2l (v := (sure).toInt64) hx hb dX12_soon_119 rfl ?_
                    refine lv_topl (fun x_313 he_x_313 => ?_)
                    have hq_x_313 := z_i2l he_x_313
                    refine lv_iload_n hx hb dX12_soon_120 rfl (lv_at hl 3 rfl) ?_
                    refine lv_i2l (v := (lent).toInt64) hx hb dX12_soon_121 rfl ?_
                    refine lv_topl (fun x_314 he_x_314 => ?_)
                    have hq_x_314 := z_i2l he_x_314
                    refine lv_iload hx hb dX12_soon_122 (lv_at hl 5 rfl) ?_
                    refine lv_i2l (v := (n_32).toInt64) hx hb dX12_soon_124 rfl ?_
                    refine lv_topl (fun x_315 he_x_315 => ?_)
                    have hq_x_315 := z_i2l he_x_315
                    refine lv_lmul hx hb dX12_soon_125 ?_
                    refine lv_topl (fun x_316 he_x_316 => ?_)
                    have hr_x_316 := z_mulrl he_x_316 (M := 16) (N := 10) (by omega) (by omega) (by decide)
                    have hm_x_316 := z_mulpl he_x_316 (M := 16) (N := 10) (by omega) (by omega) (by decide)
                    refine lv_bipush (v := 16) hx hb dX12_soon_126 (by decide) ?_
                    refine lv_iload_n hx hb dX12_soon_128 rfl (lv_at hl 3 rfl) ?_
                    refine lv_isub hx hb dX12_soon_129 ?_
                    refine lv_topi (fun x_317 he_x_317 => ?_)
                    have hq_x_317 := z_subq he_x_317 hk_16 (rfl : lent.toInt = _) (by omega) (by omega)
                    refine lv_iload hx hb dX12_soon_130 (lv_at hl 5 rfl) ?_
                    refine lv_iload hx hb dX12_soon_132 (lv_at hl 6 rfl) ?_
                    refine lv_isub hx hb dX12_soon_134 ?_
                    refine lv_topi (fun x_318 he_x_318 => ?_)
                    have hq_x_318 := z_subq he_x_318 (rfl : n_32.toInt = _) (rfl : v_282.toInt = _) (by omega) (by omega)
                    refine lv_imul hx hb dX12_soon_135 ?_
                    refine lv_topi (fun x_319 he_x_319 => ?_)
                    refine lv_i2l (v := (x_319).toInt64) hx hb dX12_soon_136 rfl ?_
                    refine lv_topl (fun x_320 he_x_320 => ?_)
                    have hq_x_320 := z_i2l he_x_320
                    have hL_x_319 := z_full x_319
                    refine lv_ladd hx hb dX12_soon_137 ?_
                    refine lv_topl (fun x_321 he_x_321 => ?_)
                    have hq_x_321 := z_addql he_x_321 (rfl : x_316.toInt = _) (rfl : x_320.toInt = _) (by omega) (by omega)
                    refine lv_lmul hx hb dX12_soon_138 ?_
                    refine lv_topl (fun x_322 he_x_322 => ?_)
                    refine W.lcmp hx hb dX12_soon_139 ?_
                    refine lv_if_lt (tgt := 146) hx hb dX12_soon_140 (by decide) (fun c_323 => ?_) (fun c_323 => ?_)
                    · have b_324 := z_fltTl c_323
                      obtain ⟨x_325, he_x_325⟩ : ∃ z : Int32, z = v_282 + 1 := ⟨_, rfl⟩
                      have hq_x_325 := z_addq he_x_325 (rfl : v_282.toInt = _) hk_1 (by omega) (by omega)
                      refine lv_iinc (v := x_325) (lv' := [(6, .int x_325), (0, .ref h0), (1, .int k), (2, .int d), (3, .int lent), (4, .int sure), (5, .int n_32)]) hx hb dX12_soon_146 hl (k := 6) rfl ((z_ofi (by decide +kernel)).trans he_x_325.symm) (by decide) rfl (fun ls hl => ?_)
                      refine lv_goto (tgt := 100) hx hb dX12_soon_149 (by decide) ?_
                      exact ih_305 x_325 H locs ls (by omega) (by omega) hP hD hS (lv_sub hl [1, 2, 3, 4, 5, 6, 0] rfl)
                    · have b_326 := z_fgeFl c_323
                      refine lv_iload hx hb dX12_soon_143 (lv_at hl 6 rfl) ?_
                      have hpost : ((-1) ≤ v_282.toInt ∧ v_282.toInt ≤ 10) ∧ (0 ≤ (0 : Int32).toInt ∧ (0 : Int32).toInt ≤ 0) ∧ (0 ≤ n_32.toInt ∧ n_32.toInt ≤ 10) ∧ (zRg 10 0 9 n_33) := ⟨(z_rgw hr_v_282 (by decide) (by decide)), (by decide +kernel), hr_n_32, hC_n_33⟩
                      exact hret _ _ _ _ _ _ (0, 0, n_32, n_33) [0, 1, 2] hP hD hS rfl (by decide) dX12_soon_145 hpost
              exact hlp_304 _ 0 _ _ _ (Nat.lt_succ_self _) (by decide +kernel) hP hD hS (lv_sub hl [2, 3, 4, 5, 6, 1, 0] rfl)
            · have b_327 := z_feqF c_40
              refine lv_aload_n hx hb dX12_soon_84 rfl (lv_at hl 0 rfl) ?_
              refine lv_bipush (v := 8) hx hb dX12_soon_85 (by decide) ?_
              refine z_callVi (As := [.int 8]) (rest := []) (wr := [(a_c, .inl (cA.1 0, 1825, .inl g_c)), (a_there, .inl (cA.1 0, 10, .inl n_33))]) ⟨hx, hb, hml, hown, hts⟩ hK hE hT hP hD hS hA (r_refuse l G cA h0 0 0 m_above m_under a_traySort a_trayMany a_numbers a_tape m_taped m_textEnd m_faultKind m_faultAt m_bad m_badAt m_token m_at m_behind m_number m_letters m_word a_c a_words m_markMany a_there a_tried a_best a_found n_32 m_foundMany m_orderHow m_orderRing m_orderMany m_hasBest m_bestTop m_bestBy a_weights a_shared m_random m_truePlace m_trueWay m_seconds m_done m_feelings m_tries m_leftOver m_playDoor m_playRing m_isOpen m_isOver m_wasTried m_hasPlayed a_feltNow a_last a_kept m_hasSeconds m_hasTurned m_hasRound a_hasFeels a_isOn m_firstAct m_meanTop m_meanBy a_order m_rowMany m_newSteps 8) lk_RX12_269 ⟨rfl, rfl⟩ ⟨Nat.le_of_ble_eq_true rfl, Nat.le_of_ble_eq_true rfl⟩ 12 rfl rfl rfl [0] [1, 2] rfl rfl (by decide) rfl hl.1 rfl (lv_room (Nat.le_of_ble_eq_true rfl)) dX12_soon_87 ⟨Nat.le_of_ble_eq_true rfl, Nat.le_of_ble_eq_true rfl⟩ (fun r_329 u_330 H locs hw hP hD hS => ?_)
              obtain ⟨n_328, rfl⟩ : ∃ z, z = u_330 := ⟨_, rfl⟩
              obtain ⟨he_r_329, he_n_328, hw⟩ := hw
              have hr_r_329 := hw
              have hpost : ((-1) ≤ r_329.toInt ∧ r_329.toInt ≤ 10) ∧ (0 ≤ (0 : Int32).toInt ∧ (0 : Int32).toInt ≤ 0) ∧ (0 ≤ n_32.toInt ∧ n_32.toInt ≤ 10) ∧ (zRg 10 0 9 n_33) := ⟨(z_rgw hr_r_329 (by decide) (by decide)), (by decide +kernel), hr_n_32, hC_n_33⟩
              exact hret _ _ _ _ _ _ (n_328, 0, n_32, n_33) [2, 0, 1] hP hD hS rfl (by decide) dX12_soon_90 hpost
set_option maxHeartbeats 4000000 in
set_option maxRecDepth 100000 in
theorem r_insert (l : Launch) (G : va_G) (cA : zCA) (h0 : Nat) (m_status : Int32) (m_thrown : Int32) (m_above : Int64) (m_under : Int64) (a_traySort : Nat) (a_trayMany : Nat) (a_numbers : Nat) (a_tape : Nat) (m_taped : Int32) (m_textEnd : Int32) (m_faultKind : Int32) (m_faultAt : Int32) (m_bad : Int32) (m_badAt : Int32) (m_token : Int32) (m_at : Int32) (m_behind : Int32) (m_number : Int32) (m_letters : Int32) (m_word : Int64) (a_c : Nat) (a_words : Nat) (m_markMany : Int32) (a_there : Nat) (a_tried : Nat) (a_best : Nat) (a_found : Nat) (m_thereMany : Int32) (m_foundMany : Int32) (m_orderHow : Int32) (m_orderRing : Int32) (m_orderMany : Int32) (m_hasBest : Int32) (m_bestTop : Int64) (m_bestBy : Int64) (a_weights : Nat) (a_shared : Nat) (m_random : Int32) (m_truePlace : Int32) (m_trueWay : Int32) (m_seconds : Int32) (m_done : Int32) (m_feelings : Int32) (m_tries : Int32) (m_leftOver : Int32) (m_playDoor : Int32) (m_playRing : Int32) (m_isOpen : Int32) (m_isOver : Int32) (m_wasTried : Int32) (m_hasPlayed : Int32) (a_feltNow : Nat) (a_last : Nat) (a_kept : Nat) (m_hasSeconds : Int32) (m_hasTurned : Int32) (m_hasRound : Int32) (a_hasFeels : Nat) (a_isOn : Nat) (m_firstAct : Int32) (m_meanTop : Int64) (m_meanBy : Int64) (a_order : Nat) (m_rowMany : Int32) (m_newSteps : Int32) (g_c : Nat → Int32) (k : Int32) (r : Int32) (pp : Int32) (hr_k : 0 ≤ k.toInt ∧ k.toInt ≤ 9) (hr_r : 0 ≤ r.toInt ∧ r.toInt ≤ 2) (hr_pp : 0 ≤ pp.toInt ∧ pp.toInt ≤ 10) (hZ_g_c : zC g_c) (hp_0 : r.toInt < (g_c 2).toInt) (hp_1 : k.toInt < (g_c 1).toInt) (hp_2 : pp.toInt ≤ (g_c (95 + r.toInt.toNat)).toInt) (hp_3 : zRO g_c k.toInt (-1)) : zCv l yX12_insert cX12_insert 5 none ({ frames := 0, cells := 0, slots := 0, locals := 0 }) G cA [.ref h0, .int k, .int r, .int pp] [(h0, .inr (12, [.int m_status, .int m_thrown, .long m_above, .long m_under, .ref a_traySort, .ref a_trayMany, .ref a_numbers, .ref a_tape, .int m_taped, .int m_textEnd, .int m_faultKind, .int m_faultAt, .int m_bad, .int m_badAt, .int m_token, .int m_at, .int m_behind, .int m_number, .int m_letters, .long m_word, .ref a_c, .ref a_words, .int m_markMany, .ref a_there, .ref a_tried, .ref a_best, .ref a_found, .int m_thereMany, .int m_foundMany, .int m_orderHow, .int m_orderRing, .int m_orderMany, .int m_hasBest, .long m_bestTop, .long m_bestBy, .ref a_weights, .ref a_shared, .int m_random, .int m_truePlace, .int m_trueWay, .int m_seconds, .int m_done, .int m_feelings, .int m_tries, .int m_leftOver, .int m_playDoor, .int m_playRing, .int m_isOpen, .int m_isOver, .int m_wasTried, .int m_hasPlayed, .ref a_feltNow, .ref a_last, .ref a_kept, .int m_hasSeconds, .int m_hasTurned, .int m_hasRound, .ref a_hasFeels, .ref a_isOn, .int m_firstAct, .long m_meanTop, .long m_meanBy, .ref a_order, .int m_rowMany, .int m_newSteps])), (a_c, .inl (cA.1 0, 1825, .inl g_c))] (S := (Nat → Int32)) (fun (u : (Nat → Int32)) => (zC u) ∧ (zHF g_c u) ∧ (zInP g_c u r.toInt pp.toInt k.toInt)) (fun (u : (Nat → Int32)) => [(h0, .inr (12, [.int m_status, .int m_thrown, .long m_above, .long m_under, .ref a_traySort, .ref a_trayMany, .ref a_numbers, .ref a_tape, .int m_taped, .int m_textEnd, .int m_faultKind, .int m_faultAt, .int m_bad, .int m_badAt, .int m_token, .int m_at, .int m_behind, .int m_number, .int m_letters, .long m_word, .ref a_c, .ref a_words, .int m_markMany, .ref a_there, .ref a_tried, .ref a_best, .ref a_found, .int m_thereMany, .int m_foundMany, .int m_orderHow, .int m_orderRing, .int m_orderMany, .int m_hasBest, .long m_bestTop, .long m_bestBy, .ref a_weights, .ref a_shared, .int m_random, .int m_truePlace, .int m_trueWay, .int m_seconds, .int m_done, .int m_feelings, .int m_tries, .int m_leftOver, .int m_playDoor, .int m_playRing, .int m_isOpen, .int m_isOver, .int m_wasTried, .int m_hasPlayed, .ref a_feltNow, .ref a_last, .ref a_kept, .int m_hasSeconds, .int m_hasTurned, .int m_hasRound, .ref a_hasFeels, .ref a_isOn, .int m_firstAct, .long m_meanTop, .long m_meanBy, .ref a_order, .int m_rowMany, .int m_newSteps])), (a_c, .inl (cA.1 0, 1825, .inl u))]) 0 0 := by
  have hk_m1 : ((-1) : Int32).toInt = (-1) := by decide +kernel
  have hk_1 : (1 : Int32).toInt = 1 := by decide +kernel
  have hk_10 : (10 : Int32).toInt = 10 := by decide +kernel
  have hk_95 : (95 : Int32).toInt = 95 := by decide +kernel
  have hk_98 : (98 : Int32).toInt = 98 := by decide +kernel
  have hC_g_c : zCt g_c := hZ_g_c.1
  refine z_start2v (own := RX12) (by decide) (Nat.le_of_ble_eq_true rfl) rfl ?_
  intro p e s m args below meth c A ls Q hx hb hml hts hown hK hE hT hP hD hS hA hl hret
  have hl : lv_has ls 5 [(0, .ref h0), (1, .int k), (2, .int r), (3, .int pp)] := hl
  refine lv_aload_n hx hb dX12_insert_0 rfl (lv_at hl 0 rfl) ?_
  refine va_get (D := G) (ci := 12) (v := .ref a_c) (C := RX12) (T := TX12) (N := 65) hx hb hts inT12 hown hK hP 0 rfl rfl 20 (by decide) (hts _ tw_1905) (fun _ h9 => h9) rfl dX12_insert_1 ?_
  refine lv_bipush (v := 95) hx hb dX12_insert_4 (by decide) ?_
  refine lv_iload_n hx hb dX12_insert_6 rfl (lv_at hl 2 rfl) ?_
  refine lv_iadd hx hb dX12_insert_7 ?_
  refine lv_topi (fun x_1 he_x_1 => ?_)
  have hq_x_1 := z_addq he_x_1 hk_95 (rfl : r.toInt = _) (by omega) (by omega)
  refine va_iald hx hb hK hP 1 0 rfl rfl (z_inN (by omega) (by omega)) dX12_insert_8 ?_
  refine lv_topi (fun x_2 he_x_2 => ?_)
  have hr_x_2 := z_ctt hC_g_c he_x_2 (a := 95) (b := 97) (lo := 0) (hi := 10) (by decide +kernel) (by decide) (by omega) (by omega)
  have hsz_x_2 := z_sz (r := r.toInt) he_x_2 (by omega) (by omega)
  have hS9 : (g_c (95 + r.toInt.toNat)).toInt ≤ 9 := zRoom hZ_g_c (by omega) (by omega) hp_0 (by omega) hp_1 (zRO_noring hp_3 (by omega) hp_0)
  have hy9 : 0 ≤ x_2.toInt ∧ x_2.toInt ≤ 9 := by omega
  refine lv_istore (lv' := [(4, .int x_2), (0, .ref h0), (1, .int k), (2, .int r), (3, .int pp)]) hx hb dX12_insert_9 hl (by decide) rfl (fun ls hl => ?_)
  have hlp_53 : ∀ (n : Nat) (v_33 : Int32) (g_34 : Nat → Int32) (H : Heap) (locs : List Loc) (ls : Array Slot), (v_33.toInt + 2147483648).toNat < n → (0 ≤ v_33.toInt ∧ v_33.toInt ≤ 9) → (zCt g_34) → (zHF g_c g_34) → (pp.toInt ≤ v_33.toInt) → (v_33.toInt ≤ (g_c (95 + r.toInt.toNat)).toInt) → (zShI g_c g_34 (98 + 10 * r.toInt) v_33.toInt (g_c (95 + r.toInt.toNat)).toInt) → va_P G vwCl [(h0, .inr (12, [.int m_status, .int m_thrown, .long m_above, .long m_under, .ref a_traySort, .ref a_trayMany, .ref a_numbers, .ref a_tape, .int m_taped, .int m_textEnd, .int m_faultKind, .int m_faultAt, .int m_bad, .int m_badAt, .int m_token, .int m_at, .int m_behind, .int m_number, .int m_letters, .long m_word, .ref a_c, .ref a_words, .int m_markMany, .ref a_there, .ref a_tried, .ref a_best, .ref a_found, .int m_thereMany, .int m_foundMany, .int m_orderHow, .int m_orderRing, .int m_orderMany, .int m_hasBest, .long m_bestTop, .long m_bestBy, .ref a_weights, .ref a_shared, .int m_random, .int m_truePlace, .int m_trueWay, .int m_seconds, .int m_done, .int m_feelings, .int m_tries, .int m_leftOver, .int m_playDoor, .int m_playRing, .int m_isOpen, .int m_isOver, .int m_wasTried, .int m_hasPlayed, .ref a_feltNow, .ref a_last, .ref a_kept, .int m_hasSeconds, .int m_hasTurned, .int m_hasRound, .ref a_hasFeels, .ref a_isOn, .int m_firstAct, .long m_meanTop, .long m_meanBy, .ref a_order, .int m_rowMany, .int m_newSteps])), (a_c, .inl (cA.1 0, 1825, .inl g_34))] H → va_D A [(h0, .inr (12, [.int m_status, .int m_thrown, .long m_above, .long m_under, .ref a_traySort, .ref a_trayMany, .ref a_numbers, .ref a_tape, .int m_taped, .int m_textEnd, .int m_faultKind, .int m_faultAt, .int m_bad, .int m_badAt, .int m_token, .int m_at, .int m_behind, .int m_number, .int m_letters, .long m_word, .ref a_c, .ref a_words, .int m_markMany, .ref a_there, .ref a_tried, .ref a_best, .ref a_found, .int m_thereMany, .int m_foundMany, .int m_orderHow, .int m_orderRing, .int m_orderMany, .int m_hasBest, .long m_bestTop, .long m_bestBy, .ref a_weights, .ref a_shared, .int m_random, .int m_truePlace, .int m_trueWay, .int m_seconds, .int m_done, .int m_feelings, .int m_tries, .int m_leftOver, .int m_playDoor, .int m_playRing, .int m_isOpen, .int m_isOver, .int m_wasTried, .int m_hasPlayed, .ref a_feltNow, .ref a_last, .ref a_kept, .int m_hasSeconds, .int m_hasTurned, .int m_hasRound, .ref a_hasFeels, .ref a_isOn, .int m_firstAct, .long m_meanTop, .long m_meanBy, .ref a_order, .int m_rowMany, .int m_newSteps])), (a_c, .inl (cA.1 0, 1825, .inl g_34))] → va_S A s.heap H locs → lv_has ls 5 [(0, .ref h0), (1, .int k), (2, .int r), (3, .int pp), (4, .int v_33)] → W p l e ({ frames := 0, cells := 0, slots := 0, locals := 0 }) s m args below meth c H locs 0 0 Q (F0 m 11 ls []) := by
    intro n
    induction n with
    | zero =>
      intro v_33 g_34 H locs ls hmu_hlp_53 hr_v_33 hC_g_34 hs_49 hi_50 hi_51 hi_52 hP hD hS hl
      exact absurd hmu_hlp_53 (Nat.not_lt_zero _)
    | succ n ih_54 =>
      intro v_33 g_34 H locs ls hmu_hlp_53 hr_v_33 hC_g_34 hs_49 hi_50 hi_51 hi_52 hP hD hS hl
      refine lv_iload hx hb dX12_insert_11 (lv_at hl 4 rfl) ?_
      refine lv_iload_n hx hb dX12_insert_13 rfl (lv_at hl 3 rfl) ?_
      refine lv_icmp_le (tgt := 55) hx hb dX12_insert_14 (by decide) (fun c_55 => ?_) (fun c_55 => ?_)
      · have b_56 := z_fleT c_55
        refine lv_aload_n hx hb dX12_insert_55 rfl (lv_at hl 0 rfl) ?_
        have hn_k_57 : 0 ≤ pp.toInt ∧ pp.toInt ≤ 9 := by omega
        refine va_get (D := G) (ci := 12) (v := .ref a_c) (C := RX12) (T := TX12) (N := 65) hx hb hts inT12 hown hK hP 0 rfl rfl 20 (by decide) (hts _ tw_1905) (fun _ h9 => h9) rfl dX12_insert_56 ?_
        refine lv_bipush (v := 98) hx hb dX12_insert_59 (by decide) ?_
        refine lv_bipush (v := 10) hx hb dX12_insert_61 (by decide) ?_
        refine lv_iload_n hx hb dX12_insert_63 rfl (lv_at hl 2 rfl) ?_
        refine lv_imul hx hb dX12_insert_64 ?_
        refine lv_topi (fun x_58 he_x_58 => ?_)
        have hq_x_58 := z_mulq he_x_58 hk_10 (rfl : r.toInt = _) (by omega) (by omega)
        refine lv_iadd hx hb dX12_insert_65 ?_
        refine lv_topi (fun x_59 he_x_59 => ?_)
        have hq_x_59 := z_addq he_x_59 hk_98 (rfl : x_58.toInt = _) (by omega) (by omega)
        refine lv_iload_n hx hb dX12_insert_66 rfl (lv_at hl 3 rfl) ?_
        refine lv_iadd hx hb dX12_insert_67 ?_
        refine lv_topi (fun x_60 he_x_60 => ?_)
        have hq_x_60 := z_addq he_x_60 (rfl : x_59.toInt = _) (rfl : pp.toInt = _) (by omega) (by omega)
        refine lv_iload_n hx hb dX12_insert_68 rfl (lv_at hl 1 rfl) ?_
        refine z_iast hx hb hK hP hD hS 1 0 rfl rfl (z_inN (by omega) (by omega)) dX12_insert_69 (fun g_61 hg_g_61 H locs hP hD hS => ?_)
        have hC_g_61 := z_ctUt hC_g_34 hg_g_61 (a := 98) (b := 127) (lo := 0) (hi := 9) (by decide +kernel) (by omega) (by omega) (by omega)
        have hs_62 : zHF g_c g_61 := (zHF_upd hs_49 hg_g_61 (a := 98) (b := 127) (by decide) (by omega) (by omega))
        refine lv_aload_n hx hb dX12_insert_70 rfl (lv_at hl 0 rfl) ?_
        refine va_get (D := G) (ci := 12) (v := .ref a_c) (C := RX12) (T := TX12) (N := 65) hx hb hts inT12 hown hK hP 0 rfl rfl 20 (by decide) (hts _ tw_1905) (fun _ h9 => h9) rfl dX12_insert_71 ?_
        refine lv_bipush (v := 95) hx hb dX12_insert_74 (by decide) ?_
        refine lv_iload_n hx hb dX12_insert_76 rfl (lv_at hl 2 rfl) ?_
        refine lv_iadd hx hb dX12_insert_77 ?_
        refine lv_topi (fun x_63 he_x_63 => ?_)
        have hq_x_63 := z_addq he_x_63 hk_95 (rfl : r.toInt = _) (by omega) (by omega)
        refine lv_dup2_11 hx hb dX12_insert_78 rfl rfl ?_
        refine va_iald hx hb hK hP 1 0 rfl rfl (z_inN (by omega) (by omega)) dX12_insert_79 ?_
        refine lv_topi (fun x_64 he_x_64 => ?_)
        have hr_x_64 := z_ctt hC_g_61 he_x_64 (a := 95) (b := 97) (lo := 0) (hi := 10) (by decide +kernel) (by decide) (by omega) (by omega)
        have hxS_x_64 := zInX hi_52 (by omega) (by omega) (by omega) hg_g_61 (by omega) he_x_64 (by omega)
        refine lv_iconst (v := 1) hx hb dX12_insert_80 (by decide) ?_
        refine lv_iadd hx hb dX12_insert_81 ?_
        refine lv_topi (fun x_65 he_x_65 => ?_)
        have hq_x_65 := z_addq he_x_65 (rfl : x_64.toInt = _) hk_1 (by omega) (by omega)
        refine z_iast hx hb hK hP hD hS 1 0 rfl rfl (z_inN (by omega) (by omega)) dX12_insert_82 (fun g_66 hg_g_66 H locs hP hD hS => ?_)
        have hC_g_66 := z_ctUt hC_g_61 hg_g_66 (a := 95) (b := 97) (lo := 0) (hi := 10) (by decide +kernel) (by omega) (by omega) (by omega)
        have hs_67 : zHF g_c g_66 := (zHF_upd hs_62 hg_g_66 (a := 95) (b := 97) (by decide) (by omega) (by omega))
        have hin : zInP g_c g_66 r.toInt pp.toInt k.toInt := zInP_of hi_52 (by omega) (by omega) (by omega) (by omega) (by omega) hg_g_61 (by omega) he_x_64 (by omega) hg_g_66 (by omega) (by omega)
        have hpost : (zC g_66) ∧ (zHF g_c g_66) ∧ (zInP g_c g_66 r.toInt pp.toInt k.toInt) := ⟨(zInP_zC hZ_g_c hC_g_66 hin (by omega) (by omega) (by omega) (by omega) hp_1 (zRO_noring hp_3 (by omega) hp_0) hS9), hs_67, hin⟩
        exact hret _ _ _ _ _ g_66 [0, 1] hP hD hS rfl (by decide) dX12_insert_83 hpost
      · have b_68 := z_fgtF c_55
        refine lv_aload_n hx hb dX12_insert_17 rfl (lv_at hl 0 rfl) ?_
        refine va_get (D := G) (ci := 12) (v := .ref a_c) (C := RX12) (T := TX12) (N := 65) hx hb hts inT12 hown hK hP 0 rfl rfl 20 (by decide) (hts _ tw_1905) (fun _ h9 => h9) rfl dX12_insert_18 ?_
        refine lv_bipush (v := 98) hx hb dX12_insert_21 (by decide) ?_
        refine lv_bipush (v := 10) hx hb dX12_insert_23 (by decide) ?_
        refine lv_iload_n hx hb dX12_insert_25 rfl (lv_at hl 2 rfl) ?_
        refine lv_imul hx hb dX12_insert_26 ?_
        refine lv_topi (fun x_69 he_x_69 => ?_)
        have hq_x_69 := z_mulq he_x_69 hk_10 (rfl : r.toInt = _) (by omega) (by omega)
        refine lv_iadd hx hb dX12_insert_27 ?_
        refine lv_topi (fun x_70 he_x_70 => ?_)
        have hq_x_70 := z_addq he_x_70 hk_98 (rfl : x_69.toInt = _) (by omega) (by omega)
        refine lv_iload hx hb dX12_insert_28 (lv_at hl 4 rfl) ?_
        refine lv_iadd hx hb dX12_insert_30 ?_
        refine lv_topi (fun x_71 he_x_71 => ?_)
        have hq_x_71 := z_addq he_x_71 (rfl : x_70.toInt = _) (rfl : v_33.toInt = _) (by omega) (by omega)
        refine lv_aload_n hx hb dX12_insert_31 rfl (lv_at hl 0 rfl) ?_
        refine va_get (D := G) (ci := 12) (v := .ref a_c) (C := RX12) (T := TX12) (N := 65) hx hb hts inT12 hown hK hP 0 rfl rfl 20 (by decide) (hts _ tw_1905) (fun _ h9 => h9) rfl dX12_insert_32 ?_
        refine lv_bipush (v := 98) hx hb dX12_insert_35 (by decide) ?_
        refine lv_bipush (v := 10) hx hb dX12_insert_37 (by decide) ?_
        refine lv_iload_n hx hb dX12_insert_39 rfl (lv_at hl 2 rfl) ?_
        refine lv_imul hx hb dX12_insert_40 ?_
        refine lv_topi (fun x_72 he_x_72 => ?_)
        have hq_x_72 := z_mulq he_x_72 hk_10 (rfl : r.toInt = _) (by omega) (by omega)
        refine lv_iadd hx hb dX12_insert_41 ?_
        refine lv_topi (fun x_73 he_x_73 => ?_)
        have hq_x_73 := z_addq he_x_73 hk_98 (rfl : x_72.toInt = _) (by omega) (by omega)
        refine lv_iload hx hb dX12_insert_42 (lv_at hl 4 rfl) ?_
        refine lv_iadd hx hb dX12_insert_44 ?_
        refine lv_topi (fun x_74 he_x_74 => ?_)
        have hq_x_74 := z_addq he_x_74 (rfl : x_73.toInt = _) (rfl : v_33.toInt = _) (by omega) (by omega)
        refine lv_iconst (v := 1) hx hb dX12_insert_45 (by decide) ?_
        refine lv_isub hx hb dX12_insert_46 ?_
        refine lv_topi (fun x_75 he_x_75 => ?_)
        have hq_x_75 := z_subq he_x_75 (rfl : x_74.toInt = _) hk_1 (by omega) (by omega)
        refine va_iald hx hb hK hP 1 0 rfl rfl (z_inN (by omega) (by omega)) dX12_insert_47 ?_
        refine lv_topi (fun x_76 he_x_76 => ?_)
        have hr_x_76 := z_ctt hC_g_34 he_x_76 (a := 98) (b := 126) (lo := 0) (hi := 9) (by decide +kernel) (by decide) (by omega) (by omega)
        refine z_iast hx hb hK hP hD hS 1 0 rfl rfl (z_inN (by omega) (by omega)) dX12_insert_48 (fun g_77 hg_g_77 H locs hP hD hS => ?_)
        have hC_g_77 := z_ctUt hC_g_34 hg_g_77 (a := 99) (b := 127) (lo := 0) (hi := 9) (by decide +kernel) (by omega) (by omega) (by omega)
        have hs_78 : zHF g_c g_77 := (zHF_upd hs_49 hg_g_77 (a := 99) (b := 127) (by decide) (by omega) (by omega))
        obtain ⟨x_79, he_x_79⟩ : ∃ z : Int32, z = v_33 + (-1) := ⟨_, rfl⟩
        have hq_x_79 := z_addq he_x_79 (rfl : v_33.toInt = _) hk_m1 (by omega) (by omega)
        refine lv_iinc (v := x_79) (lv' := [(4, .int x_79), (0, .ref h0), (1, .int k), (2, .int r), (3, .int pp)]) hx hb dX12_insert_49 hl (k := 4) rfl ((z_ofi (by decide +kernel)).trans he_x_79.symm) (by decide) rfl (fun ls hl => ?_)
        refine lv_goto (tgt := 11) hx hb dX12_insert_52 (by decide) ?_
        exact ih_54 x_79 g_77 H locs ls (by omega) (by omega) hC_g_77 hs_78 (by omega) (by omega) (by rw [show x_79.toInt = v_33.toInt - 1 by omega]; exact zShI_step hi_52 hg_g_77 he_x_76 (by omega) (by omega) (by omega) (by omega)) hP hD hS (lv_sub hl [1, 2, 3, 4, 0] rfl)
  exact hlp_53 _ x_2 g_c _ _ _ (Nat.lt_succ_self _) (by omega) hC_g_c (zHF_refl g_c) (by omega) (by omega) (by rw [hsz_x_2]; exact zShI_0) hP hD hS (lv_sub hl [1, 2, 3, 4, 0] rfl)
set_option maxHeartbeats 4000000 in
set_option maxRecDepth 100000 in
theorem r_take2 (l : Launch) (G : va_G) (cA : zCA) (h0 : Nat) (m_status : Int32) (m_thrown : Int32) (m_above : Int64) (m_under : Int64) (a_traySort : Nat) (a_trayMany : Nat) (a_numbers : Nat) (a_tape : Nat) (m_taped : Int32) (m_textEnd : Int32) (m_faultKind : Int32) (m_faultAt : Int32) (m_bad : Int32) (m_badAt : Int32) (m_token : Int32) (m_at : Int32) (m_behind : Int32) (m_number : Int32) (m_letters : Int32) (m_word : Int64) (a_c : Nat) (a_words : Nat) (m_markMany : Int32) (a_there : Nat) (a_tried : Nat) (a_best : Nat) (a_found : Nat) (m_thereMany : Int32) (m_foundMany : Int32) (m_orderHow : Int32) (m_orderRing : Int32) (m_orderMany : Int32) (m_hasBest : Int32) (m_bestTop : Int64) (m_bestBy : Int64) (a_weights : Nat) (a_shared : Nat) (m_random : Int32) (m_truePlace : Int32) (m_trueWay : Int32) (m_seconds : Int32) (m_done : Int32) (m_feelings : Int32) (m_tries : Int32) (m_leftOver : Int32) (m_playDoor : Int32) (m_playRing : Int32) (m_isOpen : Int32) (m_isOver : Int32) (m_wasTried : Int32) (m_hasPlayed : Int32) (a_feltNow : Nat) (a_last : Nat) (a_kept : Nat) (m_hasSeconds : Int32) (m_hasTurned : Int32) (m_hasRound : Int32) (a_hasFeels : Nat) (a_isOn : Nat) (m_firstAct : Int32) (m_meanTop : Int64) (m_meanBy : Int64) (a_order : Nat) (m_rowMany : Int32) (m_newSteps : Int32) (g_c : Nat → Int32) (k : Int32) (hr_k : 0 ≤ k.toInt ∧ k.toInt ≤ 9) (hZ_g_c : zC g_c) (hp_0 : zOn g_c k.toInt) : zCv l yX12_take2 cX12_take2 4 none ({ frames := 2, cells := 0, slots := 0, locals := 46 }) G cA [.ref h0, .int k] [(h0, .inr (12, [.int m_status, .int m_thrown, .long m_above, .long m_under, .ref a_traySort, .ref a_trayMany, .ref a_numbers, .ref a_tape, .int m_taped, .int m_textEnd, .int m_faultKind, .int m_faultAt, .int m_bad, .int m_badAt, .int m_token, .int m_at, .int m_behind, .int m_number, .int m_letters, .long m_word, .ref a_c, .ref a_words, .int m_markMany, .ref a_there, .ref a_tried, .ref a_best, .ref a_found, .int m_thereMany, .int m_foundMany, .int m_orderHow, .int m_orderRing, .int m_orderMany, .int m_hasBest, .long m_bestTop, .long m_bestBy, .ref a_weights, .ref a_shared, .int m_random, .int m_truePlace, .int m_trueWay, .int m_seconds, .int m_done, .int m_feelings, .int m_tries, .int m_leftOver, .int m_playDoor, .int m_playRing, .int m_isOpen, .int m_isOver, .int m_wasTried, .int m_hasPlayed, .ref a_feltNow, .ref a_last, .ref a_kept, .int m_hasSeconds, .int m_hasTurned, .int m_hasRound, .ref a_hasFeels, .ref a_isOn, .int m_firstAct, .long m_meanTop, .long m_meanBy, .ref a_order, .int m_rowMany, .int m_newSteps])), (a_c, .inl (cA.1 0, 1825, .inl g_c))] (S := (Nat → Int32)) (fun (u : (Nat → Int32)) => (zC u) ∧ (zHF g_c u) ∧ (zTaken g_c u k.toInt)) (fun (u : (Nat → Int32)) => [(h0, .inr (12, [.int m_status, .int m_thrown, .long m_above, .long m_under, .ref a_traySort, .ref a_trayMany, .ref a_numbers, .ref a_tape, .int m_taped, .int m_textEnd, .int m_faultKind, .int m_faultAt, .int m_bad, .int m_badAt, .int m_token, .int m_at, .int m_behind, .int m_number, .int m_letters, .long m_word, .ref a_c, .ref a_words, .int m_markMany, .ref a_there, .ref a_tried, .ref a_best, .ref a_found, .int m_thereMany, .int m_foundMany, .int m_orderHow, .int m_orderRing, .int m_orderMany, .int m_hasBest, .long m_bestTop, .long m_bestBy, .ref a_weights, .ref a_shared, .int m_random, .int m_truePlace, .int m_trueWay, .int m_seconds, .int m_done, .int m_feelings, .int m_tries, .int m_leftOver, .int m_playDoor, .int m_playRing, .int m_isOpen, .int m_isOver, .int m_wasTried, .int m_hasPlayed, .ref a_feltNow, .ref a_last, .ref a_kept, .int m_hasSeconds, .int m_hasTurned, .int m_hasRound, .ref a_hasFeels, .ref a_isOn, .int m_firstAct, .long m_meanTop, .long m_meanBy, .ref a_order, .int m_rowMany, .int m_newSteps])), (a_c, .inl (cA.1 0, 1825, .inl u))]) 0 0 := by
  have hk_1 : (1 : Int32).toInt = 1 := by decide +kernel
  have hk_10 : (10 : Int32).toInt = 10 := by decide +kernel
  have hk_95 : (95 : Int32).toInt = 95 := by decide +kernel
  have hk_98 : (98 : Int32).toInt = 98 := by decide +kernel
  have hC_g_c : zCt g_c := hZ_g_c.1
  refine z_start2v (own := RX12) (by decide) (Nat.le_of_ble_eq_true rfl) rfl ?_
  intro p e s m args below meth c A ls Q hx hb hml hts hown hK hE hT hP hD hS hA hl hret
  have hl : lv_has ls 4 [(0, .ref h0), (1, .int k)] := hl
  refine lv_aload_n hx hb dX12_take2_0 rfl (lv_at hl 0 rfl) ?_
  refine lv_iload_n hx hb dX12_take2_1 rfl (lv_at hl 1 rfl) ?_
  refine z_callVi (As := [.int k]) (rest := []) (wr := []) ⟨hx, hb, hml, hown, hts⟩ hK hE hT hP hD hS hA (r_ringOf l G cA h0 m_status m_thrown m_above m_under a_traySort a_trayMany a_numbers a_tape m_taped m_textEnd m_faultKind m_faultAt m_bad m_badAt m_token m_at m_behind m_number m_letters m_word a_c a_words m_markMany a_there a_tried a_best a_found m_thereMany m_foundMany m_orderHow m_orderRing m_orderMany m_hasBest m_bestTop m_bestBy a_weights a_shared m_random m_truePlace m_trueWay m_seconds m_done m_feelings m_tries m_leftOver m_playDoor m_playRing m_isOpen m_isOver m_wasTried m_hasPlayed a_feltNow a_last a_kept m_hasSeconds m_hasTurned m_hasRound a_hasFeels a_isOn m_firstAct m_meanTop m_meanBy a_order m_rowMany m_newSteps g_c k hr_k hZ_g_c) lk_RX12_278 ⟨rfl, rfl⟩ ⟨Nat.le_of_ble_eq_true rfl, Nat.le_of_ble_eq_true rfl⟩ 12 rfl rfl rfl [0, 1] [] rfl rfl (by decide) rfl hl.1 rfl (lv_room (Nat.le_of_ble_eq_true rfl)) dX12_take2_2 ⟨Nat.le_of_ble_eq_true rfl, Nat.le_of_ble_eq_true rfl⟩ (fun r_1 u_2 H locs hw hP hD hS => ?_)
  obtain ⟨hr_r_1, hf_3⟩ := hw
  have hr0_r_1 := zOn_r hp_0 hf_3
  refine lv_istore_n (lv' := [(2, .int r_1), (0, .ref h0), (1, .int k)]) hx hb dX12_take2_5 rfl hl (by decide) rfl (fun ls hl => ?_)
  refine lv_aload_n hx hb dX12_take2_6 rfl (lv_at hl 1 rfl) ?_
  refine lv_iload_n hx hb dX12_take2_7 rfl (lv_at hl 2 rfl) ?_
  refine z_callVi (As := [.int k]) (rest := []) (wr := []) ⟨hx, hb, hml, hown, hts⟩ hK hE hT hP hD hS hA (r_placeOf l G cA h0 m_status m_thrown m_above m_under a_traySort a_trayMany a_numbers a_tape m_taped m_textEnd m_faultKind m_faultAt m_bad m_badAt m_token m_at m_behind m_number m_letters m_word a_c a_words m_markMany a_there a_tried a_best a_found m_thereMany m_foundMany m_orderHow m_orderRing m_orderMany m_hasBest m_bestTop m_bestBy a_weights a_shared m_random m_truePlace m_trueWay m_seconds m_done m_feelings m_tries m_leftOver m_playDoor m_playRing m_isOpen m_isOver m_wasTried m_hasPlayed a_feltNow a_last a_kept m_hasSeconds m_hasTurned m_hasRound a_hasFeels a_isOn m_firstAct m_meanTop m_meanBy a_order m_rowMany m_newSteps g_c k hr_k hZ_g_c) lk_RX12_283 ⟨rfl, rfl⟩ ⟨Nat.le_of_ble_eq_true rfl, Nat.le_of_ble_eq_true rfl⟩ 12 rfl rfl rfl [0, 1] [] rfl rfl (by decide) rfl hl.1 rfl (lv_room (Nat.le_of_ble_eq_true rfl)) dX12_take2_8 ⟨Nat.le_of_ble_eq_true rfl, Nat.le_of_ble_eq_true rfl⟩ (fun r_4 u_5 H locs hw hP hD hS => ?_)
  obtain ⟨hr_r_4, hf_6⟩ := hw
  have hpo := zPO_r hf_6 hf_3 (by omega)
  have hzs := zC_size hZ_g_c.1 (r := r_1.toInt.toNat) (by omega)
  have hi0_r_4 : 0 ≤ r_4.toInt ∧ r_4.toInt ≤ 9 := by omega
  refine lv_istore_n (lv' := [(3, .int r_4), (2, .int r_1), (0, .ref h0), (1, .int k)]) hx hb dX12_take2_11 rfl hl (by decide) rfl (fun ls hl => ?_)
  have hlp_66 : ∀ (n : Nat) (v_43 : Int32) (g_44 : Nat → Int32) (H : Heap) (locs : List Loc) (ls : Array Slot), (2147483647 - v_43.toInt).toNat < n → (0 ≤ v_43.toInt ∧ v_43.toInt ≤ 9) → (zCt g_44) → (zHF g_c g_44) → (zShT g_c g_44 (98 + 10 * r_1.toInt) r_4.toInt v_43.toInt) → (r_4.toInt ≤ v_43.toInt) → (v_43.toInt + 1 ≤ (g_c (95 + r_1.toInt.toNat)).toInt) → va_P G vwCl [(h0, .inr (12, [.int m_status, .int m_thrown, .long m_above, .long m_under, .ref a_traySort, .ref a_trayMany, .ref a_numbers, .ref a_tape, .int m_taped, .int m_textEnd, .int m_faultKind, .int m_faultAt, .int m_bad, .int m_badAt, .int m_token, .int m_at, .int m_behind, .int m_number, .int m_letters, .long m_word, .ref a_c, .ref a_words, .int m_markMany, .ref a_there, .ref a_tried, .ref a_best, .ref a_found, .int m_thereMany, .int m_foundMany, .int m_orderHow, .int m_orderRing, .int m_orderMany, .int m_hasBest, .long m_bestTop, .long m_bestBy, .ref a_weights, .ref a_shared, .int m_random, .int m_truePlace, .int m_trueWay, .int m_seconds, .int m_done, .int m_feelings, .int m_tries, .int m_leftOver, .int m_playDoor, .int m_playRing, .int m_isOpen, .int m_isOver, .int m_wasTried, .int m_hasPlayed, .ref a_feltNow, .ref a_last, .ref a_kept, .int m_hasSeconds, .int m_hasTurned, .int m_hasRound, .ref a_hasFeels, .ref a_isOn, .int m_firstAct, .long m_meanTop, .long m_meanBy, .ref a_order, .int m_rowMany, .int m_newSteps])), (a_c, .inl (cA.1 0, 1825, .inl g_44))] H → va_D A [(h0, .inr (12, [.int m_status, .int m_thrown, .long m_above, .long m_under, .ref a_traySort, .ref a_trayMany, .ref a_numbers, .ref a_tape, .int m_taped, .int m_textEnd, .int m_faultKind, .int m_faultAt, .int m_bad, .int m_badAt, .int m_token, .int m_at, .int m_behind, .int m_number, .int m_letters, .long m_word, .ref a_c, .ref a_words, .int m_markMany, .ref a_there, .ref a_tried, .ref a_best, .ref a_found, .int m_thereMany, .int m_foundMany, .int m_orderHow, .int m_orderRing, .int m_orderMany, .int m_hasBest, .long m_bestTop, .long m_bestBy, .ref a_weights, .ref a_shared, .int m_random, .int m_truePlace, .int m_trueWay, .int m_seconds, .int m_done, .int m_feelings, .int m_tries, .int m_leftOver, .int m_playDoor, .int m_playRing, .int m_isOpen, .int m_isOver, .int m_wasTried, .int m_hasPlayed, .ref a_feltNow, .ref a_last, .ref a_kept, .int m_hasSeconds, .int m_hasTurned, .int m_hasRound, .ref a_hasFeels, .ref a_isOn, .int m_firstAct, .long m_meanTop, .long m_meanBy, .ref a_order, .int m_rowMany, .int m_newSteps])), (a_c, .inl (cA.1 0, 1825, .inl g_44))] → va_S A s.heap H locs → lv_has ls 4 [(0, .ref h0), (1, .int k), (2, .int r_1), (3, .int v_43)] → W p l e ({ frames := 2, cells := 0, slots := 0, locals := 46 }) s m args below meth c H locs 0 0 Q (F0 m 12 ls []) := by
    intro n
    induction n with
    | zero =>
      intro v_43 g_44 H locs ls hmu_hlp_66 hr_v_43 hC_g_44 hs_62 hi_63 hi_64 hi_65 hP hD hS hl
      exact absurd hmu_hlp_66 (Nat.not_lt_zero _)
    | succ n ih_67 =>
      intro v_43 g_44 H locs ls hmu_hlp_66 hr_v_43 hC_g_44 hs_62 hi_63 hi_64 hi_65 hP hD hS hl
      refine lv_iload_n hx hb dX12_take2_12 rfl (lv_at hl 3 rfl) ?_
      refine lv_iconst (v := 1) hx hb dX12_take2_13 (by decide) ?_
      refine lv_iadd hx hb dX12_take2_14 ?_
      refine lv_topi (fun x_68 he_x_68 => ?_)
      have hq_x_68 := z_addq he_x_68 (rfl : v_43.toInt = _) hk_1 (by omega) (by omega)
      refine lv_aload_n hx hb dX12_take2_15 rfl (lv_at hl 0 rfl) ?_
      refine va_get (D := G) (ci := 12) (v := .ref a_c) (C := RX12) (T := TX12) (N := 65) hx hb hts inT12 hown hK hP 0 rfl rfl 20 (by decide) (hts _ tw_1905) (fun _ h9 => h9) rfl dX12_take2_16 ?_
      refine lv_bipush (v := 95) hx hb dX12_take2_19 (by decide) ?_
      refine lv_iload_n hx hb dX12_take2_21 rfl (lv_at hl 2 rfl) ?_
      refine lv_iadd hx hb dX12_take2_22 ?_
      refine lv_topi (fun x_69 he_x_69 => ?_)
      have hq_x_69 := z_addq he_x_69 hk_95 (rfl : r_1.toInt = _) (by omega) (by omega)
      refine va_iald hx hb hK hP 1 0 rfl rfl (z_inN (by omega) (by omega)) dX12_take2_23 ?_
      refine lv_topi (fun x_70 he_x_70 => ?_)
      have hr_x_70 := z_ctt hC_g_44 he_x_70 (a := 95) (b := 97) (lo := 0) (hi := 10) (by decide +kernel) (by decide) (by omega) (by omega)
      have hyS_x_70 := zShT_sz hi_63 (by omega) (by omega) (by omega) he_x_70 (by omega)
      refine lv_icmp_ge (tgt := 63) hx hb dX12_take2_24 (by decide) (fun c_71 => ?_) (fun c_71 => ?_)
      · have b_72 := z_fgeT c_71
        refine lv_aload_n hx hb dX12_take2_63 rfl (lv_at hl 0 rfl) ?_
        refine va_get (D := G) (ci := 12) (v := .ref a_c) (C := RX12) (T := TX12) (N := 65) hx hb hts inT12 hown hK hP 0 rfl rfl 20 (by decide) (hts _ tw_1905) (fun _ h9 => h9) rfl dX12_take2_64 ?_
        refine lv_bipush (v := 95) hx hb dX12_take2_67 (by decide) ?_
        refine lv_iload_n hx hb dX12_take2_69 rfl (lv_at hl 2 rfl) ?_
        refine lv_iadd hx hb dX12_take2_70 ?_
        refine lv_topi (fun x_73 he_x_73 => ?_)
        have hq_x_73 := z_addq he_x_73 hk_95 (rfl : r_1.toInt = _) (by omega) (by omega)
        refine lv_dup2_11 hx hb dX12_take2_71 rfl rfl ?_
        refine va_iald hx hb hK hP 1 0 rfl rfl (z_inN (by omega) (by omega)) dX12_take2_72 ?_
        refine lv_topi (fun x_74 he_x_74 => ?_)
        have hr_x_74 := z_ctt hC_g_44 he_x_74 (a := 95) (b := 97) (lo := 0) (hi := 10) (by decide +kernel) (by decide) (by omega) (by omega)
        have hyS_x_74 := zShT_sz hi_63 (by omega) (by omega) (by omega) he_x_74 (by omega)
        have hn_k_75 : 1 ≤ x_74.toInt ∧ x_74.toInt ≤ 10 := by omega
        refine lv_iconst (v := 1) hx hb dX12_take2_73 (by decide) ?_
        refine lv_isub hx hb dX12_take2_74 ?_
        refine lv_topi (fun x_76 he_x_76 => ?_)
        have hq_x_76 := z_subq he_x_76 (rfl : x_74.toInt = _) hk_1 (by omega) (by omega)
        refine z_iast hx hb hK hP hD hS 1 0 rfl rfl (z_inN (by omega) (by omega)) dX12_take2_75 (fun g_77 hg_g_77 H locs hP hD hS => ?_)
        have hC_g_77 := z_ctUt hC_g_44 hg_g_77 (a := 95) (b := 97) (lo := 0) (hi := 10) (by decide +kernel) (by omega) (by omega) (by omega)
        have hs_78 : zHF g_c g_77 := (zHF_upd hs_62 hg_g_77 (a := 95) (b := 97) (by decide) (by omega) (by omega))
        have htk : zTkP g_c g_77 r_1.toInt r_4.toInt := zTkP_of hi_63 (by omega) (by omega) (by omega) (by omega) he_x_74 (by omega) hg_g_77 (by omega) (by omega)
        have hpost : (zC g_77) ∧ (zHF g_c g_77) ∧ (zTaken g_c g_77 k.toInt) := ⟨(zTkP_zC hZ_g_c hC_g_77 htk (by omega) (by omega) (by omega) (by omega)), hs_78, ⟨r_1.toInt, r_4.toInt, by omega, by omega, by omega, hf_3, by omega, hpo.2.2, htk⟩⟩
        exact hret _ _ _ _ _ g_77 [0, 1] hP hD hS rfl (by decide) dX12_take2_76 hpost
      · have b_79 := z_fltF c_71
        refine lv_aload_n hx hb dX12_take2_27 rfl (lv_at hl 0 rfl) ?_
        refine va_get (D := G) (ci := 12) (v := .ref a_c) (C := RX12) (T := TX12) (N := 65) hx hb hts inT12 hown hK hP 0 rfl rfl 20 (by decide) (hts _ tw_1905) (fun _ h9 => h9) rfl dX12_take2_28 ?_
        refine lv_bipush (v := 98) hx hb dX12_take2_31 (by decide) ?_
        refine lv_bipush (v := 10) hx hb dX12_take2_33 (by decide) ?_
        refine lv_iload_n hx hb dX12_take2_35 rfl (lv_at hl 2 rfl) ?_
        refine lv_imul hx hb dX12_take2_36 ?_
        refine lv_topi (fun x_80 he_x_80 => ?_)
        have hq_x_80 := z_mulq he_x_80 hk_10 (rfl : r_1.toInt = _) (by omega) (by omega)
        refine lv_iadd hx hb dX12_take2_37 ?_
        refine lv_topi (fun x_81 he_x_81 => ?_)
        have hq_x_81 := z_addq he_x_81 hk_98 (rfl : x_80.toInt = _) (by omega) (by omega)
        refine lv_iload_n hx hb dX12_take2_38 rfl (lv_at hl 3 rfl) ?_
        refine lv_iadd hx hb dX12_take2_39 ?_
        refine lv_topi (fun x_82 he_x_82 => ?_)
        have hq_x_82 := z_addq he_x_82 (rfl : x_81.toInt = _) (rfl : v_43.toInt = _) (by omega) (by omega)
        refine lv_aload_n hx hb dX12_take2_40 rfl (lv_at hl 0 rfl) ?_
        refine va_get (D := G) (ci := 12) (v := .ref a_c) (C := RX12) (T := TX12) (N := 65) hx hb hts inT12 hown hK hP 0 rfl rfl 20 (by decide) (hts _ tw_1905) (fun _ h9 => h9) rfl dX12_take2_41 ?_
        refine lv_bipush (v := 98) hx hb dX12_take2_44 (by decide) ?_
        refine lv_bipush (v := 10) hx hb dX12_take2_46 (by decide) ?_
        refine lv_iload_n hx hb dX12_take2_48 rfl (lv_at hl 2 rfl) ?_
        refine lv_imul hx hb dX12_take2_49 ?_
        refine lv_topi (fun x_83 he_x_83 => ?_)
        have hq_x_83 := z_mulq he_x_83 hk_10 (rfl : r_1.toInt = _) (by omega) (by omega)
        refine lv_iadd hx hb dX12_take2_50 ?_
        refine lv_topi (fun x_84 he_x_84 => ?_)
        have hq_x_84 := z_addq he_x_84 hk_98 (rfl : x_83.toInt = _) (by omega) (by omega)
        refine lv_iload_n hx hb dX12_take2_51 rfl (lv_at hl 3 rfl) ?_
        refine lv_iadd hx hb dX12_take2_52 ?_
        refine lv_topi (fun x_85 he_x_85 => ?_)
        have hq_x_85 := z_addq he_x_85 (rfl : x_84.toInt = _) (rfl : v_43.toInt = _) (by omega) (by omega)
        refine lv_iconst (v := 1) hx hb dX12_take2_53 (by decide) ?_
        refine lv_iadd hx hb dX12_take2_54 ?_
        refine lv_topi (fun x_86 he_x_86 => ?_)
        have hq_x_86 := z_addq he_x_86 (rfl : x_85.toInt = _) hk_1 (by omega) (by omega)
        refine va_iald hx hb hK hP 1 0 rfl rfl (z_inN (by omega) (by omega)) dX12_take2_55 ?_
        refine lv_topi (fun x_87 he_x_87 => ?_)
        have hr_x_87 := z_ctt hC_g_44 he_x_87 (a := 99) (b := 127) (lo := 0) (hi := 9) (by decide +kernel) (by decide) (by omega) (by omega)
        refine z_iast hx hb hK hP hD hS 1 0 rfl rfl (z_inN (by omega) (by omega)) dX12_take2_56 (fun g_88 hg_g_88 H locs hP hD hS => ?_)
        have hC_g_88 := z_ctUt hC_g_44 hg_g_88 (a := 98) (b := 126) (lo := 0) (hi := 9) (by decide +kernel) (by omega) (by omega) (by omega)
        have hs_89 : zHF g_c g_88 := (zHF_upd hs_62 hg_g_88 (a := 98) (b := 126) (by decide) (by omega) (by omega))
        obtain ⟨x_90, he_x_90⟩ : ∃ z : Int32, z = v_43 + 1 := ⟨_, rfl⟩
        have hq_x_90 := z_addq he_x_90 (rfl : v_43.toInt = _) hk_1 (by omega) (by omega)
        refine lv_iinc (v := x_90) (lv' := [(3, .int x_90), (0, .ref h0), (1, .int k), (2, .int r_1)]) hx hb dX12_take2_57 hl (k := 3) rfl ((z_ofi (by decide +kernel)).trans he_x_90.symm) (by decide) rfl (fun ls hl => ?_)
        refine lv_goto (tgt := 12) hx hb dX12_take2_60 (by decide) ?_
        exact ih_67 x_90 g_88 H locs ls (by omega) (by omega) hC_g_88 hs_89 (by rw [show x_90.toInt = v_43.toInt + 1 by omega]; exact zShT_step hi_63 hg_g_88 he_x_87 (by omega) (by omega) (by omega) (by omega)) (by omega) (by omega) hP hD hS (lv_sub hl [1, 2, 3, 0] rfl)
  exact hlp_66 _ r_4 g_c _ _ _ (Nat.lt_succ_self _) (by omega) hC_g_c (zHF_refl g_c) zShT_0 (by omega) (by omega) hP hD hS (lv_sub hl [2, 3, 1, 0] rfl)
set_option maxHeartbeats 4000000 in
set_option maxRecDepth 100000 in
theorem r_put (l : Launch) (G : va_G) (cA : zCA) (h0 : Nat) (m_status : Int32) (m_thrown : Int32) (m_above : Int64) (m_under : Int64) (a_traySort : Nat) (a_trayMany : Nat) (a_numbers : Nat) (a_tape : Nat) (m_taped : Int32) (m_textEnd : Int32) (m_faultKind : Int32) (m_faultAt : Int32) (m_bad : Int32) (m_badAt : Int32) (m_token : Int32) (m_at : Int32) (m_behind : Int32) (m_number : Int32) (m_letters : Int32) (m_word : Int64) (a_c : Nat) (a_words : Nat) (m_markMany : Int32) (a_there : Nat) (a_tried : Nat) (a_best : Nat) (a_found : Nat) (m_thereMany : Int32) (m_foundMany : Int32) (m_orderHow : Int32) (m_orderRing : Int32) (m_orderMany : Int32) (m_hasBest : Int32) (m_bestTop : Int64) (m_bestBy : Int64) (a_weights : Nat) (a_shared : Nat) (m_random : Int32) (m_truePlace : Int32) (m_trueWay : Int32) (m_seconds : Int32) (m_done : Int32) (m_feelings : Int32) (m_tries : Int32) (m_leftOver : Int32) (m_playDoor : Int32) (m_playRing : Int32) (m_isOpen : Int32) (m_isOver : Int32) (m_wasTried : Int32) (m_hasPlayed : Int32) (a_feltNow : Nat) (a_last : Nat) (a_kept : Nat) (m_hasSeconds : Int32) (m_hasTurned : Int32) (m_hasRound : Int32) (a_hasFeels : Nat) (a_isOn : Nat) (m_firstAct : Int32) (m_meanTop : Int64) (m_meanBy : Int64) (a_order : Nat) (m_rowMany : Int32) (m_newSteps : Int32) (g_c : Nat → Int32) (k : Int32) (r : Int32) (pp : Int32) (hC_g_c : zC g_c) : zCi l yX12_put cX12_put 4 (some .boolean) ({ frames := 2, cells := 0, slots := 0, locals := 47 }) G cA [.ref h0, .int k, .int r, .int pp] [(h0, .inr (12, [.int m_status, .int m_thrown, .long m_above, .long m_under, .ref a_traySort, .ref a_trayMany, .ref a_numbers, .ref a_tape, .int m_taped, .int m_textEnd, .int m_faultKind, .int m_faultAt, .int m_bad, .int m_badAt, .int m_token, .int m_at, .int m_behind, .int m_number, .int m_letters, .long m_word, .ref a_c, .ref a_words, .int m_markMany, .ref a_there, .ref a_tried, .ref a_best, .ref a_found, .int m_thereMany, .int m_foundMany, .int m_orderHow, .int m_orderRing, .int m_orderMany, .int m_hasBest, .long m_bestTop, .long m_bestBy, .ref a_weights, .ref a_shared, .int m_random, .int m_truePlace, .int m_trueWay, .int m_seconds, .int m_done, .int m_feelings, .int m_tries, .int m_leftOver, .int m_playDoor, .int m_playRing, .int m_isOpen, .int m_isOver, .int m_wasTried, .int m_hasPlayed, .ref a_feltNow, .ref a_last, .ref a_kept, .int m_hasSeconds, .int m_hasTurned, .int m_hasRound, .ref a_hasFeels, .ref a_isOn, .int m_firstAct, .long m_meanTop, .long m_meanBy, .ref a_order, .int m_rowMany, .int m_newSteps])), (a_c, .inl (cA.1 0, 1825, .inl g_c))] (S := Int32 × Int32 × (Nat → Int32)) (fun (r : Int32) (u : Int32 × Int32 × (Nat → Int32)) => (r = 0 ∧ (0 ≤ u.2.1.toInt ∧ u.2.1.toInt ≤ 0) ∧ (zC u.2.2) ∧ (zHF g_c u.2.2)) ∨ (r = 1 ∧ (0 ≤ u.1.toInt ∧ u.1.toInt ≤ 0) ∧ (0 ≤ u.2.1.toInt ∧ u.2.1.toInt ≤ 0) ∧ (zC u.2.2) ∧ (zHF g_c u.2.2))) (fun (u : Int32 × Int32 × (Nat → Int32)) => [(h0, .inr (12, [.int u.1, .int u.2.1, .long m_above, .long m_under, .ref a_traySort, .ref a_trayMany, .ref a_numbers, .ref a_tape, .int m_taped, .int m_textEnd, .int m_faultKind, .int m_faultAt, .int m_bad, .int m_badAt, .int m_token, .int m_at, .int m_behind, .int m_number, .int m_letters, .long m_word, .ref a_c, .ref a_words, .int m_markMany, .ref a_there, .ref a_tried, .ref a_best, .ref a_found, .int m_thereMany, .int m_foundMany, .int m_orderHow, .int m_orderRing, .int m_orderMany, .int m_hasBest, .long m_bestTop, .long m_bestBy, .ref a_weights, .ref a_shared, .int m_random, .int m_truePlace, .int m_trueWay, .int m_seconds, .int m_done, .int m_feelings, .int m_tries, .int m_leftOver, .int m_playDoor, .int m_playRing, .int m_isOpen, .int m_isOver, .int m_wasTried, .int m_hasPlayed, .ref a_feltNow, .ref a_last, .ref a_kept, .int m_hasSeconds, .int m_hasTurned, .int m_hasRound, .ref a_hasFeels, .ref a_isOn, .int m_firstAct, .long m_meanTop, .long m_meanBy, .ref a_order, .int m_rowMany, .int m_newSteps])), (a_c, .inl (cA.1 0, 1825, .inl u.2.2))]) 0 0 := by
  have hk_0 : (0 : Int32).toInt = 0 := by decide +kernel
  have hk_1 : (1 : Int32).toInt = 1 := by decide +kernel
  have hk_2 : (2 : Int32).toInt = 2 := by decide +kernel
  have hk_5 : (5 : Int32).toInt = 5 := by decide +kernel
  have hk_9 : (9 : Int32).toInt = 9 := by decide +kernel
  have hk_95 : (95 : Int32).toInt = 95 := by decide +kernel
  have hkl_0 : (0 : Int64).toInt = 0 := by decide +kernel
  refine z_start2z (own := RX12) (by decide) (Nat.le_of_ble_eq_true rfl) rfl ?_
  intro p e s m args below meth c A ls Q hx hb hml hts hown hK hE hT hP hD hS hA hl hret
  have hl : lv_has ls 4 [(0, .ref h0), (1, .int k), (2, .int r), (3, .int pp)] := hl
  refine lv_aload_n hx hb dX12_put_0 rfl (lv_at hl 0 rfl) ?_
  refine lv_iconst (v := 0) hx hb dX12_put_1 (by decide) ?_
  refine va_put (D := G) (ci := 12) (v := .int 0) (ty := .int) (C := RX12) (T := TX12) (N := 65) hx hb hts inT12 tyX12 tyX12_ok nmX12 hown hK hP hD hS 0 rfl rfl 1 (by decide) (hts _ tw_1886) (fun _ h9 => h9) rfl (tyX12_ok 1 (by decide)) rfl rfl (Nat.le_of_ble_eq_true rfl) dX12_put_2 (fun H locs hP hD hS => ?_)
  refine lv_aload_n hx hb dX12_put_5 rfl (lv_at hl 0 rfl) ?_
  refine lv_iconst (v := 0) hx hb dX12_put_6 (by decide) ?_
  refine va_put (D := G) (ci := 12) (v := .int 0) (ty := .int) (C := RX12) (T := TX12) (N := 65) hx hb hts inT12 tyX12 tyX12_ok nmX12 hown hK hP hD hS 0 rfl rfl 0 (by decide) (hts _ tw_1885) (fun _ h9 => h9) rfl (tyX12_ok 0 (by decide)) rfl rfl (Nat.le_of_ble_eq_true rfl) dX12_put_7 (fun H locs hP hD hS => ?_)
  refine lv_aload_n hx hb dX12_put_10 rfl (lv_at hl 0 rfl) ?_
  refine lv_iload_n hx hb dX12_put_11 rfl (lv_at hl 1 rfl) ?_
  refine lv_i2l (v := (k).toInt64) hx hb dX12_put_12 rfl ?_
  refine lv_topl (fun x_1 he_x_1 => ?_)
  have hq_x_1 := z_i2l he_x_1
  have hL_k := z_full k
  refine z_callVi (As := [.long x_1]) (rest := []) (wr := []) ⟨hx, hb, hml, hown, hts⟩ hK hE hT hP hD hS hA (r_isKey l G cA h0 0 0 m_above m_under a_traySort a_trayMany a_numbers a_tape m_taped m_textEnd m_faultKind m_faultAt m_bad m_badAt m_token m_at m_behind m_number m_letters m_word a_c a_words m_markMany a_there a_tried a_best a_found m_thereMany m_foundMany m_orderHow m_orderRing m_orderMany m_hasBest m_bestTop m_bestBy a_weights a_shared m_random m_truePlace m_trueWay m_seconds m_done m_feelings m_tries m_leftOver m_playDoor m_playRing m_isOpen m_isOver m_wasTried m_hasPlayed a_feltNow a_last a_kept m_hasSeconds m_hasTurned m_hasRound a_hasFeels a_isOn m_firstAct m_meanTop m_meanBy a_order m_rowMany m_newSteps g_c x_1 hC_g_c) lk_RX12_275 ⟨rfl, rfl⟩ ⟨Nat.le_of_ble_eq_true rfl, Nat.le_of_ble_eq_true rfl⟩ 12 rfl rfl rfl [0, 1] [] rfl rfl (by decide) rfl hl.1 rfl (lv_room (Nat.le_of_ble_eq_true rfl)) dX12_put_13 ⟨Nat.le_of_ble_eq_true rfl, Nat.le_of_ble_eq_true rfl⟩ (fun r_2 u_3 H locs hw hP hD hS => ?_)
  rcases hw with ⟨rfl, -⟩ | ⟨rfl, hf_4, hf_5⟩
  · skip
    refine lv_if_eq (tgt := 27) hx hb dX12_put_16 (by decide) (fun _ => ?_) (fun h9 => absurd (by decide +kernel) h9)
    refine lv_aload_n hx hb dX12_put_27 rfl (lv_at hl 0 rfl) ?_
    refine lv_iconst (v := 2) hx hb dX12_put_28 (by decide) ?_
    refine z_callVi (As := [.int 2]) (rest := []) (wr := [(a_c, .inl (cA.1 0, 1825, .inl g_c))]) ⟨hx, hb, hml, hown, hts⟩ hK hE hT hP hD hS hA (r_no l G cA h0 0 0 m_above m_under a_traySort a_trayMany a_numbers a_tape m_taped m_textEnd m_faultKind m_faultAt m_bad m_badAt m_token m_at m_behind m_number m_letters m_word a_c a_words m_markMany a_there a_tried a_best a_found m_thereMany m_foundMany m_orderHow m_orderRing m_orderMany m_hasBest m_bestTop m_bestBy a_weights a_shared m_random m_truePlace m_trueWay m_seconds m_done m_feelings m_tries m_leftOver m_playDoor m_playRing m_isOpen m_isOver m_wasTried m_hasPlayed a_feltNow a_last a_kept m_hasSeconds m_hasTurned m_hasRound a_hasFeels a_isOn m_firstAct m_meanTop m_meanBy a_order m_rowMany m_newSteps 2) lk_RX12_97 ⟨rfl, rfl⟩ ⟨Nat.le_of_ble_eq_true rfl, Nat.le_of_ble_eq_true rfl⟩ 12 rfl rfl rfl [0] [1] rfl rfl (by decide) rfl hl.1 rfl (lv_room (Nat.le_of_ble_eq_true rfl)) dX12_put_29 ⟨Nat.le_of_ble_eq_true rfl, Nat.le_of_ble_eq_true rfl⟩ (fun r_7 u_8 H locs hw hP hD hS => ?_)
    obtain ⟨n_6, rfl⟩ : ∃ z, z = u_8 := ⟨_, rfl⟩
    obtain ⟨he_r_7, he_n_6, hw⟩ := hw
    obtain ⟨rfl, -⟩ := hw
    have hpost : ((0 : Int32) = 0 ∧ (0 ≤ (0 : Int32).toInt ∧ (0 : Int32).toInt ≤ 0) ∧ (zC g_c) ∧ (zHF g_c g_c)) ∨ ((0 : Int32) = 1 ∧ (0 ≤ n_6.toInt ∧ n_6.toInt ≤ 0) ∧ (0 ≤ (0 : Int32).toInt ∧ (0 : Int32).toInt ≤ 0) ∧ (zC g_c) ∧ (zHF g_c g_c)) := (Or.inl ⟨rfl, ⟨(by decide +kernel), hC_g_c, (zHF_refl g_c)⟩⟩)
    exact hret _ _ _ _ _ _ (n_6, 0, g_c) [1, 0] hP hD hS rfl (by decide) dX12_put_32 (Or.inl rfl) hpost
  · skip
    refine lv_if_eq (tgt := 27) hx hb dX12_put_16 (by decide) (fun h9 => absurd h9 (by decide +kernel)) (fun _ => ?_)
    refine lv_aload_n hx hb dX12_put_19 rfl (lv_at hl 0 rfl) ?_
    refine lv_iload_n hx hb dX12_put_20 rfl (lv_at hl 2 rfl) ?_
    refine z_callVi (As := [.int r]) (rest := []) (wr := []) ⟨hx, hb, hml, hown, hts⟩ hK hE hT hP hD hS hA (r_isRing l G cA h0 0 0 m_above m_under a_traySort a_trayMany a_numbers a_tape m_taped m_textEnd m_faultKind m_faultAt m_bad m_badAt m_token m_at m_behind m_number m_letters m_word a_c a_words m_markMany a_there a_tried a_best a_found m_thereMany m_foundMany m_orderHow m_orderRing m_orderMany m_hasBest m_bestTop m_bestBy a_weights a_shared m_random m_truePlace m_trueWay m_seconds m_done m_feelings m_tries m_leftOver m_playDoor m_playRing m_isOpen m_isOver m_wasTried m_hasPlayed a_feltNow a_last a_kept m_hasSeconds m_hasTurned m_hasRound a_hasFeels a_isOn m_firstAct m_meanTop m_meanBy a_order m_rowMany m_newSteps g_c r hC_g_c) lk_RX12_289 ⟨rfl, rfl⟩ ⟨Nat.le_of_ble_eq_true rfl, Nat.le_of_ble_eq_true rfl⟩ 12 rfl rfl rfl [0, 1] [] rfl rfl (by decide) rfl hl.1 rfl (lv_room (Nat.le_of_ble_eq_true rfl)) dX12_put_21 ⟨Nat.le_of_ble_eq_true rfl, Nat.le_of_ble_eq_true rfl⟩ (fun r_9 u_10 H locs hw hP hD hS => ?_)
    rcases hw with ⟨rfl, -⟩ | ⟨rfl, hf_11, hf_12⟩
    · skip
      refine lv_if_ne (tgt := 33) hx hb dX12_put_24 (by decide) (fun h9 => absurd (by decide +kernel) h9) (fun _ => ?_)
      refine lv_aload_n hx hb dX12_put_27 rfl (lv_at hl 0 rfl) ?_
      refine lv_iconst (v := 2) hx hb dX12_put_28 (by decide) ?_
      refine z_callVi (As := [.int 2]) (rest := []) (wr := [(a_c, .inl (cA.1 0, 1825, .inl g_c))]) ⟨hx, hb, hml, hown, hts⟩ hK hE hT hP hD hS hA (r_no l G cA h0 0 0 m_above m_under a_traySort a_trayMany a_numbers a_tape m_taped m_textEnd m_faultKind m_faultAt m_bad m_badAt m_token m_at m_behind m_number m_letters m_word a_c a_words m_markMany a_there a_tried a_best a_found m_thereMany m_foundMany m_orderHow m_orderRing m_orderMany m_hasBest m_bestTop m_bestBy a_weights a_shared m_random m_truePlace m_trueWay m_seconds m_done m_feelings m_tries m_leftOver m_playDoor m_playRing m_isOpen m_isOver m_wasTried m_hasPlayed a_feltNow a_last a_kept m_hasSeconds m_hasTurned m_hasRound a_hasFeels a_isOn m_firstAct m_meanTop m_meanBy a_order m_rowMany m_newSteps 2) lk_RX12_97 ⟨rfl, rfl⟩ ⟨Nat.le_of_ble_eq_true rfl, Nat.le_of_ble_eq_true rfl⟩ 12 rfl rfl rfl [0] [1] rfl rfl (by decide) rfl hl.1 rfl (lv_room (Nat.le_of_ble_eq_true rfl)) dX12_put_29 ⟨Nat.le_of_ble_eq_true rfl, Nat.le_of_ble_eq_true rfl⟩ (fun r_14 u_15 H locs hw hP hD hS => ?_)
      obtain ⟨n_13, rfl⟩ : ∃ z, z = u_15 := ⟨_, rfl⟩
      obtain ⟨he_r_14, he_n_13, hw⟩ := hw
      obtain ⟨rfl, -⟩ := hw
      have hpost : ((0 : Int32) = 0 ∧ (0 ≤ (0 : Int32).toInt ∧ (0 : Int32).toInt ≤ 0) ∧ (zC g_c) ∧ (zHF g_c g_c)) ∨ ((0 : Int32) = 1 ∧ (0 ≤ n_13.toInt ∧ n_13.toInt ≤ 0) ∧ (0 ≤ (0 : Int32).toInt ∧ (0 : Int32).toInt ≤ 0) ∧ (zC g_c) ∧ (zHF g_c g_c)) := (Or.inl ⟨rfl, ⟨(by decide +kernel), hC_g_c, (zHF_refl g_c)⟩⟩)
      exact hret _ _ _ _ _ _ (n_13, 0, g_c) [1, 0] hP hD hS rfl (by decide) dX12_put_32 (Or.inl rfl) hpost
    · skip
      refine lv_if_ne (tgt := 33) hx hb dX12_put_24 (by decide) (fun _ => ?_) (fun h9 => absurd h9 (by decide +kernel))
      refine lv_iload_n hx hb dX12_put_33 rfl (lv_at hl 3 rfl) ?_
      refine lv_i2l (v := (pp).toInt64) hx hb dX12_put_34 rfl ?_
      refine lv_topl (fun x_16 he_x_16 => ?_)
      have hq_x_16 := z_i2l he_x_16
      have hL_pp := z_full pp
      refine lv_lconst (v := 0) hx hb dX12_put_35 (by decide) ?_
      refine lv_aload_n hx hb dX12_put_36 rfl (lv_at hl 0 rfl) ?_
      refine va_get (D := G) (ci := 12) (v := .ref a_c) (C := RX12) (T := TX12) (N := 65) hx hb hts inT12 hown hK hP 0 rfl rfl 20 (by decide) (hts _ tw_1905) (fun _ h9 => h9) rfl dX12_put_37 ?_
      refine lv_bipush (v := 95) hx hb dX12_put_40 (by decide) ?_
      refine lv_iload_n hx hb dX12_put_42 rfl (lv_at hl 2 rfl) ?_
      refine lv_iadd hx hb dX12_put_43 ?_
      refine lv_topi (fun x_17 he_x_17 => ?_)
      have hq_x_17 := z_addq he_x_17 hk_95 (rfl : r.toInt = _) (by omega) (by omega)
      refine va_iald hx hb hK hP 1 0 rfl rfl (z_inN (by omega) (by omega)) dX12_put_44 ?_
      refine lv_topi (fun x_18 he_x_18 => ?_)
      have hr_x_18 := z_ct hC_g_c he_x_18 (a := 95) (b := 97) (lo := 0) (hi := 10) (by decide +kernel) (by decide) (by omega) (by omega)
      have hsz_x_18 := z_sz (r := r.toInt) he_x_18 (by omega) (by omega)
      refine lv_i2l (v := (x_18).toInt64) hx hb dX12_put_45 rfl ?_
      refine lv_topl (fun x_19 he_x_19 => ?_)
      have hq_x_19 := z_i2l he_x_19
      refine z_callSi (As := [.long x_16, .long 0, .long x_19]) (rest := []) (wr := [(h0, .inr (12, [.int 0, .int 0, .long m_above, .long m_under, .ref a_traySort, .ref a_trayMany, .ref a_numbers, .ref a_tape, .int m_taped, .int m_textEnd, .int m_faultKind, .int m_faultAt, .int m_bad, .int m_badAt, .int m_token, .int m_at, .int m_behind, .int m_number, .int m_letters, .long m_word, .ref a_c, .ref a_words, .int m_markMany, .ref a_there, .ref a_tried, .ref a_best, .ref a_found, .int m_thereMany, .int m_foundMany, .int m_orderHow, .int m_orderRing, .int m_orderMany, .int m_hasBest, .long m_bestTop, .long m_bestBy, .ref a_weights, .ref a_shared, .int m_random, .int m_truePlace, .int m_trueWay, .int m_seconds, .int m_done, .int m_feelings, .int m_tries, .int m_leftOver, .int m_playDoor, .int m_playRing, .int m_isOpen, .int m_isOver, .int m_wasTried, .int m_hasPlayed, .ref a_feltNow, .ref a_last, .ref a_kept, .int m_hasSeconds, .int m_hasTurned, .int m_hasRound, .ref a_hasFeels, .ref a_isOn, .int m_firstAct, .long m_meanTop, .long m_meanBy, .ref a_order, .int m_rowMany, .int m_newSteps])), (a_c, .inl (cA.1 0, 1825, .inl g_c))]) ⟨hx, hb, hml, hown, hts⟩ hK hE hT hP hD hS hA (r_isIn l G cA x_16 0 x_19) lk_RX12_117 ⟨rfl, rfl⟩ ⟨Nat.le_of_ble_eq_true rfl, Nat.le_of_ble_eq_true rfl⟩ [] [0, 1] rfl rfl (by decide) rfl hl.1 rfl (lv_room (Nat.le_of_ble_eq_true rfl)) dX12_put_46 ⟨Nat.le_of_ble_eq_true rfl, Nat.le_of_ble_eq_true rfl⟩ (fun r_20 u_21 H locs hw hP hD hS => ?_)
      obtain ⟨he_r_20, hw⟩ := hw
      rcases hw with ⟨rfl, hf_22⟩ | ⟨rfl, hf_23⟩
      · skip
        refine lv_if_ne (tgt := 58) hx hb dX12_put_49 (by decide) (fun h9 => absurd (by decide +kernel) h9) (fun _ => ?_)
        refine lv_aload_n hx hb dX12_put_52 rfl (lv_at hl 0 rfl) ?_
        refine lv_iconst (v := 5) hx hb dX12_put_53 (by decide) ?_
        refine z_callVi (As := [.int 5]) (rest := []) (wr := [(a_c, .inl (cA.1 0, 1825, .inl g_c))]) ⟨hx, hb, hml, hown, hts⟩ hK hE hT hP hD hS hA (r_no l G cA h0 0 0 m_above m_under a_traySort a_trayMany a_numbers a_tape m_taped m_textEnd m_faultKind m_faultAt m_bad m_badAt m_token m_at m_behind m_number m_letters m_word a_c a_words m_markMany a_there a_tried a_best a_found m_thereMany m_foundMany m_orderHow m_orderRing m_orderMany m_hasBest m_bestTop m_bestBy a_weights a_shared m_random m_truePlace m_trueWay m_seconds m_done m_feelings m_tries m_leftOver m_playDoor m_playRing m_isOpen m_isOver m_wasTried m_hasPlayed a_feltNow a_last a_kept m_hasSeconds m_hasTurned m_hasRound a_hasFeels a_isOn m_firstAct m_meanTop m_meanBy a_order m_rowMany m_newSteps 5) lk_RX12_97 ⟨rfl, rfl⟩ ⟨Nat.le_of_ble_eq_true rfl, Nat.le_of_ble_eq_true rfl⟩ 12 rfl rfl rfl [0] [1] rfl rfl (by decide) rfl hl.1 rfl (lv_room (Nat.le_of_ble_eq_true rfl)) dX12_put_54 ⟨Nat.le_of_ble_eq_true rfl, Nat.le_of_ble_eq_true rfl⟩ (fun r_25 u_26 H locs hw hP hD hS => ?_)
        obtain ⟨n_24, rfl⟩ : ∃ z, z = u_26 := ⟨_, rfl⟩
        obtain ⟨he_r_25, he_n_24, hw⟩ := hw
        obtain ⟨rfl, -⟩ := hw
        have hpost : ((0 : Int32) = 0 ∧ (0 ≤ (0 : Int32).toInt ∧ (0 : Int32).toInt ≤ 0) ∧ (zC g_c) ∧ (zHF g_c g_c)) ∨ ((0 : Int32) = 1 ∧ (0 ≤ n_24.toInt ∧ n_24.toInt ≤ 0) ∧ (0 ≤ (0 : Int32).toInt ∧ (0 : Int32).toInt ≤ 0) ∧ (zC g_c) ∧ (zHF g_c g_c)) := (Or.inl ⟨rfl, ⟨(by decide +kernel), hC_g_c, (zHF_refl g_c)⟩⟩)
        exact hret _ _ _ _ _ _ (n_24, 0, g_c) [1, 0] hP hD hS rfl (by decide) dX12_put_57 (Or.inl rfl) hpost
      · skip
        refine lv_if_ne (tgt := 58) hx hb dX12_put_49 (by decide) (fun _ => ?_) (fun h9 => absurd h9 (by decide +kernel))
        refine lv_aload_n hx hb dX12_put_58 rfl (lv_at hl 0 rfl) ?_
        refine lv_iload_n hx hb dX12_put_59 rfl (lv_at hl 1 rfl) ?_
        refine z_callVi (As := [.int k]) (rest := []) (wr := []) ⟨hx, hb, hml, hown, hts⟩ hK hE hT hP hD hS hA (r_ringOf l G cA h0 0 0 m_above m_under a_traySort a_trayMany a_numbers a_tape m_taped m_textEnd m_faultKind m_faultAt m_bad m_badAt m_token m_at m_behind m_number m_letters m_word a_c a_words m_markMany a_there a_tried a_best a_found m_thereMany m_foundMany m_orderHow m_orderRing m_orderMany m_hasBest m_bestTop m_bestBy a_weights a_shared m_random m_truePlace m_trueWay m_seconds m_done m_feelings m_tries m_leftOver m_playDoor m_playRing m_isOpen m_isOver m_wasTried m_hasPlayed a_feltNow a_last a_kept m_hasSeconds m_hasTurned m_hasRound a_hasFeels a_isOn m_firstAct m_meanTop m_meanBy a_order m_rowMany m_newSteps g_c k (by omega) hC_g_c) lk_RX12_278 ⟨rfl, rfl⟩ ⟨Nat.le_of_ble_eq_true rfl, Nat.le_of_ble_eq_true rfl⟩ 12 rfl rfl rfl [0, 1] [] rfl rfl (by decide) rfl hl.1 rfl (lv_room (Nat.le_of_ble_eq_true rfl)) dX12_put_60 ⟨Nat.le_of_ble_eq_true rfl, Nat.le_of_ble_eq_true rfl⟩ (fun r_27 u_28 H locs hw hP hD hS => ?_)
        obtain ⟨hr_r_27, hf_29⟩ := hw
        refine lv_if_lt (tgt := 73) hx hb dX12_put_63 (by decide) (fun c_30 => ?_) (fun c_30 => ?_)
        · have b_31 := z_fltT c_30
          refine lv_aload_n hx hb dX12_put_73 rfl (lv_at hl 0 rfl) ?_
          have hn_k_32 : 0 ≤ pp.toInt ∧ pp.toInt ≤ 10 := by omega
          refine lv_iload_n hx hb dX12_put_74 rfl (lv_at hl 1 rfl) ?_
          refine lv_iload_n hx hb dX12_put_75 rfl (lv_at hl 2 rfl) ?_
          refine lv_iload_n hx hb dX12_put_76 rfl (lv_at hl 3 rfl) ?_
          refine z_callVv (As := [.int k, .int r, .int pp]) (rest := []) (wr := []) ⟨hx, hb, hml, hown, hts⟩ hK hE hT hP hD hS hA (r_insert l G cA h0 0 0 m_above m_under a_traySort a_trayMany a_numbers a_tape m_taped m_textEnd m_faultKind m_faultAt m_bad m_badAt m_token m_at m_behind m_number m_letters m_word a_c a_words m_markMany a_there a_tried a_best a_found m_thereMany m_foundMany m_orderHow m_orderRing m_orderMany m_hasBest m_bestTop m_bestBy a_weights a_shared m_random m_truePlace m_trueWay m_seconds m_done m_feelings m_tries m_leftOver m_playDoor m_playRing m_isOpen m_isOver m_wasTried m_hasPlayed a_feltNow a_last a_kept m_hasSeconds m_hasTurned m_hasRound a_hasFeels a_isOn m_firstAct m_meanTop m_meanBy a_order m_rowMany m_newSteps g_c k r pp (by omega) (by omega) (by omega) hC_g_c (by omega) (by omega) (by omega) (zRO_neg hf_29 (by omega))) lk_RX12_308 ⟨rfl, rfl⟩ ⟨Nat.le_of_ble_eq_true rfl, Nat.le_of_ble_eq_true rfl⟩ 12 rfl rfl rfl [0, 1] [] rfl rfl (by decide) rfl hl.1 rfl (lv_room (Nat.le_of_ble_eq_true rfl)) dX12_put_77 ⟨Nat.le_of_ble_eq_true rfl, Nat.le_of_ble_eq_true rfl⟩ (fun u_35 H locs hw hP hD hS => ?_)
          obtain ⟨n_33, rfl⟩ : ∃ z, z = u_35 := ⟨_, rfl⟩
          obtain ⟨hC_n_33, hf_36, hf_37⟩ := hw
          have hs_38 : zHF g_c n_33 := (zHF_trans (zHF_refl g_c) hf_36)
          refine lv_aload_n hx hb dX12_put_80 rfl (lv_at hl 0 rfl) ?_
          refine lv_iload_n hx hb dX12_put_81 rfl (lv_at hl 2 rfl) ?_
          refine z_callVv (As := [.int r]) (rest := []) (wr := []) ⟨hx, hb, hml, hown, hts⟩ hK hE hT hP hD hS hA (r_letGo l G cA h0 0 0 m_above m_under a_traySort a_trayMany a_numbers a_tape m_taped m_textEnd m_faultKind m_faultAt m_bad m_badAt m_token m_at m_behind m_number m_letters m_word a_c a_words m_markMany a_there a_tried a_best a_found m_thereMany m_foundMany m_orderHow m_orderRing m_orderMany m_hasBest m_bestTop m_bestBy a_weights a_shared m_random m_truePlace m_trueWay m_seconds m_done m_feelings m_tries m_leftOver m_playDoor m_playRing m_isOpen m_isOver m_wasTried m_hasPlayed a_feltNow a_last a_kept m_hasSeconds m_hasTurned m_hasRound a_hasFeels a_isOn m_firstAct m_meanTop m_meanBy a_order m_rowMany m_newSteps n_33 r hC_n_33) lk_RX12_305 ⟨rfl, rfl⟩ ⟨Nat.le_of_ble_eq_true rfl, Nat.le_of_ble_eq_true rfl⟩ 12 rfl rfl rfl [0, 1] [] rfl rfl (by decide) rfl hl.1 rfl (lv_room (Nat.le_of_ble_eq_true rfl)) dX12_put_82 ⟨Nat.le_of_ble_eq_true rfl, Nat.le_of_ble_eq_true rfl⟩ (fun u_41 H locs hw hP hD hS => ?_)
          obtain ⟨n_39, rfl⟩ : ∃ z, z = u_41 := ⟨_, rfl⟩
          obtain ⟨hC_n_39, hf_42⟩ := hw
          have hs_43 : zHF g_c n_39 := (zHF_trans hs_38 (zHF_10 hf_42))
          refine lv_iconst (v := 1) hx hb dX12_put_85 (by decide) ?_
          have hpost : ((1 : Int32) = 0 ∧ (0 ≤ (0 : Int32).toInt ∧ (0 : Int32).toInt ≤ 0) ∧ (zC n_39) ∧ (zHF g_c n_39)) ∨ ((1 : Int32) = 1 ∧ (0 ≤ (0 : Int32).toInt ∧ (0 : Int32).toInt ≤ 0) ∧ (0 ≤ (0 : Int32).toInt ∧ (0 : Int32).toInt ≤ 0) ∧ (zC n_39) ∧ (zHF g_c n_39)) := (Or.inr ⟨rfl, ⟨(by decide +kernel), (by decide +kernel), hC_n_39, hs_43⟩⟩)
          exact hret _ _ _ _ _ _ (0, 0, n_39) [0, 1] hP hD hS rfl (by decide) dX12_put_86 (Or.inr rfl) hpost
        · have b_44 := z_fgeF c_30
          refine lv_aload_n hx hb dX12_put_66 rfl (lv_at hl 0 rfl) ?_
          refine lv_bipush (v := 9) hx hb dX12_put_67 (by decide) ?_
          refine z_callVi (As := [.int 9]) (rest := []) (wr := [(a_c, .inl (cA.1 0, 1825, .inl g_c))]) ⟨hx, hb, hml, hown, hts⟩ hK hE hT hP hD hS hA (r_no l G cA h0 0 0 m_above m_under a_traySort a_trayMany a_numbers a_tape m_taped m_textEnd m_faultKind m_faultAt m_bad m_badAt m_token m_at m_behind m_number m_letters m_word a_c a_words m_markMany a_there a_tried a_best a_found m_thereMany m_foundMany m_orderHow m_orderRing m_orderMany m_hasBest m_bestTop m_bestBy a_weights a_shared m_random m_truePlace m_trueWay m_seconds m_done m_feelings m_tries m_leftOver m_playDoor m_playRing m_isOpen m_isOver m_wasTried m_hasPlayed a_feltNow a_last a_kept m_hasSeconds m_hasTurned m_hasRound a_hasFeels a_isOn m_firstAct m_meanTop m_meanBy a_order m_rowMany m_newSteps 9) lk_RX12_97 ⟨rfl, rfl⟩ ⟨Nat.le_of_ble_eq_true rfl, Nat.le_of_ble_eq_true rfl⟩ 12 rfl rfl rfl [0] [1] rfl rfl (by decide) rfl hl.1 rfl (lv_room (Nat.le_of_ble_eq_true rfl)) dX12_put_69 ⟨Nat.le_of_ble_eq_true rfl, Nat.le_of_ble_eq_true rfl⟩ (fun r_46 u_47 H locs hw hP hD hS => ?_)
          obtain ⟨n_45, rfl⟩ : ∃ z, z = u_47 := ⟨_, rfl⟩
          obtain ⟨he_r_46, he_n_45, hw⟩ := hw
          obtain ⟨rfl, -⟩ := hw
          have hpost : ((0 : Int32) = 0 ∧ (0 ≤ (0 : Int32).toInt ∧ (0 : Int32).toInt ≤ 0) ∧ (zC g_c) ∧ (zHF g_c g_c)) ∨ ((0 : Int32) = 1 ∧ (0 ≤ n_45.toInt ∧ n_45.toInt ≤ 0) ∧ (0 ≤ (0 : Int32).toInt ∧ (0 : Int32).toInt ≤ 0) ∧ (zC g_c) ∧ (zHF g_c g_c)) := (Or.inl ⟨rfl, ⟨(by decide +kernel), hC_g_c, (zHF_refl g_c)⟩⟩)
          exact hret _ _ _ _ _ _ (n_45, 0, g_c) [1, 0] hP hD hS rfl (by decide) dX12_put_72 (Or.inl rfl) hpost
set_option maxHeartbeats 4000000 in
set_option maxRecDepth 100000 in
theorem r_off (l : Launch) (G : va_G) (cA : zCA) (h0 : Nat) (m_status : Int32) (m_thrown : Int32) (m_above : Int64) (m_under : Int64) (a_traySort : Nat) (a_trayMany : Nat) (a_numbers : Nat) (a_tape : Nat) (m_taped : Int32) (m_textEnd : Int32) (m_faultKind : Int32) (m_faultAt : Int32) (m_bad : Int32) (m_badAt : Int32) (m_token : Int32) (m_at : Int32) (m_behind : Int32) (m_number : Int32) (m_letters : Int32) (m_word : Int64) (a_c : Nat) (a_words : Nat) (m_markMany : Int32) (a_there : Nat) (a_tried : Nat) (a_best : Nat) (a_found : Nat) (m_thereMany : Int32) (m_foundMany : Int32) (m_orderHow : Int32) (m_orderRing : Int32) (m_orderMany : Int32) (m_hasBest : Int32) (m_bestTop : Int64) (m_bestBy : Int64) (a_weights : Nat) (a_shared : Nat) (m_random : Int32) (m_truePlace : Int32) (m_trueWay : Int32) (m_seconds : Int32) (m_done : Int32) (m_feelings : Int32) (m_tries : Int32) (m_leftOver : Int32) (m_playDoor : Int32) (m_playRing : Int32) (m_isOpen : Int32) (m_isOver : Int32) (m_wasTried : Int32) (m_hasPlayed : Int32) (a_feltNow : Nat) (a_last : Nat) (a_kept : Nat) (m_hasSeconds : Int32) (m_hasTurned : Int32) (m_hasRound : Int32) (a_hasFeels : Nat) (a_isOn : Nat) (m_firstAct : Int32) (m_meanTop : Int64) (m_meanBy : Int64) (a_order : Nat) (m_rowMany : Int32) (m_newSteps : Int32) (g_c : Nat → Int32) (k : Int32) (hC_g_c : zC g_c) : zCi l yX12_off cX12_off 2 (some .boolean) ({ frames := 3, cells := 0, slots := 0, locals := 69 }) G cA [.ref h0, .int k] [(h0, .inr (12, [.int m_status, .int m_thrown, .long m_above, .long m_under, .ref a_traySort, .ref a_trayMany, .ref a_numbers, .ref a_tape, .int m_taped, .int m_textEnd, .int m_faultKind, .int m_faultAt, .int m_bad, .int m_badAt, .int m_token, .int m_at, .int m_behind, .int m_number, .int m_letters, .long m_word, .ref a_c, .ref a_words, .int m_markMany, .ref a_there, .ref a_tried, .ref a_best, .ref a_found, .int m_thereMany, .int m_foundMany, .int m_orderHow, .int m_orderRing, .int m_orderMany, .int m_hasBest, .long m_bestTop, .long m_bestBy, .ref a_weights, .ref a_shared, .int m_random, .int m_truePlace, .int m_trueWay, .int m_seconds, .int m_done, .int m_feelings, .int m_tries, .int m_leftOver, .int m_playDoor, .int m_playRing, .int m_isOpen, .int m_isOver, .int m_wasTried, .int m_hasPlayed, .ref a_feltNow, .ref a_last, .ref a_kept, .int m_hasSeconds, .int m_hasTurned, .int m_hasRound, .ref a_hasFeels, .ref a_isOn, .int m_firstAct, .long m_meanTop, .long m_meanBy, .ref a_order, .int m_rowMany, .int m_newSteps])), (a_c, .inl (cA.1 0, 1825, .inl g_c))] (S := Int32 × Int32 × (Nat → Int32)) (fun (r : Int32) (u : Int32 × Int32 × (Nat → Int32)) => (r = 0 ∧ (0 ≤ u.2.1.toInt ∧ u.2.1.toInt ≤ 0) ∧ (zC u.2.2) ∧ (zHF g_c u.2.2)) ∨ (r = 1 ∧ (0 ≤ u.1.toInt ∧ u.1.toInt ≤ 0) ∧ (0 ≤ u.2.1.toInt ∧ u.2.1.toInt ≤ 0) ∧ (zC u.2.2) ∧ (zHF g_c u.2.2))) (fun (u : Int32 × Int32 × (Nat → Int32)) => [(h0, .inr (12, [.int u.1, .int u.2.1, .long m_above, .long m_under, .ref a_traySort, .ref a_trayMany, .ref a_numbers, .ref a_tape, .int m_taped, .int m_textEnd, .int m_faultKind, .int m_faultAt, .int m_bad, .int m_badAt, .int m_token, .int m_at, .int m_behind, .int m_number, .int m_letters, .long m_word, .ref a_c, .ref a_words, .int m_markMany, .ref a_there, .ref a_tried, .ref a_best, .ref a_found, .int m_thereMany, .int m_foundMany, .int m_orderHow, .int m_orderRing, .int m_orderMany, .int m_hasBest, .long m_bestTop, .long m_bestBy, .ref a_weights, .ref a_shared, .int m_random, .int m_truePlace, .int m_trueWay, .int m_seconds, .int m_done, .int m_feelings, .int m_tries, .int m_leftOver, .int m_playDoor, .int m_playRing, .int m_isOpen, .int m_isOver, .int m_wasTried, .int m_hasPlayed, .ref a_feltNow, .ref a_last, .ref a_kept, .int m_hasSeconds, .int m_hasTurned, .int m_hasRound, .ref a_hasFeels, .ref a_isOn, .int m_firstAct, .long m_meanTop, .long m_meanBy, .ref a_order, .int m_rowMany, .int m_newSteps])), (a_c, .inl (cA.1 0, 1825, .inl u.2.2))]) 0 0 := by
  have hk_0 : (0 : Int32).toInt = 0 := by decide +kernel
  have hk_2 : (2 : Int32).toInt = 2 := by decide +kernel
  have hk_8 : (8 : Int32).toInt = 8 := by decide +kernel
  refine z_start2z (own := RX12) (by decide) (Nat.le_of_ble_eq_true rfl) rfl ?_
  intro p e s m args below meth c A ls Q hx hb hml hts hown hK hE hT hP hD hS hA hl hret
  have hl : lv_has ls 2 [(0, .ref h0), (1, .int k)] := hl
  refine lv_aload_n hx hb dX12_off_0 rfl (lv_at hl 0 rfl) ?_
  refine lv_iconst (v := 0) hx hb dX12_off_1 (by decide) ?_
  refine va_put (D := G) (ci := 12) (v := .int 0) (ty := .int) (C := RX12) (T := TX12) (N := 65) hx hb hts inT12 tyX12 tyX12_ok nmX12 hown hK hP hD hS 0 rfl rfl 1 (by decide) (hts _ tw_1886) (fun _ h9 => h9) rfl (tyX12_ok 1 (by decide)) rfl rfl (Nat.le_of_ble_eq_true rfl) dX12_off_2 (fun H locs hP hD hS => ?_)
  refine lv_aload_n hx hb dX12_off_5 rfl (lv_at hl 0 rfl) ?_
  refine lv_iconst (v := 0) hx hb dX12_off_6 (by decide) ?_
  refine va_put (D := G) (ci := 12) (v := .int 0) (ty := .int) (C := RX12) (T := TX12) (N := 65) hx hb hts inT12 tyX12 tyX12_ok nmX12 hown hK hP hD hS 0 rfl rfl 0 (by decide) (hts _ tw_1885) (fun _ h9 => h9) rfl (tyX12_ok 0 (by decide)) rfl rfl (Nat.le_of_ble_eq_true rfl) dX12_off_7 (fun H locs hP hD hS => ?_)
  refine lv_aload_n hx hb dX12_off_10 rfl (lv_at hl 0 rfl) ?_
  refine lv_iload_n hx hb dX12_off_11 rfl (lv_at hl 1 rfl) ?_
  refine lv_i2l (v := (k).toInt64) hx hb dX12_off_12 rfl ?_
  refine lv_topl (fun x_1 he_x_1 => ?_)
  have hq_x_1 := z_i2l he_x_1
  have hL_k := z_full k
  refine z_callVi (As := [.long x_1]) (rest := []) (wr := []) ⟨hx, hb, hml, hown, hts⟩ hK hE hT hP hD hS hA (r_isKey l G cA h0 0 0 m_above m_under a_traySort a_trayMany a_numbers a_tape m_taped m_textEnd m_faultKind m_faultAt m_bad m_badAt m_token m_at m_behind m_number m_letters m_word a_c a_words m_markMany a_there a_tried a_best a_found m_thereMany m_foundMany m_orderHow m_orderRing m_orderMany m_hasBest m_bestTop m_bestBy a_weights a_shared m_random m_truePlace m_trueWay m_seconds m_done m_feelings m_tries m_leftOver m_playDoor m_playRing m_isOpen m_isOver m_wasTried m_hasPlayed a_feltNow a_last a_kept m_hasSeconds m_hasTurned m_hasRound a_hasFeels a_isOn m_firstAct m_meanTop m_meanBy a_order m_rowMany m_newSteps g_c x_1 hC_g_c) lk_RX12_275 ⟨rfl, rfl⟩ ⟨Nat.le_of_ble_eq_true rfl, Nat.le_of_ble_eq_true rfl⟩ 12 rfl rfl rfl [0, 1] [] rfl rfl (by decide) rfl hl.1 rfl (lv_room (Nat.le_of_ble_eq_true rfl)) dX12_off_13 ⟨Nat.le_of_ble_eq_true rfl, Nat.le_of_ble_eq_true rfl⟩ (fun r_2 u_3 H locs hw hP hD hS => ?_)
  rcases hw with ⟨rfl, -⟩ | ⟨rfl, hf_4, hf_5⟩
  · skip
    refine lv_if_ne (tgt := 25) hx hb dX12_off_16 (by decide) (fun h9 => absurd (by decide +kernel) h9) (fun _ => ?_)
    refine lv_aload_n hx hb dX12_off_19 rfl (lv_at hl 0 rfl) ?_
    refine lv_iconst (v := 2) hx hb dX12_off_20 (by decide) ?_
    refine z_callVi (As := [.int 2]) (rest := []) (wr := [(a_c, .inl (cA.1 0, 1825, .inl g_c))]) ⟨hx, hb, hml, hown, hts⟩ hK hE hT hP hD hS hA (r_no l G cA h0 0 0 m_above m_under a_traySort a_trayMany a_numbers a_tape m_taped m_textEnd m_faultKind m_faultAt m_bad m_badAt m_token m_at m_behind m_number m_letters m_word a_c a_words m_markMany a_there a_tried a_best a_found m_thereMany m_foundMany m_orderHow m_orderRing m_orderMany m_hasBest m_bestTop m_bestBy a_weights a_shared m_random m_truePlace m_trueWay m_seconds m_done m_feelings m_tries m_leftOver m_playDoor m_playRing m_isOpen m_isOver m_wasTried m_hasPlayed a_feltNow a_last a_kept m_hasSeconds m_hasTurned m_hasRound a_hasFeels a_isOn m_firstAct m_meanTop m_meanBy a_order m_rowMany m_newSteps 2) lk_RX12_97 ⟨rfl, rfl⟩ ⟨Nat.le_of_ble_eq_true rfl, Nat.le_of_ble_eq_true rfl⟩ 12 rfl rfl rfl [0] [1] rfl rfl (by decide) rfl hl.1 rfl (lv_room (Nat.le_of_ble_eq_true rfl)) dX12_off_21 ⟨Nat.le_of_ble_eq_true rfl, Nat.le_of_ble_eq_true rfl⟩ (fun r_7 u_8 H locs hw hP hD hS => ?_)
    obtain ⟨n_6, rfl⟩ : ∃ z, z = u_8 := ⟨_, rfl⟩
    obtain ⟨he_r_7, he_n_6, hw⟩ := hw
    obtain ⟨rfl, -⟩ := hw
    have hpost : ((0 : Int32) = 0 ∧ (0 ≤ (0 : Int32).toInt ∧ (0 : Int32).toInt ≤ 0) ∧ (zC g_c) ∧ (zHF g_c g_c)) ∨ ((0 : Int32) = 1 ∧ (0 ≤ n_6.toInt ∧ n_6.toInt ≤ 0) ∧ (0 ≤ (0 : Int32).toInt ∧ (0 : Int32).toInt ≤ 0) ∧ (zC g_c) ∧ (zHF g_c g_c)) := (Or.inl ⟨rfl, ⟨(by decide +kernel), hC_g_c, (zHF_refl g_c)⟩⟩)
    exact hret _ _ _ _ _ _ (n_6, 0, g_c) [1, 0] hP hD hS rfl (by decide) dX12_off_24 (Or.inl rfl) hpost
  · skip
    refine lv_if_ne (tgt := 25) hx hb dX12_off_16 (by decide) (fun _ => ?_) (fun h9 => absurd h9 (by decide +kernel))
    refine lv_aload_n hx hb dX12_off_25 rfl (lv_at hl 0 rfl) ?_
    refine lv_iload_n hx hb dX12_off_26 rfl (lv_at hl 1 rfl) ?_
    refine z_callVi (As := [.int k]) (rest := []) (wr := []) ⟨hx, hb, hml, hown, hts⟩ hK hE hT hP hD hS hA (r_ringOf l G cA h0 0 0 m_above m_under a_traySort a_trayMany a_numbers a_tape m_taped m_textEnd m_faultKind m_faultAt m_bad m_badAt m_token m_at m_behind m_number m_letters m_word a_c a_words m_markMany a_there a_tried a_best a_found m_thereMany m_foundMany m_orderHow m_orderRing m_orderMany m_hasBest m_bestTop m_bestBy a_weights a_shared m_random m_truePlace m_trueWay m_seconds m_done m_feelings m_tries m_leftOver m_playDoor m_playRing m_isOpen m_isOver m_wasTried m_hasPlayed a_feltNow a_last a_kept m_hasSeconds m_hasTurned m_hasRound a_hasFeels a_isOn m_firstAct m_meanTop m_meanBy a_order m_rowMany m_newSteps g_c k (by omega) hC_g_c) lk_RX12_278 ⟨rfl, rfl⟩ ⟨Nat.le_of_ble_eq_true rfl, Nat.le_of_ble_eq_true rfl⟩ 12 rfl rfl rfl [0, 1] [] rfl rfl (by decide) rfl hl.1 rfl (lv_room (Nat.le_of_ble_eq_true rfl)) dX12_off_27 ⟨Nat.le_of_ble_eq_true rfl, Nat.le_of_ble_eq_true rfl⟩ (fun r_9 u_10 H locs hw hP hD hS => ?_)
    obtain ⟨hr_r_9, hf_11⟩ := hw
    refine lv_if_ge (tgt := 40) hx hb dX12_off_30 (by decide) (fun c_12 => ?_) (fun c_12 => ?_)
    · have b_13 := z_fgeT c_12
      refine lv_aload_n hx hb dX12_off_40 rfl (lv_at hl 0 rfl) ?_
      refine lv_aload_n hx hb dX12_off_41 rfl (lv_at hl 0 rfl) ?_
      refine lv_iload_n hx hb dX12_off_42 rfl (lv_at hl 1 rfl) ?_
      refine z_callVi (As := [.int k]) (rest := [.ref h0]) (wr := []) ⟨hx, hb, hml, hown, hts⟩ hK hE hT hP hD hS hA (r_ringOf l G cA h0 0 0 m_above m_under a_traySort a_trayMany a_numbers a_tape m_taped m_textEnd m_faultKind m_faultAt m_bad m_badAt m_token m_at m_behind m_number m_letters m_word a_c a_words m_markMany a_there a_tried a_best a_found m_thereMany m_foundMany m_orderHow m_orderRing m_orderMany m_hasBest m_bestTop m_bestBy a_weights a_shared m_random m_truePlace m_trueWay m_seconds m_done m_feelings m_tries m_leftOver m_playDoor m_playRing m_isOpen m_isOver m_wasTried m_hasPlayed a_feltNow a_last a_kept m_hasSeconds m_hasTurned m_hasRound a_hasFeels a_isOn m_firstAct m_meanTop m_meanBy a_order m_rowMany m_newSteps g_c k (by omega) hC_g_c) lk_RX12_278 ⟨rfl, rfl⟩ ⟨Nat.le_of_ble_eq_true rfl, Nat.le_of_ble_eq_true rfl⟩ 12 rfl rfl rfl [0, 1] [] rfl rfl (by decide) rfl hl.1 rfl (lv_room (Nat.le_of_ble_eq_true rfl)) dX12_off_43 ⟨Nat.le_of_ble_eq_true rfl, Nat.le_of_ble_eq_true rfl⟩ (fun r_14 u_15 H locs hw hP hD hS => ?_)
      obtain ⟨hr_r_14, hf_16⟩ := hw
      refine z_callVv (As := [.int r_14]) (rest := []) (wr := []) ⟨hx, hb, hml, hown, hts⟩ hK hE hT hP hD hS hA (r_letGo l G cA h0 0 0 m_above m_under a_traySort a_trayMany a_numbers a_tape m_taped m_textEnd m_faultKind m_faultAt m_bad m_badAt m_token m_at m_behind m_number m_letters m_word a_c a_words m_markMany a_there a_tried a_best a_found m_thereMany m_foundMany m_orderHow m_orderRing m_orderMany m_hasBest m_bestTop m_bestBy a_weights a_shared m_random m_truePlace m_trueWay m_seconds m_done m_feelings m_tries m_leftOver m_playDoor m_playRing m_isOpen m_isOver m_wasTried m_hasPlayed a_feltNow a_last a_kept m_hasSeconds m_hasTurned m_hasRound a_hasFeels a_isOn m_firstAct m_meanTop m_meanBy a_order m_rowMany m_newSteps g_c r_14 hC_g_c) lk_RX12_305 ⟨rfl, rfl⟩ ⟨Nat.le_of_ble_eq_true rfl, Nat.le_of_ble_eq_true rfl⟩ 12 rfl rfl rfl [0, 1] [] rfl rfl (by decide) rfl hl.1 rfl (lv_room (Nat.le_of_ble_eq_true rfl)) dX12_off_46 ⟨Nat.le_of_ble_eq_true rfl, Nat.le_of_ble_eq_true rfl⟩ (fun u_19 H locs hw hP hD hS => ?_)
      obtain ⟨n_17, rfl⟩ : ∃ z, z = u_19 := ⟨_, rfl⟩
      obtain ⟨hC_n_17, hf_20⟩ := hw
      have hs_21 : zHF g_c n_17 := (zHF_trans (zHF_refl g_c) (zHF_10 hf_20))
      refine lv_aload_n hx hb dX12_off_49 rfl (lv_at hl 0 rfl) ?_
      refine lv_iload_n hx hb dX12_off_50 rfl (lv_at hl 1 rfl) ?_
      refine z_callVv (As := [.int k]) (rest := []) (wr := []) ⟨hx, hb, hml, hown, hts⟩ hK hE hT hP hD hS hA (r_take2 l G cA h0 0 0 m_above m_under a_traySort a_trayMany a_numbers a_tape m_taped m_textEnd m_faultKind m_faultAt m_bad m_badAt m_token m_at m_behind m_number m_letters m_word a_c a_words m_markMany a_there a_tried a_best a_found m_thereMany m_foundMany m_orderHow m_orderRing m_orderMany m_hasBest m_bestTop m_bestBy a_weights a_shared m_random m_truePlace m_trueWay m_seconds m_done m_feelings m_tries m_leftOver m_playDoor m_playRing m_isOpen m_isOver m_wasTried m_hasPlayed a_feltNow a_last a_kept m_hasSeconds m_hasTurned m_hasRound a_hasFeels a_isOn m_firstAct m_meanTop m_meanBy a_order m_rowMany m_newSteps n_17 k (by omega) hC_n_17 ⟨_, (by omega), zRO_same hf_11 (hf_20 2 (by omega)) (fun q hq => hf_20 _ (by omega)) (fun q j hq hj => hf_20 _ (by omega))⟩) lk_RX12_312 ⟨rfl, rfl⟩ ⟨Nat.le_of_ble_eq_true rfl, Nat.le_of_ble_eq_true rfl⟩ 12 rfl rfl rfl [0, 1] [] rfl rfl (by decide) rfl hl.1 rfl (lv_room (Nat.le_of_ble_eq_true rfl)) dX12_off_51 ⟨Nat.le_of_ble_eq_true rfl, Nat.le_of_ble_eq_true rfl⟩ (fun u_24 H locs hw hP hD hS => ?_)
      obtain ⟨n_22, rfl⟩ : ∃ z, z = u_24 := ⟨_, rfl⟩
      obtain ⟨hC_n_22, hf_25, hf_26⟩ := hw
      have hs_27 : zHF g_c n_22 := (zHF_trans hs_21 hf_25)
      refine lv_iconst (v := 1) hx hb dX12_off_54 (by decide) ?_
      have hpost : ((1 : Int32) = 0 ∧ (0 ≤ (0 : Int32).toInt ∧ (0 : Int32).toInt ≤ 0) ∧ (zC n_22) ∧ (zHF g_c n_22)) ∨ ((1 : Int32) = 1 ∧ (0 ≤ (0 : Int32).toInt ∧ (0 : Int32).toInt ≤ 0) ∧ (0 ≤ (0 : Int32).toInt ∧ (0 : Int32).toInt ≤ 0) ∧ (zC n_22) ∧ (zHF g_c n_22)) := (Or.inr ⟨rfl, ⟨(by decide +kernel), (by decide +kernel), hC_n_22, hs_27⟩⟩)
      exact hret _ _ _ _ _ _ (0, 0, n_22) [0, 1] hP hD hS rfl (by decide) dX12_off_55 (Or.inr rfl) hpost
    · have b_28 := z_fltF c_12
      refine lv_aload_n hx hb dX12_off_33 rfl (lv_at hl 0 rfl) ?_
      refine lv_bipush (v := 8) hx hb dX12_off_34 (by decide) ?_
      refine z_callVi (As := [.int 8]) (rest := []) (wr := [(a_c, .inl (cA.1 0, 1825, .inl g_c))]) ⟨hx, hb, hml, hown, hts⟩ hK hE hT hP hD hS hA (r_no l G cA h0 0 0 m_above m_under a_traySort a_trayMany a_numbers a_tape m_taped m_textEnd m_faultKind m_faultAt m_bad m_badAt m_token m_at m_behind m_number m_letters m_word a_c a_words m_markMany a_there a_tried a_best a_found m_thereMany m_foundMany m_orderHow m_orderRing m_orderMany m_hasBest m_bestTop m_bestBy a_weights a_shared m_random m_truePlace m_trueWay m_seconds m_done m_feelings m_tries m_leftOver m_playDoor m_playRing m_isOpen m_isOver m_wasTried m_hasPlayed a_feltNow a_last a_kept m_hasSeconds m_hasTurned m_hasRound a_hasFeels a_isOn m_firstAct m_meanTop m_meanBy a_order m_rowMany m_newSteps 8) lk_RX12_97 ⟨rfl, rfl⟩ ⟨Nat.le_of_ble_eq_true rfl, Nat.le_of_ble_eq_true rfl⟩ 12 rfl rfl rfl [0] [1] rfl rfl (by decide) rfl hl.1 rfl (lv_room (Nat.le_of_ble_eq_true rfl)) dX12_off_36 ⟨Nat.le_of_ble_eq_true rfl, Nat.le_of_ble_eq_true rfl⟩ (fun r_30 u_31 H locs hw hP hD hS => ?_)
      obtain ⟨n_29, rfl⟩ : ∃ z, z = u_31 := ⟨_, rfl⟩
      obtain ⟨he_r_30, he_n_29, hw⟩ := hw
      obtain ⟨rfl, -⟩ := hw
      have hpost : ((0 : Int32) = 0 ∧ (0 ≤ (0 : Int32).toInt ∧ (0 : Int32).toInt ≤ 0) ∧ (zC g_c) ∧ (zHF g_c g_c)) ∨ ((0 : Int32) = 1 ∧ (0 ≤ n_29.toInt ∧ n_29.toInt ≤ 0) ∧ (0 ≤ (0 : Int32).toInt ∧ (0 : Int32).toInt ≤ 0) ∧ (zC g_c) ∧ (zHF g_c g_c)) := (Or.inl ⟨rfl, ⟨(by decide +kernel), hC_g_c, (zHF_refl g_c)⟩⟩)
      exact hret _ _ _ _ _ _ (n_29, 0, g_c) [1, 0] hP hD hS rfl (by decide) dX12_off_39 (Or.inl rfl) hpost
set_option maxHeartbeats 4000000 in
set_option maxRecDepth 100000 in
theorem r_lay (l : Launch) (G : va_G) (cA : zCA) (h0 : Nat) (m_status : Int32) (m_thrown : Int32) (m_above : Int64) (m_under : Int64) (a_traySort : Nat) (a_trayMany : Nat) (a_numbers : Nat) (a_tape : Nat) (m_taped : Int32) (m_textEnd : Int32) (m_faultKind : Int32) (m_faultAt : Int32) (m_bad : Int32) (m_badAt : Int32) (m_token : Int32) (m_at : Int32) (m_behind : Int32) (m_number : Int32) (m_letters : Int32) (m_word : Int64) (a_c : Nat) (a_words : Nat) (m_markMany : Int32) (a_there : Nat) (a_tried : Nat) (a_best : Nat) (a_found : Nat) (m_thereMany : Int32) (m_foundMany : Int32) (m_orderHow : Int32) (m_orderRing : Int32) (m_orderMany : Int32) (m_hasBest : Int32) (m_bestTop : Int64) (m_bestBy : Int64) (a_weights : Nat) (a_shared : Nat) (m_random : Int32) (m_truePlace : Int32) (m_trueWay : Int32) (m_seconds : Int32) (m_done : Int32) (m_feelings : Int32) (m_tries : Int32) (m_leftOver : Int32) (m_playDoor : Int32) (m_playRing : Int32) (m_isOpen : Int32) (m_isOver : Int32) (m_wasTried : Int32) (m_hasPlayed : Int32) (a_feltNow : Nat) (a_last : Nat) (a_kept : Nat) (m_hasSeconds : Int32) (m_hasTurned : Int32) (m_hasRound : Int32) (a_hasFeels : Nat) (a_isOn : Nat) (m_firstAct : Int32) (m_meanTop : Int64) (m_meanBy : Int64) (a_order : Nat) (m_rowMany : Int32) (m_newSteps : Int32) (g_trayMany : Nat → Int32) (g_numbers : Nat → Int64) (g_c : Nat → Int32) (r : Int32) (t : Int32) (hC_g_trayMany : zRg 4 (-1) 60 g_trayMany) (hZ_g_c : zC g_c) : zCi l yX12_lay cX12_lay 8 (some .boolean) ({ frames := 2, cells := 0, slots := 0, locals := 47 }) G cA [.ref h0, .int r, .int t] [(h0, .inr (12, [.int m_status, .int m_thrown, .long m_above, .long m_under, .ref a_traySort, .ref a_trayMany, .ref a_numbers, .ref a_tape, .int m_taped, .int m_textEnd, .int m_faultKind, .int m_faultAt, .int m_bad, .int m_badAt, .int m_token, .int m_at, .int m_behind, .int m_number, .int m_letters, .long m_word, .ref a_c, .ref a_words, .int m_markMany, .ref a_there, .ref a_tried, .ref a_best, .ref a_found, .int m_thereMany, .int m_foundMany, .int m_orderHow, .int m_orderRing, .int m_orderMany, .int m_hasBest, .long m_bestTop, .long m_bestBy, .ref a_weights, .ref a_shared, .int m_random, .int m_truePlace, .int m_trueWay, .int m_seconds, .int m_done, .int m_feelings, .int m_tries, .int m_leftOver, .int m_playDoor, .int m_playRing, .int m_isOpen, .int m_isOver, .int m_wasTried, .int m_hasPlayed, .ref a_feltNow, .ref a_last, .ref a_kept, .int m_hasSeconds, .int m_hasTurned, .int m_hasRound, .ref a_hasFeels, .ref a_isOn, .int m_firstAct, .long m_meanTop, .long m_meanBy, .ref a_order, .int m_rowMany, .int m_newSteps])), (a_trayMany, .inl (cA.1 0, 4, .inl g_trayMany)), (a_numbers, .inl (cA.1 1, 240, .inr (.inl g_numbers))), (a_c, .inl (cA.1 0, 1825, .inl g_c))] (S := Int32 × Int32 × (Nat → Int32)) (fun (r : Int32) (u : Int32 × Int32 × (Nat → Int32)) => (r = 0 ∧ (0 ≤ u.2.1.toInt ∧ u.2.1.toInt ≤ 0) ∧ (zC u.2.2) ∧ (zHF g_c u.2.2)) ∨ (r = 1 ∧ (0 ≤ u.1.toInt ∧ u.1.toInt ≤ 0) ∧ (0 ≤ u.2.1.toInt ∧ u.2.1.toInt ≤ 0) ∧ (zC u.2.2) ∧ (zHF g_c u.2.2))) (fun (u : Int32 × Int32 × (Nat → Int32)) => [(h0, .inr (12, [.int u.1, .int u.2.1, .long m_above, .long m_under, .ref a_traySort, .ref a_trayMany, .ref a_numbers, .ref a_tape, .int m_taped, .int m_textEnd, .int m_faultKind, .int m_faultAt, .int m_bad, .int m_badAt, .int m_token, .int m_at, .int m_behind, .int m_number, .int m_letters, .long m_word, .ref a_c, .ref a_words, .int m_markMany, .ref a_there, .ref a_tried, .ref a_best, .ref a_found, .int m_thereMany, .int m_foundMany, .int m_orderHow, .int m_orderRing, .int m_orderMany, .int m_hasBest, .long m_bestTop, .long m_bestBy, .ref a_weights, .ref a_shared, .int m_random, .int m_truePlace, .int m_trueWay, .int m_seconds, .int m_done, .int m_feelings, .int m_tries, .int m_leftOver, .int m_playDoor, .int m_playRing, .int m_isOpen, .int m_isOver, .int m_wasTried, .int m_hasPlayed, .ref a_feltNow, .ref a_last, .ref a_kept, .int m_hasSeconds, .int m_hasTurned, .int m_hasRound, .ref a_hasFeels, .ref a_isOn, .int m_firstAct, .long m_meanTop, .long m_meanBy, .ref a_order, .int m_rowMany, .int m_newSteps])), (a_trayMany, .inl (cA.1 0, 4, .inl g_trayMany)), (a_numbers, .inl (cA.1 1, 240, .inr (.inl g_numbers))), (a_c, .inl (cA.1 0, 1825, .inl u.2.2))]) 0 0 := by
  have hk_0 : (0 : Int32).toInt = 0 := by decide +kernel
  have hk_1 : (1 : Int32).toInt = 1 := by decide +kernel
  have hk_2 : (2 : Int32).toInt = 2 := by decide +kernel
  have hk_3 : (3 : Int32).toInt = 3 := by decide +kernel
  have hk_4 : (4 : Int32).toInt = 4 := by decide +kernel
  have hk_5 : (5 : Int32).toInt = 5 := by decide +kernel
  have hk_10 : (10 : Int32).toInt = 10 := by decide +kernel
  have hk_95 : (95 : Int32).toInt = 95 := by decide +kernel
  have hk_98 : (98 : Int32).toInt = 98 := by decide +kernel
  have hC_g_c : zCt g_c := hZ_g_c.1
  refine z_start2z (own := RX12) (by decide) (Nat.le_of_ble_eq_true rfl) rfl ?_
  intro p e s m args below meth c A ls Q hx hb hml hts hown hK hE hT hP hD hS hA hl hret
  have hl : lv_has ls 8 [(0, .ref h0), (1, .int r), (2, .int t)] := hl
  refine lv_aload_n hx hb dX12_lay_0 rfl (lv_at hl 0 rfl) ?_
  refine lv_iconst (v := 0) hx hb dX12_lay_1 (by decide) ?_
  refine va_put (D := G) (ci := 12) (v := .int 0) (ty := .int) (C := RX12) (T := TX12) (N := 65) hx hb hts inT12 tyX12 tyX12_ok nmX12 hown hK hP hD hS 0 rfl rfl 1 (by decide) (hts _ tw_1886) (fun _ h9 => h9) rfl (tyX12_ok 1 (by decide)) rfl rfl (Nat.le_of_ble_eq_true rfl) dX12_lay_2 (fun H locs hP hD hS => ?_)
  refine lv_aload_n hx hb dX12_lay_5 rfl (lv_at hl 0 rfl) ?_
  refine lv_iconst (v := 0) hx hb dX12_lay_6 (by decide) ?_
  refine va_put (D := G) (ci := 12) (v := .int 0) (ty := .int) (C := RX12) (T := TX12) (N := 65) hx hb hts inT12 tyX12 tyX12_ok nmX12 hown hK hP hD hS 0 rfl rfl 0 (by decide) (hts _ tw_1885) (fun _ h9 => h9) rfl (tyX12_ok 0 (by decide)) rfl rfl (Nat.le_of_ble_eq_true rfl) dX12_lay_7 (fun H locs hP hD hS => ?_)
  refine lv_aload_n hx hb dX12_lay_10 rfl (lv_at hl 0 rfl) ?_
  refine lv_iload_n hx hb dX12_lay_11 rfl (lv_at hl 2 rfl) ?_
  refine z_callVi (As := [.int t]) (rest := []) (wr := [(a_trayMany, .inl (cA.1 0, 4, .inl g_trayMany)), (a_numbers, .inl (cA.1 1, 240, .inr (.inl g_numbers))), (a_c, .inl (cA.1 0, 1825, .inl g_c))]) ⟨hx, hb, hml, hown, hts⟩ hK hE hT hP hD hS hA (r_isTray l G cA h0 0 0 m_above m_under a_traySort a_trayMany a_numbers a_tape m_taped m_textEnd m_faultKind m_faultAt m_bad m_badAt m_token m_at m_behind m_number m_letters m_word a_c a_words m_markMany a_there a_tried a_best a_found m_thereMany m_foundMany m_orderHow m_orderRing m_orderMany m_hasBest m_bestTop m_bestBy a_weights a_shared m_random m_truePlace m_trueWay m_seconds m_done m_feelings m_tries m_leftOver m_playDoor m_playRing m_isOpen m_isOver m_wasTried m_hasPlayed a_feltNow a_last a_kept m_hasSeconds m_hasTurned m_hasRound a_hasFeels a_isOn m_firstAct m_meanTop m_meanBy a_order m_rowMany m_newSteps t) lk_RX12_298 ⟨rfl, rfl⟩ ⟨Nat.le_of_ble_eq_true rfl, Nat.le_of_ble_eq_true rfl⟩ 12 rfl rfl rfl [0] [1, 2, 3] rfl rfl (by decide) rfl hl.1 rfl (lv_room (Nat.le_of_ble_eq_true rfl)) dX12_lay_12 ⟨Nat.le_of_ble_eq_true rfl, Nat.le_of_ble_eq_true rfl⟩ (fun r_1 u_2 H locs hw hP hD hS => ?_)
  rcases hw with ⟨rfl, -⟩ | ⟨rfl, hf_3⟩
  · skip
    refine lv_if_ne (tgt := 24) hx hb dX12_lay_15 (by decide) (fun h9 => absurd (by decide +kernel) h9) (fun _ => ?_)
    refine lv_aload_n hx hb dX12_lay_18 rfl (lv_at hl 0 rfl) ?_
    refine lv_iconst (v := 1) hx hb dX12_lay_19 (by decide) ?_
    refine z_callVi (As := [.int 1]) (rest := []) (wr := [(a_trayMany, .inl (cA.1 0, 4, .inl g_trayMany)), (a_numbers, .inl (cA.1 1, 240, .inr (.inl g_numbers))), (a_c, .inl (cA.1 0, 1825, .inl g_c))]) ⟨hx, hb, hml, hown, hts⟩ hK hE hT hP hD hS hA (r_no l G cA h0 0 0 m_above m_under a_traySort a_trayMany a_numbers a_tape m_taped m_textEnd m_faultKind m_faultAt m_bad m_badAt m_token m_at m_behind m_number m_letters m_word a_c a_words m_markMany a_there a_tried a_best a_found m_thereMany m_foundMany m_orderHow m_orderRing m_orderMany m_hasBest m_bestTop m_bestBy a_weights a_shared m_random m_truePlace m_trueWay m_seconds m_done m_feelings m_tries m_leftOver m_playDoor m_playRing m_isOpen m_isOver m_wasTried m_hasPlayed a_feltNow a_last a_kept m_hasSeconds m_hasTurned m_hasRound a_hasFeels a_isOn m_firstAct m_meanTop m_meanBy a_order m_rowMany m_newSteps 1) lk_RX12_97 ⟨rfl, rfl⟩ ⟨Nat.le_of_ble_eq_true rfl, Nat.le_of_ble_eq_true rfl⟩ 12 rfl rfl rfl [3] [0, 1, 2] rfl rfl (by decide) rfl hl.1 rfl (lv_room (Nat.le_of_ble_eq_true rfl)) dX12_lay_20 ⟨Nat.le_of_ble_eq_true rfl, Nat.le_of_ble_eq_true rfl⟩ (fun r_5 u_6 H locs hw hP hD hS => ?_)
    obtain ⟨n_4, rfl⟩ : ∃ z, z = u_6 := ⟨_, rfl⟩
    obtain ⟨he_r_5, he_n_4, hw⟩ := hw
    obtain ⟨rfl, -⟩ := hw
    have hpost : ((0 : Int32) = 0 ∧ (0 ≤ (0 : Int32).toInt ∧ (0 : Int32).toInt ≤ 0) ∧ (zC g_c) ∧ (zHF g_c g_c)) ∨ ((0 : Int32) = 1 ∧ (0 ≤ n_4.toInt ∧ n_4.toInt ≤ 0) ∧ (0 ≤ (0 : Int32).toInt ∧ (0 : Int32).toInt ≤ 0) ∧ (zC g_c) ∧ (zHF g_c g_c)) := (Or.inl ⟨rfl, ⟨(by decide +kernel), hZ_g_c, (zHF_refl g_c)⟩⟩)
    exact hret _ _ _ _ _ _ (n_4, 0, g_c) [3, 0, 1, 2] hP hD hS rfl (by decide) dX12_lay_23 (Or.inl rfl) hpost
  · skip
    refine lv_if_ne (tgt := 24) hx hb dX12_lay_15 (by decide) (fun _ => ?_) (fun h9 => absurd h9 (by decide +kernel))
    refine lv_aload_n hx hb dX12_lay_24 rfl (lv_at hl 0 rfl) ?_
    refine lv_iload_n hx hb dX12_lay_25 rfl (lv_at hl 1 rfl) ?_
    refine z_callVi (As := [.int r]) (rest := []) (wr := [(a_trayMany, .inl (cA.1 0, 4, .inl g_trayMany)), (a_numbers, .inl (cA.1 1, 240, .inr (.inl g_numbers)))]) ⟨hx, hb, hml, hown, hts⟩ hK hE hT hP hD hS hA (r_isRing l G cA h0 0 0 m_above m_under a_traySort a_trayMany a_numbers a_tape m_taped m_textEnd m_faultKind m_faultAt m_bad m_badAt m_token m_at m_behind m_number m_letters m_word a_c a_words m_markMany a_there a_tried a_best a_found m_thereMany m_foundMany m_orderHow m_orderRing m_orderMany m_hasBest m_bestTop m_bestBy a_weights a_shared m_random m_truePlace m_trueWay m_seconds m_done m_feelings m_tries m_leftOver m_playDoor m_playRing m_isOpen m_isOver m_wasTried m_hasPlayed a_feltNow a_last a_kept m_hasSeconds m_hasTurned m_hasRound a_hasFeels a_isOn m_firstAct m_meanTop m_meanBy a_order m_rowMany m_newSteps g_c r hZ_g_c) lk_RX12_289 ⟨rfl, rfl⟩ ⟨Nat.le_of_ble_eq_true rfl, Nat.le_of_ble_eq_true rfl⟩ 12 rfl rfl rfl [3, 2] [0, 1] rfl rfl (by decide) rfl hl.1 rfl (lv_room (Nat.le_of_ble_eq_true rfl)) dX12_lay_26 ⟨Nat.le_of_ble_eq_true rfl, Nat.le_of_ble_eq_true rfl⟩ (fun r_7 u_8 H locs hw hP hD hS => ?_)
    rcases hw with ⟨rfl, -⟩ | ⟨rfl, hf_9, hf_10⟩
    · skip
      refine lv_if_ne (tgt := 38) hx hb dX12_lay_29 (by decide) (fun h9 => absurd (by decide +kernel) h9) (fun _ => ?_)
      refine lv_aload_n hx hb dX12_lay_32 rfl (lv_at hl 0 rfl) ?_
      refine lv_iconst (v := 2) hx hb dX12_lay_33 (by decide) ?_
      refine z_callVi (As := [.int 2]) (rest := []) (wr := [(a_trayMany, .inl (cA.1 0, 4, .inl g_trayMany)), (a_numbers, .inl (cA.1 1, 240, .inr (.inl g_numbers))), (a_c, .inl (cA.1 0, 1825, .inl g_c))]) ⟨hx, hb, hml, hown, hts⟩ hK hE hT hP hD hS hA (r_no l G cA h0 0 0 m_above m_under a_traySort a_trayMany a_numbers a_tape m_taped m_textEnd m_faultKind m_faultAt m_bad m_badAt m_token m_at m_behind m_number m_letters m_word a_c a_words m_markMany a_there a_tried a_best a_found m_thereMany m_foundMany m_orderHow m_orderRing m_orderMany m_hasBest m_bestTop m_bestBy a_weights a_shared m_random m_truePlace m_trueWay m_seconds m_done m_feelings m_tries m_leftOver m_playDoor m_playRing m_isOpen m_isOver m_wasTried m_hasPlayed a_feltNow a_last a_kept m_hasSeconds m_hasTurned m_hasRound a_hasFeels a_isOn m_firstAct m_meanTop m_meanBy a_order m_rowMany m_newSteps 2) lk_RX12_97 ⟨rfl, rfl⟩ ⟨Nat.le_of_ble_eq_true rfl, Nat.le_of_ble_eq_true rfl⟩ 12 rfl rfl rfl [2] [0, 1, 3] rfl rfl (by decide) rfl hl.1 rfl (lv_room (Nat.le_of_ble_eq_true rfl)) dX12_lay_34 ⟨Nat.le_of_ble_eq_true rfl, Nat.le_of_ble_eq_true rfl⟩ (fun r_12 u_13 H locs hw hP hD hS => ?_)
      obtain ⟨n_11, rfl⟩ : ∃ z, z = u_13 := ⟨_, rfl⟩
      obtain ⟨he_r_12, he_n_11, hw⟩ := hw
      obtain ⟨rfl, -⟩ := hw
      have hpost : ((0 : Int32) = 0 ∧ (0 ≤ (0 : Int32).toInt ∧ (0 : Int32).toInt ≤ 0) ∧ (zC g_c) ∧ (zHF g_c g_c)) ∨ ((0 : Int32) = 1 ∧ (0 ≤ n_11.toInt ∧ n_11.toInt ≤ 0) ∧ (0 ≤ (0 : Int32).toInt ∧ (0 : Int32).toInt ≤ 0) ∧ (zC g_c) ∧ (zHF g_c g_c)) := (Or.inl ⟨rfl, ⟨(by decide +kernel), hZ_g_c, (zHF_refl g_c)⟩⟩)
      exact hret _ _ _ _ _ _ (n_11, 0, g_c) [3, 0, 1, 2] hP hD hS rfl (by decide) dX12_lay_37 (Or.inl rfl) hpost
    · skip
      refine lv_if_ne (tgt := 38) hx hb dX12_lay_29 (by decide) (fun _ => ?_) (fun h9 => absurd h9 (by decide +kernel))
      refine lv_aload_n hx hb dX12_lay_38 rfl (lv_at hl 0 rfl) ?_
      refine va_get (D := G) (ci := 12) (v := .ref a_trayMany) (C := RX12) (T := TX12) (N := 65) hx hb hts inT12 hown hK hP 2 rfl rfl 5 (by decide) (hts _ tw_1890) (fun _ h9 => h9) rfl dX12_lay_39 ?_
      refine lv_iload_n hx hb dX12_lay_42 rfl (lv_at hl 2 rfl) ?_
      refine va_iald hx hb hK hP 0 0 rfl rfl (z_inN (by omega) (by omega)) dX12_lay_43 ?_
      refine lv_topi (fun x_14 he_x_14 => ?_)
      have hr_x_14 := z_rg hC_g_trayMany he_x_14 (by omega) (by omega)
      refine lv_if_ge (tgt := 53) hx hb dX12_lay_44 (by decide) (fun c_15 => ?_) (fun c_15 => ?_)
      · have b_16 := z_fgeT c_15
        refine lv_aload_n hx hb dX12_lay_53 rfl (lv_at hl 0 rfl) ?_
        refine va_get (D := G) (ci := 12) (v := .ref a_c) (C := RX12) (T := TX12) (N := 65) hx hb hts inT12 hown hK hP 2 rfl rfl 20 (by decide) (hts _ tw_1905) (fun _ h9 => h9) rfl dX12_lay_54 ?_
        refine lv_bipush (v := 95) hx hb dX12_lay_57 (by decide) ?_
        refine lv_iload_n hx hb dX12_lay_59 rfl (lv_at hl 1 rfl) ?_
        refine lv_iadd hx hb dX12_lay_60 ?_
        refine lv_topi (fun x_17 he_x_17 => ?_)
        have hq_x_17 := z_addq he_x_17 hk_95 (rfl : r.toInt = _) (by omega) (by omega)
        refine va_iald hx hb hK hP 3 0 rfl rfl (z_inN (by omega) (by omega)) dX12_lay_61 ?_
        refine lv_topi (fun x_18 he_x_18 => ?_)
        have hr_x_18 := z_ctt hC_g_c he_x_18 (a := 95) (b := 97) (lo := 0) (hi := 10) (by decide +kernel) (by decide) (by omega) (by omega)
        have hsz_x_18 := z_sz (r := r.toInt) he_x_18 (by omega) (by omega)
        refine lv_istore_n (lv' := [(3, .int x_18), (0, .ref h0), (1, .int r), (2, .int t)]) hx hb dX12_lay_62 rfl hl (by decide) rfl (fun ls hl => ?_)
        refine lv_aload_n hx hb dX12_lay_63 rfl (lv_at hl 1 rfl) ?_
        refine va_get (D := G) (ci := 12) (v := .ref a_trayMany) (C := RX12) (T := TX12) (N := 65) hx hb hts inT12 hown hK hP 2 rfl rfl 5 (by decide) (hts _ tw_1890) (fun _ h9 => h9) rfl dX12_lay_64 ?_
        refine lv_iload_n hx hb dX12_lay_67 rfl (lv_at hl 3 rfl) ?_
        refine va_iald hx hb hK hP 0 0 rfl rfl (z_inN (by omega) (by omega)) dX12_lay_68 ?_
        refine lv_topi (fun x_19 he_x_19 => ?_)
        have hr_x_19 := z_rg hC_g_trayMany he_x_19 (by omega) (by omega)
        refine lv_iload_n hx hb dX12_lay_69 rfl (lv_at hl 0 rfl) ?_
        refine lv_icmp_ge (tgt := 79) hx hb dX12_lay_70 (by decide) (fun c_20 => ?_) (fun c_20 => ?_)
        · have b_21 := z_fgeT c_20
          refine lv_iconst (v := 0) hx hb dX12_lay_79 (by decide) ?_
          refine lv_istore (lv' := [(4, .int 0), (3, .int x_18), (0, .ref h0), (1, .int r), (2, .int t)]) hx hb dX12_lay_80 hl (by decide) rfl (fun ls hl => ?_)
          have hlp_1669 : ∀ (n : Nat) (v_1474 : Int32) (H : Heap) (locs : List Loc) (ls : Array Slot), (2147483647 - v_1474.toInt).toNat < n → (0 ≤ v_1474.toInt ∧ v_1474.toInt ≤ 10) → (zLy g_numbers (g_c 1).toInt t.toInt v_1474.toInt) → (v_1474.toInt ≤ x_18.toInt) → va_P G vwCl [(a_trayMany, .inl (cA.1 0, 4, .inl g_trayMany)), (a_numbers, .inl (cA.1 1, 240, .inr (.inl g_numbers))), (h0, .inr (12, [.int 0, .int 0, .long m_above, .long m_under, .ref a_traySort, .ref a_trayMany, .ref a_numbers, .ref a_tape, .int m_taped, .int m_textEnd, .int m_faultKind, .int m_faultAt, .int m_bad, .int m_badAt, .int m_token, .int m_at, .int m_behind, .int m_number, .int m_letters, .long m_word, .ref a_c, .ref a_words, .int m_markMany, .ref a_there, .ref a_tried, .ref a_best, .ref a_found, .int m_thereMany, .int m_foundMany, .int m_orderHow, .int m_orderRing, .int m_orderMany, .int m_hasBest, .long m_bestTop, .long m_bestBy, .ref a_weights, .ref a_shared, .int m_random, .int m_truePlace, .int m_trueWay, .int m_seconds, .int m_done, .int m_feelings, .int m_tries, .int m_leftOver, .int m_playDoor, .int m_playRing, .int m_isOpen, .int m_isOver, .int m_wasTried, .int m_hasPlayed, .ref a_feltNow, .ref a_last, .ref a_kept, .int m_hasSeconds, .int m_hasTurned, .int m_hasRound, .ref a_hasFeels, .ref a_isOn, .int m_firstAct, .long m_meanTop, .long m_meanBy, .ref a_order, .int m_rowMany, .int m_newSteps])), (a_c, .inl (cA.1 0, 1825, .inl g_c))] H → va_D A [(a_trayMany, .inl (cA.1 0, 4, .inl g_trayMany)), (a_numbers, .inl (cA.1 1, 240, .inr (.inl g_numbers))), (h0, .inr (12, [.int 0, .int 0, .long m_above, .long m_under, .ref a_traySort, .ref a_trayMany, .ref a_numbers, .ref a_tape, .int m_taped, .int m_textEnd, .int m_faultKind, .int m_faultAt, .int m_bad, .int m_badAt, .int m_token, .int m_at, .int m_behind, .int m_number, .int m_letters, .long m_word, .ref a_c, .ref a_words, .int m_markMany, .ref a_there, .ref a_tried, .ref a_best, .ref a_found, .int m_thereMany, .int m_foundMany, .int m_orderHow, .int m_orderRing, .int m_orderMany, .int m_hasBest, .long m_bestTop, .long m_bestBy, .ref a_weights, .ref a_shared, .int m_random, .int m_truePlace, .int m_trueWay, .int m_seconds, .int m_done, .int m_feelings, .int m_tries, .int m_leftOver, .int m_playDoor, .int m_playRing, .int m_isOpen, .int m_isOver, .int m_wasTried, .int m_hasPlayed, .ref a_feltNow, .ref a_last, .ref a_kept, .int m_hasSeconds, .int m_hasTurned, .int m_hasRound, .ref a_hasFeels, .ref a_isOn, .int m_firstAct, .long m_meanTop, .long m_meanBy, .ref a_order, .int m_rowMany, .int m_newSteps])), (a_c, .inl (cA.1 0, 1825, .inl g_c))] → va_S A s.heap H locs → lv_has ls 8 [(0, .ref h0), (1, .int r), (2, .int t), (3, .int x_18), (4, .int v_1474)] → W p l e ({ frames := 2, cells := 0, slots := 0, locals := 47 }) s m args below meth c H locs 0 0 Q (F0 m 82 ls []) := by
            intro n
            induction n with
            | zero =>
              intro v_1474 H locs ls hmu_hlp_1669 hr_v_1474 hi_1667 hi_1668 hP hD hS hl
              exact absurd hmu_hlp_1669 (Nat.not_lt_zero _)
            | succ n ih_1670 =>
              intro v_1474 H locs ls hmu_hlp_1669 hr_v_1474 hi_1667 hi_1668 hP hD hS hl
              refine lv_iload hx hb dX12_lay_82 (lv_at hl 4 rfl) ?_
              refine lv_iload_n hx hb dX12_lay_84 rfl (lv_at hl 3 rfl) ?_
              refine lv_icmp_ge (tgt := 164) hx hb dX12_lay_85 (by decide) (fun c_1671 => ?_) (fun c_1671 => ?_)
              · have b_1672 := z_fgeT c_1671
                have hlyn : v_1474.toInt = x_18.toInt := by omega
                have hlyE : zLy g_numbers (g_c 1).toInt t.toInt x_18.toInt := hlyn ▸ hi_1667
                refine lv_iconst (v := 0) hx hb dX12_lay_164 (by decide) ?_
                refine lv_istore (lv' := [(4, .int 0), (0, .ref h0), (1, .int r), (2, .int t), (3, .int x_18)]) hx hb dX12_lay_165 hl (by decide) rfl (fun ls hl => ?_)
                have hlp_1853 : ∀ (n : Nat) (v_1835 : Int32) (g_1836 : Nat → Int32) (H : Heap) (locs : List Loc) (ls : Array Slot), (2147483647 - v_1835.toInt).toNat < n → (0 ≤ v_1835.toInt ∧ v_1835.toInt ≤ 10) → (zCt g_1836) → (zHF g_c g_1836) → (zLw g_c g_1836 g_numbers r.toInt t.toInt v_1835.toInt) → (v_1835.toInt ≤ x_18.toInt) → va_P G vwCl [(a_trayMany, .inl (cA.1 0, 4, .inl g_trayMany)), (a_numbers, .inl (cA.1 1, 240, .inr (.inl g_numbers))), (h0, .inr (12, [.int 0, .int 0, .long m_above, .long m_under, .ref a_traySort, .ref a_trayMany, .ref a_numbers, .ref a_tape, .int m_taped, .int m_textEnd, .int m_faultKind, .int m_faultAt, .int m_bad, .int m_badAt, .int m_token, .int m_at, .int m_behind, .int m_number, .int m_letters, .long m_word, .ref a_c, .ref a_words, .int m_markMany, .ref a_there, .ref a_tried, .ref a_best, .ref a_found, .int m_thereMany, .int m_foundMany, .int m_orderHow, .int m_orderRing, .int m_orderMany, .int m_hasBest, .long m_bestTop, .long m_bestBy, .ref a_weights, .ref a_shared, .int m_random, .int m_truePlace, .int m_trueWay, .int m_seconds, .int m_done, .int m_feelings, .int m_tries, .int m_leftOver, .int m_playDoor, .int m_playRing, .int m_isOpen, .int m_isOver, .int m_wasTried, .int m_hasPlayed, .ref a_feltNow, .ref a_last, .ref a_kept, .int m_hasSeconds, .int m_hasTurned, .int m_hasRound, .ref a_hasFeels, .ref a_isOn, .int m_firstAct, .long m_meanTop, .long m_meanBy, .ref a_order, .int m_rowMany, .int m_newSteps])), (a_c, .inl (cA.1 0, 1825, .inl g_1836))] H → va_D A [(a_trayMany, .inl (cA.1 0, 4, .inl g_trayMany)), (a_numbers, .inl (cA.1 1, 240, .inr (.inl g_numbers))), (h0, .inr (12, [.int 0, .int 0, .long m_above, .long m_under, .ref a_traySort, .ref a_trayMany, .ref a_numbers, .ref a_tape, .int m_taped, .int m_textEnd, .int m_faultKind, .int m_faultAt, .int m_bad, .int m_badAt, .int m_token, .int m_at, .int m_behind, .int m_number, .int m_letters, .long m_word, .ref a_c, .ref a_words, .int m_markMany, .ref a_there, .ref a_tried, .ref a_best, .ref a_found, .int m_thereMany, .int m_foundMany, .int m_orderHow, .int m_orderRing, .int m_orderMany, .int m_hasBest, .long m_bestTop, .long m_bestBy, .ref a_weights, .ref a_shared, .int m_random, .int m_truePlace, .int m_trueWay, .int m_seconds, .int m_done, .int m_feelings, .int m_tries, .int m_leftOver, .int m_playDoor, .int m_playRing, .int m_isOpen, .int m_isOver, .int m_wasTried, .int m_hasPlayed, .ref a_feltNow, .ref a_last, .ref a_kept, .int m_hasSeconds, .int m_hasTurned, .int m_hasRound, .ref a_hasFeels, .ref a_isOn, .int m_firstAct, .long m_meanTop, .long m_meanBy, .ref a_order, .int m_rowMany, .int m_newSteps])), (a_c, .inl (cA.1 0, 1825, .inl g_1836))] → va_S A s.heap H locs → lv_has ls 8 [(0, .ref h0), (1, .int r), (2, .int t), (3, .int x_18), (4, .int v_1835)] → W p l e ({ frames := 2, cells := 0, slots := 0, locals := 47 }) s m args below meth c H locs 0 0 Q (F0 m 167 ls []) := by
                  intro n
                  induction n with
                  | zero =>
                    intro v_1835 g_1836 H locs ls hmu_hlp_1853 hr_v_1835 hC_g_1836 hs_1850 hi_1851 hi_1852 hP hD hS hl
                    exact absurd hmu_hlp_1853 (Nat.not_lt_zero _)
                  | succ n ih_1854 =>
                    intro v_1835 g_1836 H locs ls hmu_hlp_1853 hr_v_1835 hC_g_1836 hs_1850 hi_1851 hi_1852 hP hD hS hl
                    refine lv_iload hx hb dX12_lay_167 (lv_at hl 4 rfl) ?_
                    refine lv_iload_n hx hb dX12_lay_169 rfl (lv_at hl 3 rfl) ?_
                    refine lv_icmp_ge (tgt := 202) hx hb dX12_lay_170 (by decide) (fun c_1855 => ?_) (fun c_1855 => ?_)
                    · have b_1856 := z_fgeT c_1855
                      refine lv_aload_n hx hb dX12_lay_202 rfl (lv_at hl 0 rfl) ?_
                      have hlw : zLw g_c g_1836 g_numbers r.toInt t.toInt x_18.toInt := (show v_1835.toInt = x_18.toInt by omega) ▸ hi_1851
                      have hZ_g_1836 : zC g_1836 := zLw_zC hZ_g_c hC_g_1836 hlw hlyE (by omega) (by omega) (by omega)
                      refine lv_iload_n hx hb dX12_lay_203 rfl (lv_at hl 1 rfl) ?_
                      refine z_callVv (As := [.int r]) (rest := []) (wr := [(a_trayMany, .inl (cA.1 0, 4, .inl g_trayMany)), (a_numbers, .inl (cA.1 1, 240, .inr (.inl g_numbers)))]) ⟨hx, hb, hml, hown, hts⟩ hK hE hT hP hD hS hA (r_letGo l G cA h0 0 0 m_above m_under a_traySort a_trayMany a_numbers a_tape m_taped m_textEnd m_faultKind m_faultAt m_bad m_badAt m_token m_at m_behind m_number m_letters m_word a_c a_words m_markMany a_there a_tried a_best a_found m_thereMany m_foundMany m_orderHow m_orderRing m_orderMany m_hasBest m_bestTop m_bestBy a_weights a_shared m_random m_truePlace m_trueWay m_seconds m_done m_feelings m_tries m_leftOver m_playDoor m_playRing m_isOpen m_isOver m_wasTried m_hasPlayed a_feltNow a_last a_kept m_hasSeconds m_hasTurned m_hasRound a_hasFeels a_isOn m_firstAct m_meanTop m_meanBy a_order m_rowMany m_newSteps g_1836 r hZ_g_1836) lk_RX12_305 ⟨rfl, rfl⟩ ⟨Nat.le_of_ble_eq_true rfl, Nat.le_of_ble_eq_true rfl⟩ 12 rfl rfl rfl [2, 3] [0, 1] rfl rfl (by decide) rfl hl.1 rfl (lv_room (Nat.le_of_ble_eq_true rfl)) dX12_lay_204 ⟨Nat.le_of_ble_eq_true rfl, Nat.le_of_ble_eq_true rfl⟩ (fun u_1859 H locs hw hP hD hS => ?_)
                      obtain ⟨n_1857, rfl⟩ : ∃ z, z = u_1859 := ⟨_, rfl⟩
                      obtain ⟨hZ_n_1857, hf_1860⟩ := hw
                      have hC_n_1857 : zCt n_1857 := hZ_n_1857.1
                      have hs_1861 : zHF g_c n_1857 := (zHF_trans hs_1850 (zHF_10 hf_1860))
                      refine lv_iconst (v := 1) hx hb dX12_lay_207 (by decide) ?_
                      have hpost : ((1 : Int32) = 0 ∧ (0 ≤ (0 : Int32).toInt ∧ (0 : Int32).toInt ≤ 0) ∧ (zC n_1857) ∧ (zHF g_c n_1857)) ∨ ((1 : Int32) = 1 ∧ (0 ≤ (0 : Int32).toInt ∧ (0 : Int32).toInt ≤ 0) ∧ (0 ≤ (0 : Int32).toInt ∧ (0 : Int32).toInt ≤ 0) ∧ (zC n_1857) ∧ (zHF g_c n_1857)) := (Or.inr ⟨rfl, ⟨(by decide +kernel), (by decide +kernel), hZ_n_1857, hs_1861⟩⟩)
                      exact hret _ _ _ _ _ _ (0, 0, n_1857) [2, 0, 1, 3] hP hD hS rfl (by decide) dX12_lay_208 (Or.inr rfl) hpost
                    · have b_1862 := z_fltF c_1855
                      refine lv_aload_n hx hb dX12_lay_173 rfl (lv_at hl 0 rfl) ?_
                      refine va_get (D := G) (ci := 12) (v := .ref a_c) (C := RX12) (T := TX12) (N := 65) hx hb hts inT12 hown hK hP 2 rfl rfl 20 (by decide) (hts _ tw_1905) (fun _ h9 => h9) rfl dX12_lay_174 ?_
                      refine lv_bipush (v := 98) hx hb dX12_lay_177 (by decide) ?_
                      refine lv_bipush (v := 10) hx hb dX12_lay_179 (by decide) ?_
                      refine lv_iload_n hx hb dX12_lay_181 rfl (lv_at hl 1 rfl) ?_
                      refine lv_imul hx hb dX12_lay_182 ?_
                      refine lv_topi (fun x_1863 he_x_1863 => ?_)
                      have hq_x_1863 := z_mulq he_x_1863 hk_10 (rfl : r.toInt = _) (by omega) (by omega)
                      refine lv_iadd hx hb dX12_lay_183 ?_
                      refine lv_topi (fun x_1864 he_x_1864 => ?_)
                      have hq_x_1864 := z_addq he_x_1864 hk_98 (rfl : x_1863.toInt = _) (by omega) (by omega)
                      refine lv_iload hx hb dX12_lay_184 (lv_at hl 4 rfl) ?_
                      refine lv_iadd hx hb dX12_lay_186 ?_
                      refine lv_topi (fun x_1865 he_x_1865 => ?_)
                      have hq_x_1865 := z_addq he_x_1865 (rfl : x_1864.toInt = _) (rfl : v_1835.toInt = _) (by omega) (by omega)
                      refine lv_aload_n hx hb dX12_lay_187 rfl (lv_at hl 0 rfl) ?_
                      refine lv_iload_n hx hb dX12_lay_188 rfl (lv_at hl 2 rfl) ?_
                      refine lv_iload hx hb dX12_lay_189 (lv_at hl 4 rfl) ?_
                      refine z_callVl (As := [.int t, .int v_1835]) (rest := [.int x_1865, .ref a_c]) (wr := [(a_trayMany, .inl (cA.1 0, 4, .inl g_trayMany)), (a_c, .inl (cA.1 0, 1825, .inl g_1836))]) ⟨hx, hb, hml, hown, hts⟩ hK hE hT hP hD hS hA (r_numberOf l G cA h0 0 0 m_above m_under a_traySort a_trayMany a_numbers a_tape m_taped m_textEnd m_faultKind m_faultAt m_bad m_badAt m_token m_at m_behind m_number m_letters m_word a_c a_words m_markMany a_there a_tried a_best a_found m_thereMany m_foundMany m_orderHow m_orderRing m_orderMany m_hasBest m_bestTop m_bestBy a_weights a_shared m_random m_truePlace m_trueWay m_seconds m_done m_feelings m_tries m_leftOver m_playDoor m_playRing m_isOpen m_isOver m_wasTried m_hasPlayed a_feltNow a_last a_kept m_hasSeconds m_hasTurned m_hasRound a_hasFeels a_isOn m_firstAct m_meanTop m_meanBy a_order m_rowMany m_newSteps g_numbers t v_1835 (by omega) (z_rgw hr_v_1835 (by decide) (by decide))) lk_RX12_301 ⟨rfl, rfl⟩ ⟨Nat.le_of_ble_eq_true rfl, Nat.le_of_ble_eq_true rfl⟩ 12 rfl rfl rfl [2, 1] [0, 3] rfl rfl (by decide) rfl hl.1 rfl (lv_room (Nat.le_of_ble_eq_true rfl)) dX12_lay_191 ⟨Nat.le_of_ble_eq_true rfl, Nat.le_of_ble_eq_true rfl⟩ (fun r_1866 u_1867 H locs hw hP hD hS => ?_)
                      have hf_1868 := hw
                      have hyl_r_1866 := (hlyE).1 v_1835.toInt.toNat (by omega)
                      rw [← hf_1868] at hyl_r_1866
                      have hk1_r_1866 := z_ct hZ_g_c (z := g_c 1) (i := 1) (by rfl) (a := 1) (b := 1) (lo := 0) (hi := 10) (by decide +kernel) (by decide) (by decide +kernel) (by decide +kernel)
                      have hy9_r_1866 : 0 ≤ r_1866.toInt ∧ r_1866.toInt ≤ 9 := by omega
                      refine lv_l2i (v := (r_1866).toInt32) hx hb dX12_lay_194 rfl ?_
                      refine lv_topi (fun x_1869 he_x_1869 => ?_)
                      have hq_x_1869 := z_l2i he_x_1869 (by omega) (by omega)
                      refine z_iast hx hb hK hP hD hS 1 0 rfl rfl (z_inN (by omega) (by omega)) dX12_lay_195 (fun g_1870 hg_g_1870 H locs hP hD hS => ?_)
                      have hC_g_1870 := z_ctUt hC_g_1836 hg_g_1870 (a := 98) (b := 127) (lo := 0) (hi := 9) (by decide +kernel) (by omega) (by omega) (by omega)
                      have hw_g_1870_1 := z_cwo hg_g_1870 (k := 1) (by omega) (by omega)
                      have hw_g_1870_2 := z_cwo hg_g_1870 (k := 2) (by omega) (by omega)
                      have hs_1871 : zHF g_c g_1870 := (zHF_upd hs_1850 hg_g_1870 (a := 98) (b := 127) (by decide) (by omega) (by omega))
                      obtain ⟨x_1872, he_x_1872⟩ : ∃ z : Int32, z = v_1835 + 1 := ⟨_, rfl⟩
                      have hq_x_1872 := z_addq he_x_1872 (rfl : v_1835.toInt = _) hk_1 (by omega) (by omega)
                      refine lv_iinc (v := x_1872) (lv' := [(4, .int x_1872), (0, .ref h0), (1, .int r), (2, .int t), (3, .int x_18)]) hx hb dX12_lay_196 hl (k := 4) rfl ((z_ofi (by decide +kernel)).trans he_x_1872.symm) (by decide) rfl (fun ls hl => ?_)
                      refine lv_goto (tgt := 167) hx hb dX12_lay_199 (by decide) ?_
                      have hP := hP.sub (ws' := [(a_trayMany, .inl (cA.1 0, 4, .inl g_trayMany)), (a_numbers, .inl (cA.1 1, 240, .inr (.inl g_numbers))), (h0, .inr (12, [.int 0, .int 0, .long m_above, .long m_under, .ref a_traySort, .ref a_trayMany, .ref a_numbers, .ref a_tape, .int m_taped, .int m_textEnd, .int m_faultKind, .int m_faultAt, .int m_bad, .int m_badAt, .int m_token, .int m_at, .int m_behind, .int m_number, .int m_letters, .long m_word, .ref a_c, .ref a_words, .int m_markMany, .ref a_there, .ref a_tried, .ref a_best, .ref a_found, .int m_thereMany, .int m_foundMany, .int m_orderHow, .int m_orderRing, .int m_orderMany, .int m_hasBest, .long m_bestTop, .long m_bestBy, .ref a_weights, .ref a_shared, .int m_random, .int m_truePlace, .int m_trueWay, .int m_seconds, .int m_done, .int m_feelings, .int m_tries, .int m_leftOver, .int m_playDoor, .int m_playRing, .int m_isOpen, .int m_isOver, .int m_wasTried, .int m_hasPlayed, .ref a_feltNow, .ref a_last, .ref a_kept, .int m_hasSeconds, .int m_hasTurned, .int m_hasRound, .ref a_hasFeels, .ref a_isOn, .int m_firstAct, .long m_meanTop, .long m_meanBy, .ref a_order, .int m_rowMany, .int m_newSteps])), (a_c, .inl (cA.1 0, 1825, .inl g_1870))]) [0, 3, 2, 1] rfl
                      have hD := hD.sub (ws' := [(a_trayMany, .inl (cA.1 0, 4, .inl g_trayMany)), (a_numbers, .inl (cA.1 1, 240, .inr (.inl g_numbers))), (h0, .inr (12, [.int 0, .int 0, .long m_above, .long m_under, .ref a_traySort, .ref a_trayMany, .ref a_numbers, .ref a_tape, .int m_taped, .int m_textEnd, .int m_faultKind, .int m_faultAt, .int m_bad, .int m_badAt, .int m_token, .int m_at, .int m_behind, .int m_number, .int m_letters, .long m_word, .ref a_c, .ref a_words, .int m_markMany, .ref a_there, .ref a_tried, .ref a_best, .ref a_found, .int m_thereMany, .int m_foundMany, .int m_orderHow, .int m_orderRing, .int m_orderMany, .int m_hasBest, .long m_bestTop, .long m_bestBy, .ref a_weights, .ref a_shared, .int m_random, .int m_truePlace, .int m_trueWay, .int m_seconds, .int m_done, .int m_feelings, .int m_tries, .int m_leftOver, .int m_playDoor, .int m_playRing, .int m_isOpen, .int m_isOver, .int m_wasTried, .int m_hasPlayed, .ref a_feltNow, .ref a_last, .ref a_kept, .int m_hasSeconds, .int m_hasTurned, .int m_hasRound, .ref a_hasFeels, .ref a_isOn, .int m_firstAct, .long m_meanTop, .long m_meanBy, .ref a_order, .int m_rowMany, .int m_newSteps])), (a_c, .inl (cA.1 0, 1825, .inl g_1870))]) [0, 3, 2, 1] (by decide) rfl
                      exact ih_1854 x_1872 g_1870 H locs ls (by omega) (by omega) hC_g_1870 hs_1871 (by rw [hq_x_1872]; exact zLw_step hi_1851 hg_g_1870 (by omega) hf_1868 (by omega) (by omega) (by omega) (by omega) (by omega)) (by omega) hP hD hS (lv_sub hl [1, 2, 3, 4, 0] rfl)
                exact hlp_1853 _ 0 g_c _ _ _ (Nat.lt_succ_self _) (by decide +kernel) hC_g_c (zHF_refl g_c) zLw_0 (by omega) hP hD hS (lv_sub hl [1, 2, 3, 4, 0] rfl)
              · have b_1873 := z_fltF c_1671
                refine lv_aload_n hx hb dX12_lay_88 rfl (lv_at hl 0 rfl) ?_
                refine lv_iload_n hx hb dX12_lay_89 rfl (lv_at hl 2 rfl) ?_
                refine lv_iload hx hb dX12_lay_90 (lv_at hl 4 rfl) ?_
                refine z_callVl (As := [.int t, .int v_1474]) (rest := []) (wr := [(a_trayMany, .inl (cA.1 0, 4, .inl g_trayMany)), (a_c, .inl (cA.1 0, 1825, .inl g_c))]) ⟨hx, hb, hml, hown, hts⟩ hK hE hT hP hD hS hA (r_numberOf l G cA h0 0 0 m_above m_under a_traySort a_trayMany a_numbers a_tape m_taped m_textEnd m_faultKind m_faultAt m_bad m_badAt m_token m_at m_behind m_number m_letters m_word a_c a_words m_markMany a_there a_tried a_best a_found m_thereMany m_foundMany m_orderHow m_orderRing m_orderMany m_hasBest m_bestTop m_bestBy a_weights a_shared m_random m_truePlace m_trueWay m_seconds m_done m_feelings m_tries m_leftOver m_playDoor m_playRing m_isOpen m_isOver m_wasTried m_hasPlayed a_feltNow a_last a_kept m_hasSeconds m_hasTurned m_hasRound a_hasFeels a_isOn m_firstAct m_meanTop m_meanBy a_order m_rowMany m_newSteps g_numbers t v_1474 (by omega) (z_rgw hr_v_1474 (by decide) (by decide))) lk_RX12_301 ⟨rfl, rfl⟩ ⟨Nat.le_of_ble_eq_true rfl, Nat.le_of_ble_eq_true rfl⟩ 12 rfl rfl rfl [2, 1] [0, 3] rfl rfl (by decide) rfl hl.1 rfl (lv_room (Nat.le_of_ble_eq_true rfl)) dX12_lay_92 ⟨Nat.le_of_ble_eq_true rfl, Nat.le_of_ble_eq_true rfl⟩ (fun r_1874 u_1875 H locs hw hP hD hS => ?_)
                have hf_1876 := hw
                refine lv_lstore (lv' := [(5, .long r_1874), (0, .ref h0), (1, .int r), (2, .int t), (3, .int x_18), (4, .int v_1474)]) hx hb dX12_lay_95 hl (by decide) rfl (fun ls hl => ?_)
                refine lv_aload_n hx hb dX12_lay_97 rfl (lv_at hl 1 rfl) ?_
                refine lv_lload hx hb dX12_lay_98 (lv_at hl 0 rfl) ?_
                refine z_callVi (As := [.long r_1874]) (rest := []) (wr := [(a_trayMany, .inl (cA.1 0, 4, .inl g_trayMany)), (a_numbers, .inl (cA.1 1, 240, .inr (.inl g_numbers)))]) ⟨hx, hb, hml, hown, hts⟩ hK hE hT hP hD hS hA (r_isKey l G cA h0 0 0 m_above m_under a_traySort a_trayMany a_numbers a_tape m_taped m_textEnd m_faultKind m_faultAt m_bad m_badAt m_token m_at m_behind m_number m_letters m_word a_c a_words m_markMany a_there a_tried a_best a_found m_thereMany m_foundMany m_orderHow m_orderRing m_orderMany m_hasBest m_bestTop m_bestBy a_weights a_shared m_random m_truePlace m_trueWay m_seconds m_done m_feelings m_tries m_leftOver m_playDoor m_playRing m_isOpen m_isOver m_wasTried m_hasPlayed a_feltNow a_last a_kept m_hasSeconds m_hasTurned m_hasRound a_hasFeels a_isOn m_firstAct m_meanTop m_meanBy a_order m_rowMany m_newSteps g_c r_1874 hZ_g_c) lk_RX12_275 ⟨rfl, rfl⟩ ⟨Nat.le_of_ble_eq_true rfl, Nat.le_of_ble_eq_true rfl⟩ 12 rfl rfl rfl [2, 1] [0, 3] rfl rfl (by decide) rfl hl.1 rfl (lv_room (Nat.le_of_ble_eq_true rfl)) dX12_lay_100 ⟨Nat.le_of_ble_eq_true rfl, Nat.le_of_ble_eq_true rfl⟩ (fun r_1877 u_1878 H locs hw hP hD hS => ?_)
                rcases hw with ⟨rfl, -⟩ | ⟨rfl, hf_1879, hf_1880⟩
                · skip
                  refine lv_if_eq (tgt := 117) hx hb dX12_lay_103 (by decide) (fun _ => ?_) (fun h9 => absurd (by decide +kernel) h9)
                  refine lv_aload_n hx hb dX12_lay_117 rfl (lv_at hl 1 rfl) ?_
                  refine lv_iconst (v := 5) hx hb dX12_lay_118 (by decide) ?_
                  refine z_callVi (As := [.int 5]) (rest := []) (wr := [(a_trayMany, .inl (cA.1 0, 4, .inl g_trayMany)), (a_numbers, .inl (cA.1 1, 240, .inr (.inl g_numbers))), (a_c, .inl (cA.1 0, 1825, .inl g_c))]) ⟨hx, hb, hml, hown, hts⟩ hK hE hT hP hD hS hA (r_no l G cA h0 0 0 m_above m_under a_traySort a_trayMany a_numbers a_tape m_taped m_textEnd m_faultKind m_faultAt m_bad m_badAt m_token m_at m_behind m_number m_letters m_word a_c a_words m_markMany a_there a_tried a_best a_found m_thereMany m_foundMany m_orderHow m_orderRing m_orderMany m_hasBest m_bestTop m_bestBy a_weights a_shared m_random m_truePlace m_trueWay m_seconds m_done m_feelings m_tries m_leftOver m_playDoor m_playRing m_isOpen m_isOver m_wasTried m_hasPlayed a_feltNow a_last a_kept m_hasSeconds m_hasTurned m_hasRound a_hasFeels a_isOn m_firstAct m_meanTop m_meanBy a_order m_rowMany m_newSteps 5) lk_RX12_97 ⟨rfl, rfl⟩ ⟨Nat.le_of_ble_eq_true rfl, Nat.le_of_ble_eq_true rfl⟩ 12 rfl rfl rfl [2] [0, 1, 3] rfl rfl (by decide) rfl hl.1 rfl (lv_room (Nat.le_of_ble_eq_true rfl)) dX12_lay_119 ⟨Nat.le_of_ble_eq_true rfl, Nat.le_of_ble_eq_true rfl⟩ (fun r_1882 u_1883 H locs hw hP hD hS => ?_)
                  obtain ⟨n_1881, rfl⟩ : ∃ z, z = u_1883 := ⟨_, rfl⟩
                  obtain ⟨he_r_1882, he_n_1881, hw⟩ := hw
                  obtain ⟨rfl, -⟩ := hw
                  have hpost : ((0 : Int32) = 0 ∧ (0 ≤ (0 : Int32).toInt ∧ (0 : Int32).toInt ≤ 0) ∧ (zC g_c) ∧ (zHF g_c g_c)) ∨ ((0 : Int32) = 1 ∧ (0 ≤ n_1881.toInt ∧ n_1881.toInt ≤ 0) ∧ (0 ≤ (0 : Int32).toInt ∧ (0 : Int32).toInt ≤ 0) ∧ (zC g_c) ∧ (zHF g_c g_c)) := (Or.inl ⟨rfl, ⟨(by decide +kernel), hZ_g_c, (zHF_refl g_c)⟩⟩)
                  exact hret _ _ _ _ _ _ (n_1881, 0, g_c) [3, 0, 1, 2] hP hD hS rfl (by decide) dX12_lay_122 (Or.inl rfl) hpost
                · skip
                  refine lv_if_eq (tgt := 117) hx hb dX12_lay_103 (by decide) (fun h9 => absurd h9 (by decide +kernel)) (fun _ => ?_)
                  refine lv_aload_n hx hb dX12_lay_106 rfl (lv_at hl 1 rfl) ?_
                  refine lv_lload hx hb dX12_lay_107 (lv_at hl 0 rfl) ?_
                  refine lv_l2i (v := (r_1874).toInt32) hx hb dX12_lay_109 rfl ?_
                  refine lv_topi (fun x_1884 he_x_1884 => ?_)
                  have hq_x_1884 := z_l2i he_x_1884 (by omega) (by omega)
                  refine z_callVi (As := [.int x_1884]) (rest := []) (wr := [(a_trayMany, .inl (cA.1 0, 4, .inl g_trayMany)), (a_numbers, .inl (cA.1 1, 240, .inr (.inl g_numbers)))]) ⟨hx, hb, hml, hown, hts⟩ hK hE hT hP hD hS hA (r_ringOf l G cA h0 0 0 m_above m_under a_traySort a_trayMany a_numbers a_tape m_taped m_textEnd m_faultKind m_faultAt m_bad m_badAt m_token m_at m_behind m_number m_letters m_word a_c a_words m_markMany a_there a_tried a_best a_found m_thereMany m_foundMany m_orderHow m_orderRing m_orderMany m_hasBest m_bestTop m_bestBy a_weights a_shared m_random m_truePlace m_trueWay m_seconds m_done m_feelings m_tries m_leftOver m_playDoor m_playRing m_isOpen m_isOver m_wasTried m_hasPlayed a_feltNow a_last a_kept m_hasSeconds m_hasTurned m_hasRound a_hasFeels a_isOn m_firstAct m_meanTop m_meanBy a_order m_rowMany m_newSteps g_c x_1884 (by omega) hZ_g_c) lk_RX12_278 ⟨rfl, rfl⟩ ⟨Nat.le_of_ble_eq_true rfl, Nat.le_of_ble_eq_true rfl⟩ 12 rfl rfl rfl [2, 3] [0, 1] rfl rfl (by decide) rfl hl.1 rfl (lv_room (Nat.le_of_ble_eq_true rfl)) dX12_lay_110 ⟨Nat.le_of_ble_eq_true rfl, Nat.le_of_ble_eq_true rfl⟩ (fun r_1885 u_1886 H locs hw hP hD hS => ?_)
                  obtain ⟨hr_r_1885, hf_1887⟩ := hw
                  refine lv_iload_n hx hb dX12_lay_113 rfl (lv_at hl 2 rfl) ?_
                  refine lv_icmp_eq (tgt := 123) hx hb dX12_lay_114 (by decide) (fun c_1888 => ?_) (fun c_1888 => ?_)
                  · have b_1889 := z_feqT c_1888
                    refine lv_iconst (v := 0) hx hb dX12_lay_123 (by decide) ?_
                    refine lv_istore (lv' := [(7, .int 0), (5, .long r_1874), (0, .ref h0), (1, .int r), (2, .int t), (3, .int x_18), (4, .int v_1474)]) hx hb dX12_lay_124 hl (by decide) rfl (fun ls hl => ?_)
                    have hlp_2043 : ∀ (n : Nat) (v_2028 : Int32) (H : Heap) (locs : List Loc) (ls : Array Slot), (2147483647 - v_2028.toInt).toNat < n → (0 ≤ v_2028.toInt ∧ v_2028.toInt ≤ 9) → (zLz g_numbers t.toInt r_1874.toInt v_2028.toInt) → va_P G vwCl [(a_trayMany, .inl (cA.1 0, 4, .inl g_trayMany)), (a_numbers, .inl (cA.1 1, 240, .inr (.inl g_numbers))), (h0, .inr (12, [.int 0, .int 0, .long m_above, .long m_under, .ref a_traySort, .ref a_trayMany, .ref a_numbers, .ref a_tape, .int m_taped, .int m_textEnd, .int m_faultKind, .int m_faultAt, .int m_bad, .int m_badAt, .int m_token, .int m_at, .int m_behind, .int m_number, .int m_letters, .long m_word, .ref a_c, .ref a_words, .int m_markMany, .ref a_there, .ref a_tried, .ref a_best, .ref a_found, .int m_thereMany, .int m_foundMany, .int m_orderHow, .int m_orderRing, .int m_orderMany, .int m_hasBest, .long m_bestTop, .long m_bestBy, .ref a_weights, .ref a_shared, .int m_random, .int m_truePlace, .int m_trueWay, .int m_seconds, .int m_done, .int m_feelings, .int m_tries, .int m_leftOver, .int m_playDoor, .int m_playRing, .int m_isOpen, .int m_isOver, .int m_wasTried, .int m_hasPlayed, .ref a_feltNow, .ref a_last, .ref a_kept, .int m_hasSeconds, .int m_hasTurned, .int m_hasRound, .ref a_hasFeels, .ref a_isOn, .int m_firstAct, .long m_meanTop, .long m_meanBy, .ref a_order, .int m_rowMany, .int m_newSteps])), (a_c, .inl (cA.1 0, 1825, .inl g_c))] H → va_D A [(a_trayMany, .inl (cA.1 0, 4, .inl g_trayMany)), (a_numbers, .inl (cA.1 1, 240, .inr (.inl g_numbers))), (h0, .inr (12, [.int 0, .int 0, .long m_above, .long m_under, .ref a_traySort, .ref a_trayMany, .ref a_numbers, .ref a_tape, .int m_taped, .int m_textEnd, .int m_faultKind, .int m_faultAt, .int m_bad, .int m_badAt, .int m_token, .int m_at, .int m_behind, .int m_number, .int m_letters, .long m_word, .ref a_c, .ref a_words, .int m_markMany, .ref a_there, .ref a_tried, .ref a_best, .ref a_found, .int m_thereMany, .int m_foundMany, .int m_orderHow, .int m_orderRing, .int m_orderMany, .int m_hasBest, .long m_bestTop, .long m_bestBy, .ref a_weights, .ref a_shared, .int m_random, .int m_truePlace, .int m_trueWay, .int m_seconds, .int m_done, .int m_feelings, .int m_tries, .int m_leftOver, .int m_playDoor, .int m_playRing, .int m_isOpen, .int m_isOver, .int m_wasTried, .int m_hasPlayed, .ref a_feltNow, .ref a_last, .ref a_kept, .int m_hasSeconds, .int m_hasTurned, .int m_hasRound, .ref a_hasFeels, .ref a_isOn, .int m_firstAct, .long m_meanTop, .long m_meanBy, .ref a_order, .int m_rowMany, .int m_newSteps])), (a_c, .inl (cA.1 0, 1825, .inl g_c))] → va_S A s.heap H locs → lv_has ls 8 [(0, .ref h0), (1, .int r), (2, .int t), (3, .int x_18), (4, .int v_1474), (5, .long r_1874), (7, .int v_2028)] → W p l e ({ frames := 2, cells := 0, slots := 0, locals := 47 }) s m args below meth c H locs 0 0 Q (F0 m 126 ls []) := by
                      intro n
                      induction n with
                      | zero =>
                        intro v_2028 H locs ls hmu_hlp_2043 hr_v_2028 hi_2042 hP hD hS hl
                        exact absurd hmu_hlp_2043 (Nat.not_lt_zero _)
                      | succ n ih_2044 =>
                        intro v_2028 H locs ls hmu_hlp_2043 hr_v_2028 hi_2042 hP hD hS hl
                        refine lv_iload hx hb dX12_lay_126 (lv_at hl 6 rfl) ?_
                        refine lv_iload hx hb dX12_lay_128 (lv_at hl 4 rfl) ?_
                        refine lv_icmp_ge (tgt := 158) hx hb dX12_lay_130 (by decide) (fun c_2045 => ?_) (fun c_2045 => ?_)
                        · have b_2046 := z_fgeT c_2045
                          obtain ⟨x_2047, he_x_2047⟩ : ∃ z : Int32, z = v_1474 + 1 := ⟨_, rfl⟩
                          have hq_x_2047 := z_addq he_x_2047 (rfl : v_1474.toInt = _) hk_1 (by omega) (by omega)
                          refine lv_iinc (v := x_2047) (lv' := [(4, .int x_2047), (0, .ref h0), (1, .int r), (2, .int t), (3, .int x_18), (5, .long r_1874), (7, .int v_2028)]) hx hb dX12_lay_158 hl (k := 4) rfl ((z_ofi (by decide +kernel)).trans he_x_2047.symm) (by decide) rfl (fun ls hl => ?_)
                          refine lv_goto (tgt := 82) hx hb dX12_lay_161 (by decide) ?_
                          exact ih_1670 x_2047 H locs ls (by omega) (by omega) (by rw [hq_x_2047]; exact zLy_step hi_1667 hf_1876 (by omega) (by omega) (by omega) (by omega) hi_2042 (by omega)) (by omega) hP hD hS (lv_sub hl [1, 2, 3, 4, 0] rfl)
                        · have b_2048 := z_fltF c_2045
                          refine lv_aload_n hx hb dX12_lay_133 rfl (lv_at hl 0 rfl) ?_
                          refine lv_iload_n hx hb dX12_lay_134 rfl (lv_at hl 2 rfl) ?_
                          refine lv_iload hx hb dX12_lay_135 (lv_at hl 6 rfl) ?_
                          refine z_callVl (As := [.int t, .int v_2028]) (rest := []) (wr := [(a_trayMany, .inl (cA.1 0, 4, .inl g_trayMany)), (a_c, .inl (cA.1 0, 1825, .inl g_c))]) ⟨hx, hb, hml, hown, hts⟩ hK hE hT hP hD hS hA (r_numberOf l G cA h0 0 0 m_above m_under a_traySort a_trayMany a_numbers a_tape m_taped m_textEnd m_faultKind m_faultAt m_bad m_badAt m_token m_at m_behind m_number m_letters m_word a_c a_words m_markMany a_there a_tried a_best a_found m_thereMany m_foundMany m_orderHow m_orderRing m_orderMany m_hasBest m_bestTop m_bestBy a_weights a_shared m_random m_truePlace m_trueWay m_seconds m_done m_feelings m_tries m_leftOver m_playDoor m_playRing m_isOpen m_isOver m_wasTried m_hasPlayed a_feltNow a_last a_kept m_hasSeconds m_hasTurned m_hasRound a_hasFeels a_isOn m_firstAct m_meanTop m_meanBy a_order m_rowMany m_newSteps g_numbers t v_2028 (by omega) (z_rgw hr_v_2028 (by decide) (by decide))) lk_RX12_301 ⟨rfl, rfl⟩ ⟨Nat.le_of_ble_eq_true rfl, Nat.le_of_ble_eq_true rfl⟩ 12 rfl rfl rfl [2, 1] [0, 3] rfl rfl (by decide) rfl hl.1 rfl (lv_room (Nat.le_of_ble_eq_true rfl)) dX12_lay_137 ⟨Nat.le_of_ble_eq_true rfl, Nat.le_of_ble_eq_true rfl⟩ (fun r_2049 u_2050 H locs hw hP hD hS => ?_)
                          have hf_2051 := hw
                          refine lv_lload hx hb dX12_lay_140 (lv_at hl 5 rfl) ?_
                          refine W.lcmp hx hb dX12_lay_142 ?_
                          refine lv_if_ne (tgt := 152) hx hb dX12_lay_143 (by decide) (fun c_2052 => ?_) (fun c_2052 => ?_)
                          · have b_2053 := z_fneTl c_2052
                            obtain ⟨x_2054, he_x_2054⟩ : ∃ z : Int32, z = v_2028 + 1 := ⟨_, rfl⟩
                            have hq_x_2054 := z_addq he_x_2054 (rfl : v_2028.toInt = _) hk_1 (by omega) (by omega)
                            refine lv_iinc (v := x_2054) (lv' := [(7, .int x_2054), (0, .ref h0), (1, .int r), (2, .int t), (3, .int x_18), (4, .int v_1474), (5, .long r_1874)]) hx hb dX12_lay_152 hl (k := 6) rfl ((z_ofi (by decide +kernel)).trans he_x_2054.symm) (by decide) rfl (fun ls hl => ?_)
                            refine lv_goto (tgt := 126) hx hb dX12_lay_155 (by decide) ?_
                            have hP := hP.sub (ws' := [(a_trayMany, .inl (cA.1 0, 4, .inl g_trayMany)), (a_numbers, .inl (cA.1 1, 240, .inr (.inl g_numbers))), (h0, .inr (12, [.int 0, .int 0, .long m_above, .long m_under, .ref a_traySort, .ref a_trayMany, .ref a_numbers, .ref a_tape, .int m_taped, .int m_textEnd, .int m_faultKind, .int m_faultAt, .int m_bad, .int m_badAt, .int m_token, .int m_at, .int m_behind, .int m_number, .int m_letters, .long m_word, .ref a_c, .ref a_words, .int m_markMany, .ref a_there, .ref a_tried, .ref a_best, .ref a_found, .int m_thereMany, .int m_foundMany, .int m_orderHow, .int m_orderRing, .int m_orderMany, .int m_hasBest, .long m_bestTop, .long m_bestBy, .ref a_weights, .ref a_shared, .int m_random, .int m_truePlace, .int m_trueWay, .int m_seconds, .int m_done, .int m_feelings, .int m_tries, .int m_leftOver, .int m_playDoor, .int m_playRing, .int m_isOpen, .int m_isOver, .int m_wasTried, .int m_hasPlayed, .ref a_feltNow, .ref a_last, .ref a_kept, .int m_hasSeconds, .int m_hasTurned, .int m_hasRound, .ref a_hasFeels, .ref a_isOn, .int m_firstAct, .long m_meanTop, .long m_meanBy, .ref a_order, .int m_rowMany, .int m_newSteps])), (a_c, .inl (cA.1 0, 1825, .inl g_c))]) [0, 3, 2, 1] rfl
                            have hD := hD.sub (ws' := [(a_trayMany, .inl (cA.1 0, 4, .inl g_trayMany)), (a_numbers, .inl (cA.1 1, 240, .inr (.inl g_numbers))), (h0, .inr (12, [.int 0, .int 0, .long m_above, .long m_under, .ref a_traySort, .ref a_trayMany, .ref a_numbers, .ref a_tape, .int m_taped, .int m_textEnd, .int m_faultKind, .int m_faultAt, .int m_bad, .int m_badAt, .int m_token, .int m_at, .int m_behind, .int m_number, .int m_letters, .long m_word, .ref a_c, .ref a_words, .int m_markMany, .ref a_there, .ref a_tried, .ref a_best, .ref a_found, .int m_thereMany, .int m_foundMany, .int m_orderHow, .int m_orderRing, .int m_orderMany, .int m_hasBest, .long m_bestTop, .long m_bestBy, .ref a_weights, .ref a_shared, .int m_random, .int m_truePlace, .int m_trueWay, .int m_seconds, .int m_done, .int m_feelings, .int m_tries, .int m_leftOver, .int m_playDoor, .int m_playRing, .int m_isOpen, .int m_isOver, .int m_wasTried, .int m_hasPlayed, .ref a_feltNow, .ref a_last, .ref a_kept, .int m_hasSeconds, .int m_hasTurned, .int m_hasRound, .ref a_hasFeels, .ref a_isOn, .int m_firstAct, .long m_meanTop, .long m_meanBy, .ref a_order, .int m_rowMany, .int m_newSteps])), (a_c, .inl (cA.1 0, 1825, .inl g_c))]) [0, 3, 2, 1] (by decide) rfl
                            exact ih_2044 x_2054 H locs ls (by omega) (by omega) (by rw [hq_x_2054]; exact zLz_step hi_2042 hf_2051 (by omega) (by omega) (by omega) (by omega)) hP hD hS (lv_sub hl [1, 2, 3, 4, 5, 6, 0] rfl)
                          · have b_2055 := z_feqFl c_2052
                            refine lv_aload_n hx hb dX12_lay_146 rfl (lv_at hl 0 rfl) ?_
                            refine lv_iconst (v := 5) hx hb dX12_lay_147 (by decide) ?_
                            refine z_callVi (As := [.int 5]) (rest := []) (wr := [(a_trayMany, .inl (cA.1 0, 4, .inl g_trayMany)), (a_c, .inl (cA.1 0, 1825, .inl g_c)), (a_numbers, .inl (cA.1 1, 240, .inr (.inl g_numbers)))]) ⟨hx, hb, hml, hown, hts⟩ hK hE hT hP hD hS hA (r_no l G cA h0 0 0 m_above m_under a_traySort a_trayMany a_numbers a_tape m_taped m_textEnd m_faultKind m_faultAt m_bad m_badAt m_token m_at m_behind m_number m_letters m_word a_c a_words m_markMany a_there a_tried a_best a_found m_thereMany m_foundMany m_orderHow m_orderRing m_orderMany m_hasBest m_bestTop m_bestBy a_weights a_shared m_random m_truePlace m_trueWay m_seconds m_done m_feelings m_tries m_leftOver m_playDoor m_playRing m_isOpen m_isOver m_wasTried m_hasPlayed a_feltNow a_last a_kept m_hasSeconds m_hasTurned m_hasRound a_hasFeels a_isOn m_firstAct m_meanTop m_meanBy a_order m_rowMany m_newSteps 5) lk_RX12_97 ⟨rfl, rfl⟩ ⟨Nat.le_of_ble_eq_true rfl, Nat.le_of_ble_eq_true rfl⟩ 12 rfl rfl rfl [2] [0, 1, 3] rfl rfl (by decide) rfl hl.1 rfl (lv_room (Nat.le_of_ble_eq_true rfl)) dX12_lay_148 ⟨Nat.le_of_ble_eq_true rfl, Nat.le_of_ble_eq_true rfl⟩ (fun r_2057 u_2058 H locs hw hP hD hS => ?_)
                            obtain ⟨n_2056, rfl⟩ : ∃ z, z = u_2058 := ⟨_, rfl⟩
                            obtain ⟨he_r_2057, he_n_2056, hw⟩ := hw
                            obtain ⟨rfl, -⟩ := hw
                            have hpost : ((0 : Int32) = 0 ∧ (0 ≤ (0 : Int32).toInt ∧ (0 : Int32).toInt ≤ 0) ∧ (zC g_c) ∧ (zHF g_c g_c)) ∨ ((0 : Int32) = 1 ∧ (0 ≤ n_2056.toInt ∧ n_2056.toInt ≤ 0) ∧ (0 ≤ (0 : Int32).toInt ∧ (0 : Int32).toInt ≤ 0) ∧ (zC g_c) ∧ (zHF g_c g_c)) := (Or.inl ⟨rfl, ⟨(by decide +kernel), hZ_g_c, (zHF_refl g_c)⟩⟩)
                            exact hret _ _ _ _ _ _ (n_2056, 0, g_c) [3, 0, 2, 1] hP hD hS rfl (by decide) dX12_lay_151 (Or.inl rfl) hpost
                    exact hlp_2043 _ 0 _ _ _ (Nat.lt_succ_self _) (by decide +kernel) zLz_0 hP hD hS (lv_sub hl [2, 3, 4, 5, 6, 1, 0] rfl)
                  · have b_2059 := z_fneF c_1888
                    refine lv_aload_n hx hb dX12_lay_117 rfl (lv_at hl 1 rfl) ?_
                    refine lv_iconst (v := 5) hx hb dX12_lay_118 (by decide) ?_
                    refine z_callVi (As := [.int 5]) (rest := []) (wr := [(a_trayMany, .inl (cA.1 0, 4, .inl g_trayMany)), (a_numbers, .inl (cA.1 1, 240, .inr (.inl g_numbers))), (a_c, .inl (cA.1 0, 1825, .inl g_c))]) ⟨hx, hb, hml, hown, hts⟩ hK hE hT hP hD hS hA (r_no l G cA h0 0 0 m_above m_under a_traySort a_trayMany a_numbers a_tape m_taped m_textEnd m_faultKind m_faultAt m_bad m_badAt m_token m_at m_behind m_number m_letters m_word a_c a_words m_markMany a_there a_tried a_best a_found m_thereMany m_foundMany m_orderHow m_orderRing m_orderMany m_hasBest m_bestTop m_bestBy a_weights a_shared m_random m_truePlace m_trueWay m_seconds m_done m_feelings m_tries m_leftOver m_playDoor m_playRing m_isOpen m_isOver m_wasTried m_hasPlayed a_feltNow a_last a_kept m_hasSeconds m_hasTurned m_hasRound a_hasFeels a_isOn m_firstAct m_meanTop m_meanBy a_order m_rowMany m_newSteps 5) lk_RX12_97 ⟨rfl, rfl⟩ ⟨Nat.le_of_ble_eq_true rfl, Nat.le_of_ble_eq_true rfl⟩ 12 rfl rfl rfl [2] [0, 1, 3] rfl rfl (by decide) rfl hl.1 rfl (lv_room (Nat.le_of_ble_eq_true rfl)) dX12_lay_119 ⟨Nat.le_of_ble_eq_true rfl, Nat.le_of_ble_eq_true rfl⟩ (fun r_2061 u_2062 H locs hw hP hD hS => ?_)
                    obtain ⟨n_2060, rfl⟩ : ∃ z, z = u_2062 := ⟨_, rfl⟩
                    obtain ⟨he_r_2061, he_n_2060, hw⟩ := hw
                    obtain ⟨rfl, -⟩ := hw
                    have hpost : ((0 : Int32) = 0 ∧ (0 ≤ (0 : Int32).toInt ∧ (0 : Int32).toInt ≤ 0) ∧ (zC g_c) ∧ (zHF g_c g_c)) ∨ ((0 : Int32) = 1 ∧ (0 ≤ n_2060.toInt ∧ n_2060.toInt ≤ 0) ∧ (0 ≤ (0 : Int32).toInt ∧ (0 : Int32).toInt ≤ 0) ∧ (zC g_c) ∧ (zHF g_c g_c)) := (Or.inl ⟨rfl, ⟨(by decide +kernel), hZ_g_c, (zHF_refl g_c)⟩⟩)
                    exact hret _ _ _ _ _ _ (n_2060, 0, g_c) [3, 0, 1, 2] hP hD hS rfl (by decide) dX12_lay_122 (Or.inl rfl) hpost
          exact hlp_1669 _ 0 _ _ _ (Nat.lt_succ_self _) (by decide +kernel) zLy_0 (by omega) hP hD hS (lv_sub hl [2, 3, 4, 1, 0] rfl)
        · have b_2063 := z_fltF c_20
          refine lv_aload_n hx hb dX12_lay_73 rfl (lv_at hl 1 rfl) ?_
          refine lv_iconst (v := 4) hx hb dX12_lay_74 (by decide) ?_
          refine z_callVi (As := [.int 4]) (rest := []) (wr := [(a_trayMany, .inl (cA.1 0, 4, .inl g_trayMany)), (a_numbers, .inl (cA.1 1, 240, .inr (.inl g_numbers))), (a_c, .inl (cA.1 0, 1825, .inl g_c))]) ⟨hx, hb, hml, hown, hts⟩ hK hE hT hP hD hS hA (r_no l G cA h0 0 0 m_above m_under a_traySort a_trayMany a_numbers a_tape m_taped m_textEnd m_faultKind m_faultAt m_bad m_badAt m_token m_at m_behind m_number m_letters m_word a_c a_words m_markMany a_there a_tried a_best a_found m_thereMany m_foundMany m_orderHow m_orderRing m_orderMany m_hasBest m_bestTop m_bestBy a_weights a_shared m_random m_truePlace m_trueWay m_seconds m_done m_feelings m_tries m_leftOver m_playDoor m_playRing m_isOpen m_isOver m_wasTried m_hasPlayed a_feltNow a_last a_kept m_hasSeconds m_hasTurned m_hasRound a_hasFeels a_isOn m_firstAct m_meanTop m_meanBy a_order m_rowMany m_newSteps 4) lk_RX12_97 ⟨rfl, rfl⟩ ⟨Nat.le_of_ble_eq_true rfl, Nat.le_of_ble_eq_true rfl⟩ 12 rfl rfl rfl [2] [0, 1, 3] rfl rfl (by decide) rfl hl.1 rfl (lv_room (Nat.le_of_ble_eq_true rfl)) dX12_lay_75 ⟨Nat.le_of_ble_eq_true rfl, Nat.le_of_ble_eq_true rfl⟩ (fun r_2065 u_2066 H locs hw hP hD hS => ?_)
          obtain ⟨n_2064, rfl⟩ : ∃ z, z = u_2066 := ⟨_, rfl⟩
          obtain ⟨he_r_2065, he_n_2064, hw⟩ := hw
          obtain ⟨rfl, -⟩ := hw
          have hpost : ((0 : Int32) = 0 ∧ (0 ≤ (0 : Int32).toInt ∧ (0 : Int32).toInt ≤ 0) ∧ (zC g_c) ∧ (zHF g_c g_c)) ∨ ((0 : Int32) = 1 ∧ (0 ≤ n_2064.toInt ∧ n_2064.toInt ≤ 0) ∧ (0 ≤ (0 : Int32).toInt ∧ (0 : Int32).toInt ≤ 0) ∧ (zC g_c) ∧ (zHF g_c g_c)) := (Or.inl ⟨rfl, ⟨(by decide +kernel), hZ_g_c, (zHF_refl g_c)⟩⟩)
          exact hret _ _ _ _ _ _ (n_2064, 0, g_c) [3, 0, 1, 2] hP hD hS rfl (by decide) dX12_lay_78 (Or.inl rfl) hpost
      · have b_2067 := z_fltF c_15
        refine lv_aload_n hx hb dX12_lay_47 rfl (lv_at hl 0 rfl) ?_
        refine lv_iconst (v := 3) hx hb dX12_lay_48 (by decide) ?_
        refine z_callVi (As := [.int 3]) (rest := []) (wr := [(a_trayMany, .inl (cA.1 0, 4, .inl g_trayMany)), (a_numbers, .inl (cA.1 1, 240, .inr (.inl g_numbers))), (a_c, .inl (cA.1 0, 1825, .inl g_c))]) ⟨hx, hb, hml, hown, hts⟩ hK hE hT hP hD hS hA (r_no l G cA h0 0 0 m_above m_under a_traySort a_trayMany a_numbers a_tape m_taped m_textEnd m_faultKind m_faultAt m_bad m_badAt m_token m_at m_behind m_number m_letters m_word a_c a_words m_markMany a_there a_tried a_best a_found m_thereMany m_foundMany m_orderHow m_orderRing m_orderMany m_hasBest m_bestTop m_bestBy a_weights a_shared m_random m_truePlace m_trueWay m_seconds m_done m_feelings m_tries m_leftOver m_playDoor m_playRing m_isOpen m_isOver m_wasTried m_hasPlayed a_feltNow a_last a_kept m_hasSeconds m_hasTurned m_hasRound a_hasFeels a_isOn m_firstAct m_meanTop m_meanBy a_order m_rowMany m_newSteps 3) lk_RX12_97 ⟨rfl, rfl⟩ ⟨Nat.le_of_ble_eq_true rfl, Nat.le_of_ble_eq_true rfl⟩ 12 rfl rfl rfl [2] [0, 1, 3] rfl rfl (by decide) rfl hl.1 rfl (lv_room (Nat.le_of_ble_eq_true rfl)) dX12_lay_49 ⟨Nat.le_of_ble_eq_true rfl, Nat.le_of_ble_eq_true rfl⟩ (fun r_2069 u_2070 H locs hw hP hD hS => ?_)
        obtain ⟨n_2068, rfl⟩ : ∃ z, z = u_2070 := ⟨_, rfl⟩
        obtain ⟨he_r_2069, he_n_2068, hw⟩ := hw
        obtain ⟨rfl, -⟩ := hw
        have hpost : ((0 : Int32) = 0 ∧ (0 ≤ (0 : Int32).toInt ∧ (0 : Int32).toInt ≤ 0) ∧ (zC g_c) ∧ (zHF g_c g_c)) ∨ ((0 : Int32) = 1 ∧ (0 ≤ n_2068.toInt ∧ n_2068.toInt ≤ 0) ∧ (0 ≤ (0 : Int32).toInt ∧ (0 : Int32).toInt ≤ 0) ∧ (zC g_c) ∧ (zHF g_c g_c)) := (Or.inl ⟨rfl, ⟨(by decide +kernel), hZ_g_c, (zHF_refl g_c)⟩⟩)
        exact hret _ _ _ _ _ _ (n_2068, 0, g_c) [3, 0, 1, 2] hP hD hS rfl (by decide) dX12_lay_52 (Or.inl rfl) hpost
set_option maxHeartbeats 4000000 in
set_option maxRecDepth 100000 in
theorem r_newly (l : Launch) (G : va_G) (cA : zCA) (h0 : Nat) (m_status : Int32) (m_thrown : Int32) (m_above : Int64) (m_under : Int64) (a_traySort : Nat) (a_trayMany : Nat) (a_numbers : Nat) (a_tape : Nat) (m_taped : Int32) (m_textEnd : Int32) (m_faultKind : Int32) (m_faultAt : Int32) (m_bad : Int32) (m_badAt : Int32) (m_token : Int32) (m_at : Int32) (m_behind : Int32) (m_number : Int32) (m_letters : Int32) (m_word : Int64) (a_c : Nat) (a_words : Nat) (m_markMany : Int32) (a_there : Nat) (a_tried : Nat) (a_best : Nat) (a_found : Nat) (m_thereMany : Int32) (m_foundMany : Int32) (m_orderHow : Int32) (m_orderRing : Int32) (m_orderMany : Int32) (m_hasBest : Int32) (m_bestTop : Int64) (m_bestBy : Int64) (a_weights : Nat) (a_shared : Nat) (m_random : Int32) (m_truePlace : Int32) (m_trueWay : Int32) (m_seconds : Int32) (m_done : Int32) (m_feelings : Int32) (m_tries : Int32) (m_leftOver : Int32) (m_playDoor : Int32) (m_playRing : Int32) (m_isOpen : Int32) (m_isOver : Int32) (m_wasTried : Int32) (m_hasPlayed : Int32) (a_feltNow : Nat) (a_last : Nat) (a_kept : Nat) (m_hasSeconds : Int32) (m_hasTurned : Int32) (m_hasRound : Int32) (a_hasFeels : Nat) (a_isOn : Nat) (m_firstAct : Int32) (m_meanTop : Int64) (m_meanBy : Int64) (a_order : Nat) (m_rowMany : Int32) (m_newSteps : Int32) (g_c : Nat → Int32) (g_there : Nat → Int32) (k : Int32) (r : Int32) (d : Int32) (hr_m_thereMany : 0 ≤ m_thereMany.toInt ∧ m_thereMany.toInt ≤ 10) (hr_m_hasBest : 0 ≤ m_hasBest.toInt ∧ m_hasBest.toInt ≤ 1) (hz_m_hasBest : m_hasBest = 0 ∨ m_hasBest = 1) (hC_g_c : zC g_c) (hC_g_there : zRg 10 0 9 g_there) : zCi l yX12_newly cX12_newly 9 (some .int) ({ frames := 3, cells := 0, slots := 0, locals := 69 }) G cA [.ref h0, .int k, .int r, .int d] [(h0, .inr (12, [.int m_status, .int m_thrown, .long m_above, .long m_under, .ref a_traySort, .ref a_trayMany, .ref a_numbers, .ref a_tape, .int m_taped, .int m_textEnd, .int m_faultKind, .int m_faultAt, .int m_bad, .int m_badAt, .int m_token, .int m_at, .int m_behind, .int m_number, .int m_letters, .long m_word, .ref a_c, .ref a_words, .int m_markMany, .ref a_there, .ref a_tried, .ref a_best, .ref a_found, .int m_thereMany, .int m_foundMany, .int m_orderHow, .int m_orderRing, .int m_orderMany, .int m_hasBest, .long m_bestTop, .long m_bestBy, .ref a_weights, .ref a_shared, .int m_random, .int m_truePlace, .int m_trueWay, .int m_seconds, .int m_done, .int m_feelings, .int m_tries, .int m_leftOver, .int m_playDoor, .int m_playRing, .int m_isOpen, .int m_isOver, .int m_wasTried, .int m_hasPlayed, .ref a_feltNow, .ref a_last, .ref a_kept, .int m_hasSeconds, .int m_hasTurned, .int m_hasRound, .ref a_hasFeels, .ref a_isOn, .int m_firstAct, .long m_meanTop, .long m_meanBy, .ref a_order, .int m_rowMany, .int m_newSteps])), (a_c, .inl (cA.1 0, 1825, .inl g_c)), (a_there, .inl (cA.1 0, 10, .inl g_there))] (S := Int32 × Int32 × Int32 × (Nat → Int32) × Int64 × Int64 × Int32 × Int64 × Int64 × (Nat → Int32)) (fun (r : Int32) (u : Int32 × Int32 × Int32 × (Nat → Int32) × Int64 × Int64 × Int32 × Int64 × Int64 × (Nat → Int32)) => ((-1) ≤ r.toInt ∧ r.toInt ≤ 9) ∧ (0 ≤ u.2.1.toInt ∧ u.2.1.toInt ≤ 0) ∧ (0 ≤ u.2.2.1.toInt ∧ u.2.2.1.toInt ≤ 10) ∧ (zRg 10 0 9 u.2.2.2.1) ∧ (u.2.2.2.2.2.2.1 = 0 ∨ u.2.2.2.2.2.2.1 = 1) ∧ (0 ≤ u.2.2.2.2.2.2.1.toInt ∧ u.2.2.2.2.2.2.1.toInt ≤ 1) ∧ (zC u.2.2.2.2.2.2.2.2.2) ∧ (zHF g_c u.2.2.2.2.2.2.2.2.2)) (fun (u : Int32 × Int32 × Int32 × (Nat → Int32) × Int64 × Int64 × Int32 × Int64 × Int64 × (Nat → Int32)) => [(h0, .inr (12, [.int u.1, .int u.2.1, .long u.2.2.2.2.1, .long u.2.2.2.2.2.1, .ref a_traySort, .ref a_trayMany, .ref a_numbers, .ref a_tape, .int m_taped, .int m_textEnd, .int m_faultKind, .int m_faultAt, .int m_bad, .int m_badAt, .int m_token, .int m_at, .int m_behind, .int m_number, .int m_letters, .long m_word, .ref a_c, .ref a_words, .int m_markMany, .ref a_there, .ref a_tried, .ref a_best, .ref a_found, .int u.2.2.1, .int m_foundMany, .int m_orderHow, .int m_orderRing, .int m_orderMany, .int u.2.2.2.2.2.2.1, .long u.2.2.2.2.2.2.2.1, .long u.2.2.2.2.2.2.2.2.1, .ref a_weights, .ref a_shared, .int m_random, .int m_truePlace, .int m_trueWay, .int m_seconds, .int m_done, .int m_feelings, .int m_tries, .int m_leftOver, .int m_playDoor, .int m_playRing, .int m_isOpen, .int m_isOver, .int m_wasTried, .int m_hasPlayed, .ref a_feltNow, .ref a_last, .ref a_kept, .int m_hasSeconds, .int m_hasTurned, .int m_hasRound, .ref a_hasFeels, .ref a_isOn, .int m_firstAct, .long m_meanTop, .long m_meanBy, .ref a_order, .int m_rowMany, .int m_newSteps])), (a_c, .inl (cA.1 0, 1825, .inl u.2.2.2.2.2.2.2.2.2)), (a_there, .inl (cA.1 0, 10, .inl u.2.2.2.1))]) 0 0 := by
  have hk_0 : (0 : Int32).toInt = 0 := by decide +kernel
  have hk_1 : (1 : Int32).toInt = 1 := by decide +kernel
  have hk_2 : (2 : Int32).toInt = 2 := by decide +kernel
  have hk_8 : (8 : Int32).toInt = 8 := by decide +kernel
  have hk_9 : (9 : Int32).toInt = 9 := by decide +kernel
  have hk_95 : (95 : Int32).toInt = 95 := by decide +kernel
  have hk_150 : (150 : Int32).toInt = 150 := by decide +kernel
  have hkl_0 : (0 : Int64).toInt = 0 := by decide +kernel
  have hkl_16 : (16 : Int64).toInt = 16 := by decide +kernel
  refine z_start2i (own := RX12) (by decide) (Nat.le_of_ble_eq_true rfl) rfl ?_
  intro p e s m args below meth c A ls Q hx hb hml hts hown hK hE hT hP hD hS hA hl hret
  have hl : lv_has ls 9 [(0, .ref h0), (1, .int k), (2, .int r), (3, .int d)] := hl
  refine lv_aload_n hx hb dX12_newly_0 rfl (lv_at hl 0 rfl) ?_
  refine lv_iconst (v := 0) hx hb dX12_newly_1 (by decide) ?_
  refine va_put (D := G) (ci := 12) (v := .int 0) (ty := .int) (C := RX12) (T := TX12) (N := 65) hx hb hts inT12 tyX12 tyX12_ok nmX12 hown hK hP hD hS 0 rfl rfl 1 (by decide) (hts _ tw_1886) (fun _ h9 => h9) rfl (tyX12_ok 1 (by decide)) rfl rfl (Nat.le_of_ble_eq_true rfl) dX12_newly_2 (fun H locs hP hD hS => ?_)
  refine lv_aload_n hx hb dX12_newly_5 rfl (lv_at hl 0 rfl) ?_
  refine lv_iconst (v := 0) hx hb dX12_newly_6 (by decide) ?_
  refine va_put (D := G) (ci := 12) (v := .int 0) (ty := .int) (C := RX12) (T := TX12) (N := 65) hx hb hts inT12 tyX12 tyX12_ok nmX12 hown hK hP hD hS 0 rfl rfl 0 (by decide) (hts _ tw_1885) (fun _ h9 => h9) rfl (tyX12_ok 0 (by decide)) rfl rfl (Nat.le_of_ble_eq_true rfl) dX12_newly_7 (fun H locs hP hD hS => ?_)
  refine lv_aload_n hx hb dX12_newly_10 rfl (lv_at hl 0 rfl) ?_
  refine lv_iload_n hx hb dX12_newly_11 rfl (lv_at hl 1 rfl) ?_
  refine lv_i2l (v := (k).toInt64) hx hb dX12_newly_12 rfl ?_
  refine lv_topl (fun x_1 he_x_1 => ?_)
  have hq_x_1 := z_i2l he_x_1
  have hL_k := z_full k
  refine z_callVi (As := [.long x_1]) (rest := []) (wr := [(a_there, .inl (cA.1 0, 10, .inl g_there))]) ⟨hx, hb, hml, hown, hts⟩ hK hE hT hP hD hS hA (r_isKey l G cA h0 0 0 m_above m_under a_traySort a_trayMany a_numbers a_tape m_taped m_textEnd m_faultKind m_faultAt m_bad m_badAt m_token m_at m_behind m_number m_letters m_word a_c a_words m_markMany a_there a_tried a_best a_found m_thereMany m_foundMany m_orderHow m_orderRing m_orderMany m_hasBest m_bestTop m_bestBy a_weights a_shared m_random m_truePlace m_trueWay m_seconds m_done m_feelings m_tries m_leftOver m_playDoor m_playRing m_isOpen m_isOver m_wasTried m_hasPlayed a_feltNow a_last a_kept m_hasSeconds m_hasTurned m_hasRound a_hasFeels a_isOn m_firstAct m_meanTop m_meanBy a_order m_rowMany m_newSteps g_c x_1 hC_g_c) lk_RX12_275 ⟨rfl, rfl⟩ ⟨Nat.le_of_ble_eq_true rfl, Nat.le_of_ble_eq_true rfl⟩ 12 rfl rfl rfl [0, 1] [2] rfl rfl (by decide) rfl hl.1 rfl (lv_room (Nat.le_of_ble_eq_true rfl)) dX12_newly_13 ⟨Nat.le_of_ble_eq_true rfl, Nat.le_of_ble_eq_true rfl⟩ (fun r_2 u_3 H locs hw hP hD hS => ?_)
  rcases hw with ⟨rfl, -⟩ | ⟨rfl, hf_4, hf_5⟩
  · skip
    refine lv_if_eq (tgt := 35) hx hb dX12_newly_16 (by decide) (fun _ => ?_) (fun h9 => absurd (by decide +kernel) h9)
    refine lv_aload_n hx hb dX12_newly_35 rfl (lv_at hl 0 rfl) ?_
    refine lv_iconst (v := 2) hx hb dX12_newly_36 (by decide) ?_
    refine z_callVi (As := [.int 2]) (rest := []) (wr := [(a_there, .inl (cA.1 0, 10, .inl g_there)), (a_c, .inl (cA.1 0, 1825, .inl g_c))]) ⟨hx, hb, hml, hown, hts⟩ hK hE hT hP hD hS hA (r_refuse l G cA h0 0 0 m_above m_under a_traySort a_trayMany a_numbers a_tape m_taped m_textEnd m_faultKind m_faultAt m_bad m_badAt m_token m_at m_behind m_number m_letters m_word a_c a_words m_markMany a_there a_tried a_best a_found m_thereMany m_foundMany m_orderHow m_orderRing m_orderMany m_hasBest m_bestTop m_bestBy a_weights a_shared m_random m_truePlace m_trueWay m_seconds m_done m_feelings m_tries m_leftOver m_playDoor m_playRing m_isOpen m_isOver m_wasTried m_hasPlayed a_feltNow a_last a_kept m_hasSeconds m_hasTurned m_hasRound a_hasFeels a_isOn m_firstAct m_meanTop m_meanBy a_order m_rowMany m_newSteps 2) lk_RX12_269 ⟨rfl, rfl⟩ ⟨Nat.le_of_ble_eq_true rfl, Nat.le_of_ble_eq_true rfl⟩ 12 rfl rfl rfl [1] [0, 2] rfl rfl (by decide) rfl hl.1 rfl (lv_room (Nat.le_of_ble_eq_true rfl)) dX12_newly_37 ⟨Nat.le_of_ble_eq_true rfl, Nat.le_of_ble_eq_true rfl⟩ (fun r_7 u_8 H locs hw hP hD hS => ?_)
    obtain ⟨n_6, rfl⟩ : ∃ z, z = u_8 := ⟨_, rfl⟩
    obtain ⟨he_r_7, he_n_6, hw⟩ := hw
    have hr_r_7 := hw
    have hpost : ((-1) ≤ r_7.toInt ∧ r_7.toInt ≤ 9) ∧ (0 ≤ (0 : Int32).toInt ∧ (0 : Int32).toInt ≤ 0) ∧ (0 ≤ m_thereMany.toInt ∧ m_thereMany.toInt ≤ 10) ∧ (zRg 10 0 9 g_there) ∧ (m_hasBest = 0 ∨ m_hasBest = 1) ∧ (0 ≤ m_hasBest.toInt ∧ m_hasBest.toInt ≤ 1) ∧ (zC g_c) ∧ (zHF g_c g_c) := ⟨(z_rgw hr_r_7 (by decide) (by decide)), (by decide +kernel), hr_m_thereMany, hC_g_there, hz_m_hasBest, hr_m_hasBest, hC_g_c, (zHF_refl g_c)⟩
    exact hret _ _ _ _ _ _ (n_6, 0, m_thereMany, g_there, m_above, m_under, m_hasBest, m_bestTop, m_bestBy, g_c) [2, 1, 0] hP hD hS rfl (by decide) dX12_newly_40 hpost
  · skip
    refine lv_if_eq (tgt := 35) hx hb dX12_newly_16 (by decide) (fun h9 => absurd h9 (by decide +kernel)) (fun _ => ?_)
    refine lv_aload_n hx hb dX12_newly_19 rfl (lv_at hl 0 rfl) ?_
    refine lv_iload_n hx hb dX12_newly_20 rfl (lv_at hl 2 rfl) ?_
    refine z_callVi (As := [.int r]) (rest := []) (wr := [(a_there, .inl (cA.1 0, 10, .inl g_there))]) ⟨hx, hb, hml, hown, hts⟩ hK hE hT hP hD hS hA (r_isRing l G cA h0 0 0 m_above m_under a_traySort a_trayMany a_numbers a_tape m_taped m_textEnd m_faultKind m_faultAt m_bad m_badAt m_token m_at m_behind m_number m_letters m_word a_c a_words m_markMany a_there a_tried a_best a_found m_thereMany m_foundMany m_orderHow m_orderRing m_orderMany m_hasBest m_bestTop m_bestBy a_weights a_shared m_random m_truePlace m_trueWay m_seconds m_done m_feelings m_tries m_leftOver m_playDoor m_playRing m_isOpen m_isOver m_wasTried m_hasPlayed a_feltNow a_last a_kept m_hasSeconds m_hasTurned m_hasRound a_hasFeels a_isOn m_firstAct m_meanTop m_meanBy a_order m_rowMany m_newSteps g_c r hC_g_c) lk_RX12_289 ⟨rfl, rfl⟩ ⟨Nat.le_of_ble_eq_true rfl, Nat.le_of_ble_eq_true rfl⟩ 12 rfl rfl rfl [1, 2] [0] rfl rfl (by decide) rfl hl.1 rfl (lv_room (Nat.le_of_ble_eq_true rfl)) dX12_newly_21 ⟨Nat.le_of_ble_eq_true rfl, Nat.le_of_ble_eq_true rfl⟩ (fun r_9 u_10 H locs hw hP hD hS => ?_)
    rcases hw with ⟨rfl, -⟩ | ⟨rfl, hf_11, hf_12⟩
    · skip
      refine lv_if_eq (tgt := 35) hx hb dX12_newly_24 (by decide) (fun _ => ?_) (fun h9 => absurd (by decide +kernel) h9)
      refine lv_aload_n hx hb dX12_newly_35 rfl (lv_at hl 0 rfl) ?_
      refine lv_iconst (v := 2) hx hb dX12_newly_36 (by decide) ?_
      refine z_callVi (As := [.int 2]) (rest := []) (wr := [(a_there, .inl (cA.1 0, 10, .inl g_there)), (a_c, .inl (cA.1 0, 1825, .inl g_c))]) ⟨hx, hb, hml, hown, hts⟩ hK hE hT hP hD hS hA (r_refuse l G cA h0 0 0 m_above m_under a_traySort a_trayMany a_numbers a_tape m_taped m_textEnd m_faultKind m_faultAt m_bad m_badAt m_token m_at m_behind m_number m_letters m_word a_c a_words m_markMany a_there a_tried a_best a_found m_thereMany m_foundMany m_orderHow m_orderRing m_orderMany m_hasBest m_bestTop m_bestBy a_weights a_shared m_random m_truePlace m_trueWay m_seconds m_done m_feelings m_tries m_leftOver m_playDoor m_playRing m_isOpen m_isOver m_wasTried m_hasPlayed a_feltNow a_last a_kept m_hasSeconds m_hasTurned m_hasRound a_hasFeels a_isOn m_firstAct m_meanTop m_meanBy a_order m_rowMany m_newSteps 2) lk_RX12_269 ⟨rfl, rfl⟩ ⟨Nat.le_of_ble_eq_true rfl, Nat.le_of_ble_eq_true rfl⟩ 12 rfl rfl rfl [1] [0, 2] rfl rfl (by decide) rfl hl.1 rfl (lv_room (Nat.le_of_ble_eq_true rfl)) dX12_newly_37 ⟨Nat.le_of_ble_eq_true rfl, Nat.le_of_ble_eq_true rfl⟩ (fun r_14 u_15 H locs hw hP hD hS => ?_)
      obtain ⟨n_13, rfl⟩ : ∃ z, z = u_15 := ⟨_, rfl⟩
      obtain ⟨he_r_14, he_n_13, hw⟩ := hw
      have hr_r_14 := hw
      have hpost : ((-1) ≤ r_14.toInt ∧ r_14.toInt ≤ 9) ∧ (0 ≤ (0 : Int32).toInt ∧ (0 : Int32).toInt ≤ 0) ∧ (0 ≤ m_thereMany.toInt ∧ m_thereMany.toInt ≤ 10) ∧ (zRg 10 0 9 g_there) ∧ (m_hasBest = 0 ∨ m_hasBest = 1) ∧ (0 ≤ m_hasBest.toInt ∧ m_hasBest.toInt ≤ 1) ∧ (zC g_c) ∧ (zHF g_c g_c) := ⟨(z_rgw hr_r_14 (by decide) (by decide)), (by decide +kernel), hr_m_thereMany, hC_g_there, hz_m_hasBest, hr_m_hasBest, hC_g_c, (zHF_refl g_c)⟩
      exact hret _ _ _ _ _ _ (n_13, 0, m_thereMany, g_there, m_above, m_under, m_hasBest, m_bestTop, m_bestBy, g_c) [2, 1, 0] hP hD hS rfl (by decide) dX12_newly_40 hpost
    · skip
      refine lv_if_eq (tgt := 35) hx hb dX12_newly_24 (by decide) (fun h9 => absurd h9 (by decide +kernel)) (fun _ => ?_)
      refine lv_aload_n hx hb dX12_newly_27 rfl (lv_at hl 0 rfl) ?_
      refine lv_iload_n hx hb dX12_newly_28 rfl (lv_at hl 3 rfl) ?_
      refine z_callVi (As := [.int d]) (rest := []) (wr := [(a_there, .inl (cA.1 0, 10, .inl g_there))]) ⟨hx, hb, hml, hown, hts⟩ hK hE hT hP hD hS hA (r_isDoor l G cA h0 0 0 m_above m_under a_traySort a_trayMany a_numbers a_tape m_taped m_textEnd m_faultKind m_faultAt m_bad m_badAt m_token m_at m_behind m_number m_letters m_word a_c a_words m_markMany a_there a_tried a_best a_found m_thereMany m_foundMany m_orderHow m_orderRing m_orderMany m_hasBest m_bestTop m_bestBy a_weights a_shared m_random m_truePlace m_trueWay m_seconds m_done m_feelings m_tries m_leftOver m_playDoor m_playRing m_isOpen m_isOver m_wasTried m_hasPlayed a_feltNow a_last a_kept m_hasSeconds m_hasTurned m_hasRound a_hasFeels a_isOn m_firstAct m_meanTop m_meanBy a_order m_rowMany m_newSteps g_c d hC_g_c) lk_RX12_295 ⟨rfl, rfl⟩ ⟨Nat.le_of_ble_eq_true rfl, Nat.le_of_ble_eq_true rfl⟩ 12 rfl rfl rfl [1, 2] [0] rfl rfl (by decide) rfl hl.1 rfl (lv_room (Nat.le_of_ble_eq_true rfl)) dX12_newly_29 ⟨Nat.le_of_ble_eq_true rfl, Nat.le_of_ble_eq_true rfl⟩ (fun r_16 u_17 H locs hw hP hD hS => ?_)
      rcases hw with ⟨rfl, -⟩ | ⟨rfl, hf_18, hf_19⟩
      · skip
        refine lv_if_ne (tgt := 41) hx hb dX12_newly_32 (by decide) (fun h9 => absurd (by decide +kernel) h9) (fun _ => ?_)
        refine lv_aload_n hx hb dX12_newly_35 rfl (lv_at hl 0 rfl) ?_
        refine lv_iconst (v := 2) hx hb dX12_newly_36 (by decide) ?_
        refine z_callVi (As := [.int 2]) (rest := []) (wr := [(a_there, .inl (cA.1 0, 10, .inl g_there)), (a_c, .inl (cA.1 0, 1825, .inl g_c))]) ⟨hx, hb, hml, hown, hts⟩ hK hE hT hP hD hS hA (r_refuse l G cA h0 0 0 m_above m_under a_traySort a_trayMany a_numbers a_tape m_taped m_textEnd m_faultKind m_faultAt m_bad m_badAt m_token m_at m_behind m_number m_letters m_word a_c a_words m_markMany a_there a_tried a_best a_found m_thereMany m_foundMany m_orderHow m_orderRing m_orderMany m_hasBest m_bestTop m_bestBy a_weights a_shared m_random m_truePlace m_trueWay m_seconds m_done m_feelings m_tries m_leftOver m_playDoor m_playRing m_isOpen m_isOver m_wasTried m_hasPlayed a_feltNow a_last a_kept m_hasSeconds m_hasTurned m_hasRound a_hasFeels a_isOn m_firstAct m_meanTop m_meanBy a_order m_rowMany m_newSteps 2) lk_RX12_269 ⟨rfl, rfl⟩ ⟨Nat.le_of_ble_eq_true rfl, Nat.le_of_ble_eq_true rfl⟩ 12 rfl rfl rfl [1] [0, 2] rfl rfl (by decide) rfl hl.1 rfl (lv_room (Nat.le_of_ble_eq_true rfl)) dX12_newly_37 ⟨Nat.le_of_ble_eq_true rfl, Nat.le_of_ble_eq_true rfl⟩ (fun r_21 u_22 H locs hw hP hD hS => ?_)
        obtain ⟨n_20, rfl⟩ : ∃ z, z = u_22 := ⟨_, rfl⟩
        obtain ⟨he_r_21, he_n_20, hw⟩ := hw
        have hr_r_21 := hw
        have hpost : ((-1) ≤ r_21.toInt ∧ r_21.toInt ≤ 9) ∧ (0 ≤ (0 : Int32).toInt ∧ (0 : Int32).toInt ≤ 0) ∧ (0 ≤ m_thereMany.toInt ∧ m_thereMany.toInt ≤ 10) ∧ (zRg 10 0 9 g_there) ∧ (m_hasBest = 0 ∨ m_hasBest = 1) ∧ (0 ≤ m_hasBest.toInt ∧ m_hasBest.toInt ≤ 1) ∧ (zC g_c) ∧ (zHF g_c g_c) := ⟨(z_rgw hr_r_21 (by decide) (by decide)), (by decide +kernel), hr_m_thereMany, hC_g_there, hz_m_hasBest, hr_m_hasBest, hC_g_c, (zHF_refl g_c)⟩
        exact hret _ _ _ _ _ _ (n_20, 0, m_thereMany, g_there, m_above, m_under, m_hasBest, m_bestTop, m_bestBy, g_c) [2, 1, 0] hP hD hS rfl (by decide) dX12_newly_40 hpost
      · skip
        refine lv_if_ne (tgt := 41) hx hb dX12_newly_32 (by decide) (fun _ => ?_) (fun h9 => absurd h9 (by decide +kernel))
        refine lv_aload_n hx hb dX12_newly_41 rfl (lv_at hl 0 rfl) ?_
        refine lv_iload_n hx hb dX12_newly_42 rfl (lv_at hl 1 rfl) ?_
        refine z_callVi (As := [.int k]) (rest := []) (wr := [(a_there, .inl (cA.1 0, 10, .inl g_there))]) ⟨hx, hb, hml, hown, hts⟩ hK hE hT hP hD hS hA (r_ringOf l G cA h0 0 0 m_above m_under a_traySort a_trayMany a_numbers a_tape m_taped m_textEnd m_faultKind m_faultAt m_bad m_badAt m_token m_at m_behind m_number m_letters m_word a_c a_words m_markMany a_there a_tried a_best a_found m_thereMany m_foundMany m_orderHow m_orderRing m_orderMany m_hasBest m_bestTop m_bestBy a_weights a_shared m_random m_truePlace m_trueWay m_seconds m_done m_feelings m_tries m_leftOver m_playDoor m_playRing m_isOpen m_isOver m_wasTried m_hasPlayed a_feltNow a_last a_kept m_hasSeconds m_hasTurned m_hasRound a_hasFeels a_isOn m_firstAct m_meanTop m_meanBy a_order m_rowMany m_newSteps g_c k (by omega) hC_g_c) lk_RX12_278 ⟨rfl, rfl⟩ ⟨Nat.le_of_ble_eq_true rfl, Nat.le_of_ble_eq_true rfl⟩ 12 rfl rfl rfl [1, 2] [0] rfl rfl (by decide) rfl hl.1 rfl (lv_room (Nat.le_of_ble_eq_true rfl)) dX12_newly_43 ⟨Nat.le_of_ble_eq_true rfl, Nat.le_of_ble_eq_true rfl⟩ (fun r_23 u_24 H locs hw hP hD hS => ?_)
        obtain ⟨hr_r_23, hf_25⟩ := hw
        refine lv_if_ge (tgt := 63) hx hb dX12_newly_46 (by decide) (fun c_26 => ?_) (fun c_26 => ?_)
        · have b_27 := z_fgeT c_26
          refine lv_aload_n hx hb dX12_newly_63 rfl (lv_at hl 0 rfl) ?_
          refine lv_bipush (v := 9) hx hb dX12_newly_64 (by decide) ?_
          refine z_callVi (As := [.int 9]) (rest := []) (wr := [(a_there, .inl (cA.1 0, 10, .inl g_there)), (a_c, .inl (cA.1 0, 1825, .inl g_c))]) ⟨hx, hb, hml, hown, hts⟩ hK hE hT hP hD hS hA (r_refuse l G cA h0 0 0 m_above m_under a_traySort a_trayMany a_numbers a_tape m_taped m_textEnd m_faultKind m_faultAt m_bad m_badAt m_token m_at m_behind m_number m_letters m_word a_c a_words m_markMany a_there a_tried a_best a_found m_thereMany m_foundMany m_orderHow m_orderRing m_orderMany m_hasBest m_bestTop m_bestBy a_weights a_shared m_random m_truePlace m_trueWay m_seconds m_done m_feelings m_tries m_leftOver m_playDoor m_playRing m_isOpen m_isOver m_wasTried m_hasPlayed a_feltNow a_last a_kept m_hasSeconds m_hasTurned m_hasRound a_hasFeels a_isOn m_firstAct m_meanTop m_meanBy a_order m_rowMany m_newSteps 9) lk_RX12_269 ⟨rfl, rfl⟩ ⟨Nat.le_of_ble_eq_true rfl, Nat.le_of_ble_eq_true rfl⟩ 12 rfl rfl rfl [1] [0, 2] rfl rfl (by decide) rfl hl.1 rfl (lv_room (Nat.le_of_ble_eq_true rfl)) dX12_newly_66 ⟨Nat.le_of_ble_eq_true rfl, Nat.le_of_ble_eq_true rfl⟩ (fun r_29 u_30 H locs hw hP hD hS => ?_)
          obtain ⟨n_28, rfl⟩ : ∃ z, z = u_30 := ⟨_, rfl⟩
          obtain ⟨he_r_29, he_n_28, hw⟩ := hw
          have hr_r_29 := hw
          have hpost : ((-1) ≤ r_29.toInt ∧ r_29.toInt ≤ 9) ∧ (0 ≤ (0 : Int32).toInt ∧ (0 : Int32).toInt ≤ 0) ∧ (0 ≤ m_thereMany.toInt ∧ m_thereMany.toInt ≤ 10) ∧ (zRg 10 0 9 g_there) ∧ (m_hasBest = 0 ∨ m_hasBest = 1) ∧ (0 ≤ m_hasBest.toInt ∧ m_hasBest.toInt ≤ 1) ∧ (zC g_c) ∧ (zHF g_c g_c) := ⟨(z_rgw hr_r_29 (by decide) (by decide)), (by decide +kernel), hr_m_thereMany, hC_g_there, hz_m_hasBest, hr_m_hasBest, hC_g_c, (zHF_refl g_c)⟩
          exact hret _ _ _ _ _ _ (n_28, 0, m_thereMany, g_there, m_above, m_under, m_hasBest, m_bestTop, m_bestBy, g_c) [2, 1, 0] hP hD hS rfl (by decide) dX12_newly_69 hpost
        · have b_31 := z_fltF c_26
          refine lv_aload_n hx hb dX12_newly_49 rfl (lv_at hl 0 rfl) ?_
          refine va_get (D := G) (ci := 12) (v := .ref a_c) (C := RX12) (T := TX12) (N := 65) hx hb hts inT12 hown hK hP 1 rfl rfl 20 (by decide) (hts _ tw_1905) (fun _ h9 => h9) rfl dX12_newly_50 ?_
          refine lv_sipush (v := 150) hx hb dX12_newly_53 (by decide) ?_
          refine lv_iload_n hx hb dX12_newly_56 rfl (lv_at hl 1 rfl) ?_
          refine lv_iadd hx hb dX12_newly_57 ?_
          refine lv_topi (fun x_32 he_x_32 => ?_)
          have hq_x_32 := z_addq he_x_32 hk_150 (rfl : k.toInt = _) (by omega) (by omega)
          refine va_iald hx hb hK hP 2 0 rfl rfl (z_inN (by omega) (by omega)) dX12_newly_58 ?_
          refine lv_topi (fun x_33 he_x_33 => ?_)
          have hlen_x_33 := z_at he_x_33 (a := 150 + k.toInt.toNat) (by omega)
          refine lv_iconst (v := 1) hx hb dX12_newly_59 (by decide) ?_
          refine lv_icmp_ne (tgt := 70) hx hb dX12_newly_60 (by decide) (fun c_34 => ?_) (fun c_34 => ?_)
          · have b_35 := z_fneT c_34
            refine lv_aload_n hx hb dX12_newly_70 rfl (lv_at hl 0 rfl) ?_
            refine lv_iload_n hx hb dX12_newly_71 rfl (lv_at hl 2 rfl) ?_
            refine z_callVv (As := [.int r]) (rest := []) (wr := []) ⟨hx, hb, hml, hown, hts⟩ hK hE hT hP hD hS hA (r_gather l G cA h0 0 0 m_above m_under a_traySort a_trayMany a_numbers a_tape m_taped m_textEnd m_faultKind m_faultAt m_bad m_badAt m_token m_at m_behind m_number m_letters m_word a_c a_words m_markMany a_there a_tried a_best a_found m_thereMany m_foundMany m_orderHow m_orderRing m_orderMany m_hasBest m_bestTop m_bestBy a_weights a_shared m_random m_truePlace m_trueWay m_seconds m_done m_feelings m_tries m_leftOver m_playDoor m_playRing m_isOpen m_isOver m_wasTried m_hasPlayed a_feltNow a_last a_kept m_hasSeconds m_hasTurned m_hasRound a_hasFeels a_isOn m_firstAct m_meanTop m_meanBy a_order m_rowMany m_newSteps g_c g_there r (by omega) hr_m_thereMany hC_g_c hC_g_there) lk_RX12_292 ⟨rfl, rfl⟩ ⟨Nat.le_of_ble_eq_true rfl, Nat.le_of_ble_eq_true rfl⟩ 12 rfl rfl rfl [1, 2, 0] [] rfl rfl (by decide) rfl hl.1 rfl (lv_room (Nat.le_of_ble_eq_true rfl)) dX12_newly_72 ⟨Nat.le_of_ble_eq_true rfl, Nat.le_of_ble_eq_true rfl⟩ (fun u_39 H locs hw hP hD hS => ?_)
            obtain ⟨n_36, n_37⟩ := u_39
            try dsimp only at hw
            obtain ⟨hr_n_36, hC_n_37, hf_40, hf_41⟩ := hw
            refine lv_aload_n hx hb dX12_newly_75 rfl (lv_at hl 0 rfl) ?_
            refine lv_iload_n hx hb dX12_newly_76 rfl (lv_at hl 3 rfl) ?_
            refine z_callVi (As := [.int d]) (rest := []) (wr := []) ⟨hx, hb, hml, hown, hts⟩ hK hE hT hP hD hS hA (r_hasOpener l G cA h0 0 0 m_above m_under a_traySort a_trayMany a_numbers a_tape m_taped m_textEnd m_faultKind m_faultAt m_bad m_badAt m_token m_at m_behind m_number m_letters m_word a_c a_words m_markMany a_there a_tried a_best a_found n_36 m_foundMany m_orderHow m_orderRing m_orderMany m_hasBest m_bestTop m_bestBy a_weights a_shared m_random m_truePlace m_trueWay m_seconds m_done m_feelings m_tries m_leftOver m_playDoor m_playRing m_isOpen m_isOver m_wasTried m_hasPlayed a_feltNow a_last a_kept m_hasSeconds m_hasTurned m_hasRound a_hasFeels a_isOn m_firstAct m_meanTop m_meanBy a_order m_rowMany m_newSteps g_c n_37 d (by omega) hr_n_36 hC_g_c hC_n_37) lk_RX12_438 ⟨rfl, rfl⟩ ⟨Nat.le_of_ble_eq_true rfl, Nat.le_of_ble_eq_true rfl⟩ 12 rfl rfl rfl [0, 1, 2] [] rfl rfl (by decide) rfl hl.1 rfl (lv_room (Nat.le_of_ble_eq_true rfl)) dX12_newly_77 ⟨Nat.le_of_ble_eq_true rfl, Nat.le_of_ble_eq_true rfl⟩ (fun r_42 u_43 H locs hw hP hD hS => ?_)
            rcases hw with ⟨rfl, -⟩ | ⟨rfl, -⟩
            · skip
              refine lv_if_ne (tgt := 99) hx hb dX12_newly_80 (by decide) (fun h9 => absurd (by decide +kernel) h9) (fun _ => ?_)
              refine lv_aload_n hx hb dX12_newly_83 rfl (lv_at hl 0 rfl) ?_
              refine lv_iload_n hx hb dX12_newly_84 rfl (lv_at hl 1 rfl) ?_
              refine lv_iload_n hx hb dX12_newly_85 rfl (lv_at hl 3 rfl) ?_
              refine z_callVi (As := [.int k, .int d]) (rest := []) (wr := [(a_there, .inl (cA.1 0, 10, .inl n_37))]) ⟨hx, hb, hml, hown, hts⟩ hK hE hT hP hD hS hA (r_canOpen l G cA h0 0 0 m_above m_under a_traySort a_trayMany a_numbers a_tape m_taped m_textEnd m_faultKind m_faultAt m_bad m_badAt m_token m_at m_behind m_number m_letters m_word a_c a_words m_markMany a_there a_tried a_best a_found n_36 m_foundMany m_orderHow m_orderRing m_orderMany m_hasBest m_bestTop m_bestBy a_weights a_shared m_random m_truePlace m_trueWay m_seconds m_done m_feelings m_tries m_leftOver m_playDoor m_playRing m_isOpen m_isOver m_wasTried m_hasPlayed a_feltNow a_last a_kept m_hasSeconds m_hasTurned m_hasRound a_hasFeels a_isOn m_firstAct m_meanTop m_meanBy a_order m_rowMany m_newSteps g_c k d (by omega) (by omega) hC_g_c) lk_RX12_345 ⟨rfl, rfl⟩ ⟨Nat.le_of_ble_eq_true rfl, Nat.le_of_ble_eq_true rfl⟩ 12 rfl rfl rfl [0, 1] [2] rfl rfl (by decide) rfl hl.1 rfl (lv_room (Nat.le_of_ble_eq_true rfl)) dX12_newly_86 ⟨Nat.le_of_ble_eq_true rfl, Nat.le_of_ble_eq_true rfl⟩ (fun r_44 u_45 H locs hw hP hD hS => ?_)
              rcases hw with ⟨rfl, hf_46⟩ | ⟨rfl, hf_47⟩
              · skip
                refine lv_if_ne (tgt := 99) hx hb dX12_newly_89 (by decide) (fun h9 => absurd (by decide +kernel) h9) (fun _ => ?_)
                refine lv_aload_n hx hb dX12_newly_92 rfl (lv_at hl 0 rfl) ?_
                refine lv_bipush (v := 8) hx hb dX12_newly_93 (by decide) ?_
                refine z_callVi (As := [.int 8]) (rest := []) (wr := [(a_there, .inl (cA.1 0, 10, .inl n_37)), (a_c, .inl (cA.1 0, 1825, .inl g_c))]) ⟨hx, hb, hml, hown, hts⟩ hK hE hT hP hD hS hA (r_refuse l G cA h0 0 0 m_above m_under a_traySort a_trayMany a_numbers a_tape m_taped m_textEnd m_faultKind m_faultAt m_bad m_badAt m_token m_at m_behind m_number m_letters m_word a_c a_words m_markMany a_there a_tried a_best a_found n_36 m_foundMany m_orderHow m_orderRing m_orderMany m_hasBest m_bestTop m_bestBy a_weights a_shared m_random m_truePlace m_trueWay m_seconds m_done m_feelings m_tries m_leftOver m_playDoor m_playRing m_isOpen m_isOver m_wasTried m_hasPlayed a_feltNow a_last a_kept m_hasSeconds m_hasTurned m_hasRound a_hasFeels a_isOn m_firstAct m_meanTop m_meanBy a_order m_rowMany m_newSteps 8) lk_RX12_269 ⟨rfl, rfl⟩ ⟨Nat.le_of_ble_eq_true rfl, Nat.le_of_ble_eq_true rfl⟩ 12 rfl rfl rfl [1] [0, 2] rfl rfl (by decide) rfl hl.1 rfl (lv_room (Nat.le_of_ble_eq_true rfl)) dX12_newly_95 ⟨Nat.le_of_ble_eq_true rfl, Nat.le_of_ble_eq_true rfl⟩ (fun r_49 u_50 H locs hw hP hD hS => ?_)
                obtain ⟨n_48, rfl⟩ : ∃ z, z = u_50 := ⟨_, rfl⟩
                obtain ⟨he_r_49, he_n_48, hw⟩ := hw
                have hr_r_49 := hw
                have hpost : ((-1) ≤ r_49.toInt ∧ r_49.toInt ≤ 9) ∧ (0 ≤ (0 : Int32).toInt ∧ (0 : Int32).toInt ≤ 0) ∧ (0 ≤ n_36.toInt ∧ n_36.toInt ≤ 10) ∧ (zRg 10 0 9 n_37) ∧ (m_hasBest = 0 ∨ m_hasBest = 1) ∧ (0 ≤ m_hasBest.toInt ∧ m_hasBest.toInt ≤ 1) ∧ (zC g_c) ∧ (zHF g_c g_c) := ⟨(z_rgw hr_r_49 (by decide) (by decide)), (by decide +kernel), hr_n_36, hC_n_37, hz_m_hasBest, hr_m_hasBest, hC_g_c, (zHF_refl g_c)⟩
                exact hret _ _ _ _ _ _ (n_48, 0, n_36, n_37, m_above, m_under, m_hasBest, m_bestTop, m_bestBy, g_c) [2, 1, 0] hP hD hS rfl (by decide) dX12_newly_98 hpost
              · skip
                refine lv_if_ne (tgt := 99) hx hb dX12_newly_89 (by decide) (fun _ => ?_) (fun h9 => absurd h9 (by decide +kernel))
                refine lv_iconst (v := 0) hx hb dX12_newly_99 (by decide) ?_
                refine lv_istore (lv' := [(4, .int 0), (0, .ref h0), (1, .int k), (2, .int r), (3, .int d)]) hx hb dX12_newly_100 hl (by decide) rfl (fun ls hl => ?_)
                refine lv_aload_n hx hb dX12_newly_102 rfl (lv_at hl 1 rfl) ?_
                refine lv_iconst (v := 0) hx hb dX12_newly_103 (by decide) ?_
                refine va_put (D := G) (ci := 12) (v := .int 0) (ty := .boolean) (C := RX12) (T := TX12) (N := 65) hx hb hts inT12 tyX12 tyX12_ok nmX12 hown hK hP hD hS 1 rfl rfl 32 (by decide) (hts _ tw_1916) (fun _ h9 => h9) rfl (tyX12_ok 32 (by decide)) rfl rfl (Nat.le_of_ble_eq_true rfl) dX12_newly_104 (fun H locs hP hD hS => ?_)
                have hro := zRO_neg hf_25 (by omega)
                have hS9 : (g_c (95 + r.toInt.toNat)).toInt ≤ 9 := zRoom hC_g_c (by omega) (by omega) (by omega) (by omega) (by omega) (zRO_noring hro (by omega) (by omega))
                have hln : (g_c (150 + k.toInt.toNat)).toInt ≠ 1 := by rw [← hlen_x_33]; omega
                refine lv_iconst (v := 0) hx hb dX12_newly_107 (by decide) ?_
                refine lv_istore (lv' := [(5, .int 0), (4, .int 0), (0, .ref h0), (1, .int k), (2, .int r), (3, .int d)]) hx hb dX12_newly_108 hl (by decide) rfl (fun ls hl => ?_)
                have hlp_3234 : ∀ (n : Nat) (v_2427 : Int32) (v_2428 : Int32) (g_2429 : Nat → Int32) (v_2430 : Int32) (v_2431 : Int32) (v_2432 : Int64) (v_2433 : Int64) (g_2434 : Nat → Int32) (H : Heap) (locs : List Loc) (ls : Array Slot), (2147483647 - v_2428.toInt).toNat < n → (0 ≤ v_2427.toInt ∧ v_2427.toInt ≤ 9) → (0 ≤ v_2428.toInt ∧ v_2428.toInt ≤ 10) → (zRg 10 0 9 g_2429) → (0 ≤ v_2430.toInt ∧ v_2430.toInt ≤ 10) → (v_2431 = 0 ∨ v_2431 = 1) → (0 ≤ v_2431.toInt ∧ v_2431.toInt ≤ 1) → (zC g_2434) → (zHF g_c g_2434) → (zLike g_c g_2434 r.toInt) → (v_2428.toInt ≤ 0 ∨ v_2431.toInt = 1) → (v_2431.toInt ≤ 0 ∨ 1 ≤ v_2433.toInt) → va_P G vwCl [(a_there, .inl (cA.1 0, 10, .inl g_2429)), (h0, .inr (12, [.int 0, .int 0, .long m_above, .long m_under, .ref a_traySort, .ref a_trayMany, .ref a_numbers, .ref a_tape, .int m_taped, .int m_textEnd, .int m_faultKind, .int m_faultAt, .int m_bad, .int m_badAt, .int m_token, .int m_at, .int m_behind, .int m_number, .int m_letters, .long m_word, .ref a_c, .ref a_words, .int m_markMany, .ref a_there, .ref a_tried, .ref a_best, .ref a_found, .int v_2430, .int m_foundMany, .int m_orderHow, .int m_orderRing, .int m_orderMany, .int v_2431, .long v_2432, .long v_2433, .ref a_weights, .ref a_shared, .int m_random, .int m_truePlace, .int m_trueWay, .int m_seconds, .int m_done, .int m_feelings, .int m_tries, .int m_leftOver, .int m_playDoor, .int m_playRing, .int m_isOpen, .int m_isOver, .int m_wasTried, .int m_hasPlayed, .ref a_feltNow, .ref a_last, .ref a_kept, .int m_hasSeconds, .int m_hasTurned, .int m_hasRound, .ref a_hasFeels, .ref a_isOn, .int m_firstAct, .long m_meanTop, .long m_meanBy, .ref a_order, .int m_rowMany, .int m_newSteps])), (a_c, .inl (cA.1 0, 1825, .inl g_2434))] H → va_D A [(a_there, .inl (cA.1 0, 10, .inl g_2429)), (h0, .inr (12, [.int 0, .int 0, .long m_above, .long m_under, .ref a_traySort, .ref a_trayMany, .ref a_numbers, .ref a_tape, .int m_taped, .int m_textEnd, .int m_faultKind, .int m_faultAt, .int m_bad, .int m_badAt, .int m_token, .int m_at, .int m_behind, .int m_number, .int m_letters, .long m_word, .ref a_c, .ref a_words, .int m_markMany, .ref a_there, .ref a_tried, .ref a_best, .ref a_found, .int v_2430, .int m_foundMany, .int m_orderHow, .int m_orderRing, .int m_orderMany, .int v_2431, .long v_2432, .long v_2433, .ref a_weights, .ref a_shared, .int m_random, .int m_truePlace, .int m_trueWay, .int m_seconds, .int m_done, .int m_feelings, .int m_tries, .int m_leftOver, .int m_playDoor, .int m_playRing, .int m_isOpen, .int m_isOver, .int m_wasTried, .int m_hasPlayed, .ref a_feltNow, .ref a_last, .ref a_kept, .int m_hasSeconds, .int m_hasTurned, .int m_hasRound, .ref a_hasFeels, .ref a_isOn, .int m_firstAct, .long m_meanTop, .long m_meanBy, .ref a_order, .int m_rowMany, .int m_newSteps])), (a_c, .inl (cA.1 0, 1825, .inl g_2434))] → va_S A s.heap H locs → lv_has ls 9 [(0, .ref h0), (1, .int k), (2, .int r), (3, .int d), (4, .int v_2427), (5, .int v_2428)] → W p l e ({ frames := 3, cells := 0, slots := 0, locals := 69 }) s m args below meth c H locs 0 0 Q (F0 m 110 ls []) := by
                  intro n
                  induction n with
                  | zero =>
                    intro v_2427 v_2428 g_2429 v_2430 v_2431 v_2432 v_2433 g_2434 H locs ls hmu_hlp_3234 hr_v_2427 hr_v_2428 hC_g_2429 hr_v_2430 hz_v_2431 hr_v_2431 hC_g_2434 hs_3230 hi_3231 hi_3232 hi_3233 hP hD hS hl
                    exact absurd hmu_hlp_3234 (Nat.not_lt_zero _)
                  | succ n ih_3235 =>
                    intro v_2427 v_2428 g_2429 v_2430 v_2431 v_2432 v_2433 g_2434 H locs ls hmu_hlp_3234 hr_v_2427 hr_v_2428 hC_g_2429 hr_v_2430 hz_v_2431 hr_v_2431 hC_g_2434 hs_3230 hi_3231 hi_3232 hi_3233 hP hD hS hl
                    refine lv_iload hx hb dX12_newly_110 (lv_at hl 5 rfl) ?_
                    refine lv_aload_n hx hb dX12_newly_112 rfl (lv_at hl 0 rfl) ?_
                    refine va_get (D := G) (ci := 12) (v := .ref a_c) (C := RX12) (T := TX12) (N := 65) hx hb hts inT12 hown hK hP 1 rfl rfl 20 (by decide) (hts _ tw_1905) (fun _ h9 => h9) rfl dX12_newly_113 ?_
                    refine lv_bipush (v := 95) hx hb dX12_newly_116 (by decide) ?_
                    refine lv_iload_n hx hb dX12_newly_118 rfl (lv_at hl 2 rfl) ?_
                    refine lv_iadd hx hb dX12_newly_119 ?_
                    refine lv_topi (fun x_3236 he_x_3236 => ?_)
                    have hq_x_3236 := z_addq he_x_3236 hk_95 (rfl : r.toInt = _) (by omega) (by omega)
                    refine va_iald hx hb hK hP 2 0 rfl rfl (z_inN (by omega) (by omega)) dX12_newly_120 ?_
                    refine lv_topi (fun x_3237 he_x_3237 => ?_)
                    have hr_x_3237 := z_ct hC_g_2434 he_x_3237 (a := 95) (b := 97) (lo := 0) (hi := 10) (by decide +kernel) (by decide) (by omega) (by omega)
                    have hlk := zLike_sz hi_3231 (by omega) (by omega) hC_g_c.1
                    have hyS : x_3237.toInt = (g_c (95 + r.toInt.toNat)).toInt := by rw [z_at he_x_3237 (a := 95 + r.toInt.toNat) (by omega), hlk.1]
                    have hy9 : 0 ≤ x_3237.toInt ∧ x_3237.toInt ≤ 9 := by omega
                    refine lv_icmp_gt (tgt := 264) hx hb dX12_newly_121 (by decide) (fun c_3238 => ?_) (fun c_3238 => ?_)
                    · have b_3239 := z_fgtT c_3238
                      refine lv_aload_n hx hb dX12_newly_264 rfl (lv_at hl 0 rfl) ?_
                      refine lv_aload_n hx hb dX12_newly_265 rfl (lv_at hl 0 rfl) ?_
                      refine va_get (D := G) (ci := 12) (v := .long v_2432) (C := RX12) (T := TX12) (N := 65) hx hb hts inT12 hown hK hP 1 rfl rfl 33 (by decide) (hts _ tw_1917) (fun _ h9 => h9) rfl dX12_newly_266 ?_
                      refine lv_aload_n hx hb dX12_newly_269 rfl (lv_at hl 0 rfl) ?_
                      refine va_get (D := G) (ci := 12) (v := .long v_2433) (C := RX12) (T := TX12) (N := 65) hx hb hts inT12 hown hK hP 1 rfl rfl 34 (by decide) (hts _ tw_1918) (fun _ h9 => h9) rfl dX12_newly_270 ?_
                      refine z_callVi (As := [.long v_2432, .long v_2433]) (rest := []) (wr := [(a_there, .inl (cA.1 0, 10, .inl g_2429)), (a_c, .inl (cA.1 0, 1825, .inl g_2434))]) ⟨hx, hb, hml, hown, hts⟩ hK hE hT hP hD hS hA (r_fraction l G cA h0 0 0 m_above m_under a_traySort a_trayMany a_numbers a_tape m_taped m_textEnd m_faultKind m_faultAt m_bad m_badAt m_token m_at m_behind m_number m_letters m_word a_c a_words m_markMany a_there a_tried a_best a_found v_2430 m_foundMany m_orderHow m_orderRing m_orderMany v_2431 v_2432 v_2433 a_weights a_shared m_random m_truePlace m_trueWay m_seconds m_done m_feelings m_tries m_leftOver m_playDoor m_playRing m_isOpen m_isOver m_wasTried m_hasPlayed a_feltNow a_last a_kept m_hasSeconds m_hasTurned m_hasRound a_hasFeels a_isOn m_firstAct m_meanTop m_meanBy a_order m_rowMany m_newSteps v_2432 v_2433 (by omega)) lk_RX12_352 ⟨rfl, rfl⟩ ⟨Nat.le_of_ble_eq_true rfl, Nat.le_of_ble_eq_true rfl⟩ 12 rfl rfl rfl [1] [0, 2] rfl rfl (by decide) rfl hl.1 rfl (lv_room (Nat.le_of_ble_eq_true rfl)) dX12_newly_273 ⟨Nat.le_of_ble_eq_true rfl, Nat.le_of_ble_eq_true rfl⟩ (fun r_3242 u_3243 H locs hw hP hD hS => ?_)
                      obtain ⟨n_3240, n_3241⟩ := u_3243
                      try dsimp only at hw
                      obtain ⟨rfl, -⟩ := hw
                      refine lv_pop hx hb dX12_newly_276 rfl ?_
                      refine lv_iload hx hb dX12_newly_277 (lv_at hl 4 rfl) ?_
                      have hpost : ((-1) ≤ v_2427.toInt ∧ v_2427.toInt ≤ 9) ∧ (0 ≤ (0 : Int32).toInt ∧ (0 : Int32).toInt ≤ 0) ∧ (0 ≤ v_2430.toInt ∧ v_2430.toInt ≤ 10) ∧ (zRg 10 0 9 g_2429) ∧ (v_2431 = 0 ∨ v_2431 = 1) ∧ (0 ≤ v_2431.toInt ∧ v_2431.toInt ≤ 1) ∧ (zC g_2434) ∧ (zHF g_c g_2434) := ⟨(z_rgw hr_v_2427 (by decide) (by decide)), (by decide +kernel), hr_v_2430, hC_g_2429, hz_v_2431, hr_v_2431, hC_g_2434, hs_3230⟩
                      exact hret _ _ _ _ _ _ (0, 0, v_2430, g_2429, n_3240, n_3241, v_2431, v_2432, v_2433, g_2434) [2, 1, 0] hP hD hS rfl (by decide) dX12_newly_279 hpost
                    · have b_3244 := z_fleF c_3238
                      refine lv_aload_n hx hb dX12_newly_124 rfl (lv_at hl 0 rfl) ?_
                      refine lv_iload_n hx hb dX12_newly_125 rfl (lv_at hl 1 rfl) ?_
                      refine lv_iload_n hx hb dX12_newly_126 rfl (lv_at hl 2 rfl) ?_
                      refine lv_iload hx hb dX12_newly_127 (lv_at hl 5 rfl) ?_
                      refine z_callVv (As := [.int k, .int r, .int v_2428]) (rest := []) (wr := [(a_there, .inl (cA.1 0, 10, .inl g_2429))]) ⟨hx, hb, hml, hown, hts⟩ hK hE hT hP hD hS hA (r_insert l G cA h0 0 0 m_above m_under a_traySort a_trayMany a_numbers a_tape m_taped m_textEnd m_faultKind m_faultAt m_bad m_badAt m_token m_at m_behind m_number m_letters m_word a_c a_words m_markMany a_there a_tried a_best a_found v_2430 m_foundMany m_orderHow m_orderRing m_orderMany v_2431 v_2432 v_2433 a_weights a_shared m_random m_truePlace m_trueWay m_seconds m_done m_feelings m_tries m_leftOver m_playDoor m_playRing m_isOpen m_isOver m_wasTried m_hasPlayed a_feltNow a_last a_kept m_hasSeconds m_hasTurned m_hasRound a_hasFeels a_isOn m_firstAct m_meanTop m_meanBy a_order m_rowMany m_newSteps g_2434 k r v_2428 (by omega) (by omega) hr_v_2428 hC_g_2434 (by first | (rw [hlk.2.1]; omega) | (rw [hlk.2.2]; omega) | (rw [hlk.1]; omega)) (by first | (rw [hlk.2.1]; omega) | (rw [hlk.2.2]; omega) | (rw [hlk.1]; omega)) (by first | (rw [hlk.2.1]; omega) | (rw [hlk.2.2]; omega) | (rw [hlk.1]; omega)) (zLike_RO hi_3231 (by omega) (by omega) hC_g_c.1 hro)) lk_RX12_308 ⟨rfl, rfl⟩ ⟨Nat.le_of_ble_eq_true rfl, Nat.le_of_ble_eq_true rfl⟩ 12 rfl rfl rfl [1, 2] [0] rfl rfl (by decide) rfl hl.1 rfl (lv_room (Nat.le_of_ble_eq_true rfl)) dX12_newly_129 ⟨Nat.le_of_ble_eq_true rfl, Nat.le_of_ble_eq_true rfl⟩ (fun u_3247 H locs hw hP hD hS => ?_)
                      obtain ⟨n_3245, rfl⟩ : ∃ z, z = u_3247 := ⟨_, rfl⟩
                      obtain ⟨hC_n_3245, hf_3248, hf_3249⟩ := hw
                      have hs_3250 : zHF g_c n_3245 := (zHF_trans hs_3230 hf_3248)
                      have hone := zIn_there hf_3249 (by omega) (by omega) (by omega) (by rw [hlk.1]; omega) (by rw [hlk.1]; omega) (by omega) (by rw [hi_3231 (150 + k.toInt.toNat) (by omega)]; exact hln)
                      refine lv_aload_n hx hb dX12_newly_132 rfl (lv_at hl 0 rfl) ?_
                      refine lv_iload_n hx hb dX12_newly_133 rfl (lv_at hl 2 rfl) ?_
                      refine z_callVv (As := [.int r]) (rest := []) (wr := []) ⟨hx, hb, hml, hown, hts⟩ hK hE hT hP hD hS hA (r_gather l G cA h0 0 0 m_above m_under a_traySort a_trayMany a_numbers a_tape m_taped m_textEnd m_faultKind m_faultAt m_bad m_badAt m_token m_at m_behind m_number m_letters m_word a_c a_words m_markMany a_there a_tried a_best a_found v_2430 m_foundMany m_orderHow m_orderRing m_orderMany v_2431 v_2432 v_2433 a_weights a_shared m_random m_truePlace m_trueWay m_seconds m_done m_feelings m_tries m_leftOver m_playDoor m_playRing m_isOpen m_isOver m_wasTried m_hasPlayed a_feltNow a_last a_kept m_hasSeconds m_hasTurned m_hasRound a_hasFeels a_isOn m_firstAct m_meanTop m_meanBy a_order m_rowMany m_newSteps n_3245 g_2429 r (by omega) hr_v_2430 hC_n_3245 hC_g_2429) lk_RX12_292 ⟨rfl, rfl⟩ ⟨Nat.le_of_ble_eq_true rfl, Nat.le_of_ble_eq_true rfl⟩ 12 rfl rfl rfl [1, 2, 0] [] rfl rfl (by decide) rfl hl.1 rfl (lv_room (Nat.le_of_ble_eq_true rfl)) dX12_newly_134 ⟨Nat.le_of_ble_eq_true rfl, Nat.le_of_ble_eq_true rfl⟩ (fun u_3254 H locs hw hP hD hS => ?_)
                      obtain ⟨n_3251, n_3252⟩ := u_3254
                      try dsimp only at hw
                      obtain ⟨hr_n_3251, hC_n_3252, hf_3255, hf_3256⟩ := hw
                      have hn_k_3257 : 1 ≤ n_3251.toInt ∧ n_3251.toInt ≤ 10 := by omega
                      refine lv_lconst (v := 0) hx hb dX12_newly_137 (by decide) ?_
                      refine lv_lstore (lv' := [(6, .long 0), (0, .ref h0), (1, .int k), (2, .int r), (3, .int d), (4, .int v_2427), (5, .int v_2428)]) hx hb dX12_newly_138 hl (by decide) rfl (fun ls hl => ?_)
                      refine lv_iconst (v := 0) hx hb dX12_newly_140 (by decide) ?_
                      refine lv_istore (lv' := [(8, .int 0), (6, .long 0), (0, .ref h0), (1, .int k), (2, .int r), (3, .int d), (4, .int v_2427), (5, .int v_2428)]) hx hb dX12_newly_141 hl (by decide) rfl (fun ls hl => ?_)
                      have hlp_3970 : ∀ (n : Nat) (v_3935 : Int64) (v_3936 : Int32) (H : Heap) (locs : List Loc) (ls : Array Slot), (2147483647 - v_3936.toInt).toNat < n → (0 ≤ v_3936.toInt ∧ v_3936.toInt ≤ 20) → va_P G vwCl [(h0, .inr (12, [.int 0, .int 0, .long m_above, .long m_under, .ref a_traySort, .ref a_trayMany, .ref a_numbers, .ref a_tape, .int m_taped, .int m_textEnd, .int m_faultKind, .int m_faultAt, .int m_bad, .int m_badAt, .int m_token, .int m_at, .int m_behind, .int m_number, .int m_letters, .long m_word, .ref a_c, .ref a_words, .int m_markMany, .ref a_there, .ref a_tried, .ref a_best, .ref a_found, .int n_3251, .int m_foundMany, .int m_orderHow, .int m_orderRing, .int m_orderMany, .int v_2431, .long v_2432, .long v_2433, .ref a_weights, .ref a_shared, .int m_random, .int m_truePlace, .int m_trueWay, .int m_seconds, .int m_done, .int m_feelings, .int m_tries, .int m_leftOver, .int m_playDoor, .int m_playRing, .int m_isOpen, .int m_isOver, .int m_wasTried, .int m_hasPlayed, .ref a_feltNow, .ref a_last, .ref a_kept, .int m_hasSeconds, .int m_hasTurned, .int m_hasRound, .ref a_hasFeels, .ref a_isOn, .int m_firstAct, .long m_meanTop, .long m_meanBy, .ref a_order, .int m_rowMany, .int m_newSteps])), (a_c, .inl (cA.1 0, 1825, .inl n_3245)), (a_there, .inl (cA.1 0, 10, .inl n_3252))] H → va_D A [(h0, .inr (12, [.int 0, .int 0, .long m_above, .long m_under, .ref a_traySort, .ref a_trayMany, .ref a_numbers, .ref a_tape, .int m_taped, .int m_textEnd, .int m_faultKind, .int m_faultAt, .int m_bad, .int m_badAt, .int m_token, .int m_at, .int m_behind, .int m_number, .int m_letters, .long m_word, .ref a_c, .ref a_words, .int m_markMany, .ref a_there, .ref a_tried, .ref a_best, .ref a_found, .int n_3251, .int m_foundMany, .int m_orderHow, .int m_orderRing, .int m_orderMany, .int v_2431, .long v_2432, .long v_2433, .ref a_weights, .ref a_shared, .int m_random, .int m_truePlace, .int m_trueWay, .int m_seconds, .int m_done, .int m_feelings, .int m_tries, .int m_leftOver, .int m_playDoor, .int m_playRing, .int m_isOpen, .int m_isOver, .int m_wasTried, .int m_hasPlayed, .ref a_feltNow, .ref a_last, .ref a_kept, .int m_hasSeconds, .int m_hasTurned, .int m_hasRound, .ref a_hasFeels, .ref a_isOn, .int m_firstAct, .long m_meanTop, .long m_meanBy, .ref a_order, .int m_rowMany, .int m_newSteps])), (a_c, .inl (cA.1 0, 1825, .inl n_3245)), (a_there, .inl (cA.1 0, 10, .inl n_3252))] → va_S A s.heap H locs → lv_has ls 9 [(0, .ref h0), (1, .int k), (2, .int r), (3, .int d), (4, .int v_2427), (5, .int v_2428), (6, .long v_3935), (8, .int v_3936)] → W p l e ({ frames := 3, cells := 0, slots := 0, locals := 69 }) s m args below meth c H locs 0 0 Q (F0 m 143 ls []) := by
                        intro n
                        induction n with
                        | zero =>
                          intro v_3935 v_3936 H locs ls hmu_hlp_3970 hr_v_3936 hP hD hS hl
                          exact absurd hmu_hlp_3970 (Nat.not_lt_zero _)
                        | succ n ih_3971 =>
                          intro v_3935 v_3936 H locs ls hmu_hlp_3970 hr_v_3936 hP hD hS hl
                          refine lv_iload hx hb dX12_newly_143 (lv_at hl 7 rfl) ?_
                          refine lv_iconst (v := 2) hx hb dX12_newly_145 (by decide) ?_
                          refine lv_aload_n hx hb dX12_newly_146 rfl (lv_at hl 0 rfl) ?_
                          refine va_get (D := G) (ci := 12) (v := .int n_3251) (C := RX12) (T := TX12) (N := 65) hx hb hts inT12 hown hK hP 0 rfl rfl 27 (by decide) (hts _ tw_1912) (fun _ h9 => h9) rfl dX12_newly_147 ?_
                          refine lv_imul hx hb dX12_newly_150 ?_
                          refine lv_topi (fun x_3972 he_x_3972 => ?_)
                          have hq_x_3972 := z_mulq he_x_3972 hk_2 (rfl : n_3251.toInt = _) (by omega) (by omega)
                          refine lv_icmp_ge (tgt := 208) hx hb dX12_newly_151 (by decide) (fun c_3973 => ?_) (fun c_3973 => ?_)
                          · have b_3974 := z_fgeT c_3973
                            refine lv_aload_n hx hb dX12_newly_208 rfl (lv_at hl 0 rfl) ?_
                            refine va_get (D := G) (ci := 12) (v := .int v_2431) (C := RX12) (T := TX12) (N := 65) hx hb hts inT12 hown hK hP 0 rfl rfl 32 (by decide) (hts _ tw_1916) (fun _ h9 => h9) rfl dX12_newly_209 ?_
                            refine lv_if_eq (tgt := 225) hx hb dX12_newly_212 (by decide) (fun c_3975 => ?_) (fun c_3975 => ?_)
                            · have b_3976 := z_feqT c_3975
                              refine lv_iload hx hb dX12_newly_225 (lv_at hl 5 rfl) ?_
                              refine lv_istore (lv' := [(4, .int v_2428), (0, .ref h0), (1, .int k), (2, .int r), (3, .int d), (5, .int v_2428), (6, .long v_3935), (8, .int v_3936)]) hx hb dX12_newly_227 hl (by decide) rfl (fun ls hl => ?_)
                              refine lv_aload_n hx hb dX12_newly_229 rfl (lv_at hl 1 rfl) ?_
                              refine lv_lload hx hb dX12_newly_230 (lv_at hl 6 rfl) ?_
                              refine va_put (D := G) (ci := 12) (v := .long v_3935) (ty := .long) (C := RX12) (T := TX12) (N := 65) hx hb hts inT12 tyX12 tyX12_ok nmX12 hown hK hP hD hS 0 rfl rfl 33 (by decide) (hts _ tw_1917) (fun _ h9 => h9) rfl (tyX12_ok 33 (by decide)) rfl rfl (Nat.le_of_ble_eq_true rfl) dX12_newly_232 (fun H locs hP hD hS => ?_)
                              refine lv_aload_n hx hb dX12_newly_235 rfl (lv_at hl 1 rfl) ?_
                              refine lv_ldc2 (v := 16) hx hb hown (hts _ tw_2470) dX12_newly_236 ?_
                              refine lv_aload_n hx hb dX12_newly_239 rfl (lv_at hl 1 rfl) ?_
                              refine va_get (D := G) (ci := 12) (v := .int n_3251) (C := RX12) (T := TX12) (N := 65) hx hb hts inT12 hown hK hP 0 rfl rfl 27 (by decide) (hts _ tw_1912) (fun _ h9 => h9) rfl dX12_newly_240 ?_
                              refine lv_i2l (v := (n_3251).toInt64) hx hb dX12_newly_243 rfl ?_
                              refine lv_topl (fun x_3977 he_x_3977 => ?_)
                              have hq_x_3977 := z_i2l he_x_3977
                              refine lv_lmul hx hb dX12_newly_244 ?_
                              refine lv_topl (fun x_3978 he_x_3978 => ?_)
                              have hq_x_3978 := z_mulql he_x_3978 hkl_16 (rfl : x_3977.toInt = _) (by omega) (by omega)
                              refine va_put (D := G) (ci := 12) (v := .long x_3978) (ty := .long) (C := RX12) (T := TX12) (N := 65) hx hb hts inT12 tyX12 tyX12_ok nmX12 hown hK hP hD hS 0 rfl rfl 34 (by decide) (hts _ tw_1918) (fun _ h9 => h9) rfl (tyX12_ok 34 (by decide)) rfl rfl (Nat.le_of_ble_eq_true rfl) dX12_newly_245 (fun H locs hP hD hS => ?_)
                              refine lv_aload_n hx hb dX12_newly_248 rfl (lv_at hl 1 rfl) ?_
                              refine lv_iconst (v := 1) hx hb dX12_newly_249 (by decide) ?_
                              refine va_put (D := G) (ci := 12) (v := .int 1) (ty := .boolean) (C := RX12) (T := TX12) (N := 65) hx hb hts inT12 tyX12 tyX12_ok nmX12 hown hK hP hD hS 0 rfl rfl 32 (by decide) (hts _ tw_1916) (fun _ h9 => h9) rfl (tyX12_ok 32 (by decide)) rfl rfl (Nat.le_of_ble_eq_true rfl) dX12_newly_250 (fun H locs hP hD hS => ?_)
                              refine lv_aload_n hx hb dX12_newly_253 rfl (lv_at hl 1 rfl) ?_
                              refine lv_iload_n hx hb dX12_newly_254 rfl (lv_at hl 2 rfl) ?_
                              refine z_callVv (As := [.int k]) (rest := []) (wr := [(a_there, .inl (cA.1 0, 10, .inl n_3252))]) ⟨hx, hb, hml, hown, hts⟩ hK hE hT hP hD hS hA (r_take2 l G cA h0 0 0 m_above m_under a_traySort a_trayMany a_numbers a_tape m_taped m_textEnd m_faultKind m_faultAt m_bad m_badAt m_token m_at m_behind m_number m_letters m_word a_c a_words m_markMany a_there a_tried a_best a_found n_3251 m_foundMany m_orderHow m_orderRing m_orderMany 1 v_3935 x_3978 a_weights a_shared m_random m_truePlace m_trueWay m_seconds m_done m_feelings m_tries m_leftOver m_playDoor m_playRing m_isOpen m_isOver m_wasTried m_hasPlayed a_feltNow a_last a_kept m_hasSeconds m_hasTurned m_hasRound a_hasFeels a_isOn m_firstAct m_meanTop m_meanBy a_order m_rowMany m_newSteps n_3245 k (by omega) hC_n_3245 ⟨r.toInt, (by omega), zIn_RO hC_g_2434.1 hf_3249 (by omega) (by omega) (by rw [hlk.2.1]; omega) (by omega) (by rw [hlk.1]; omega) (by rw [hlk.1]; omega) (zLike_RO hi_3231 (by omega) (by omega) hC_g_c.1 hro)⟩) lk_RX12_312 ⟨rfl, rfl⟩ ⟨Nat.le_of_ble_eq_true rfl, Nat.le_of_ble_eq_true rfl⟩ 12 rfl rfl rfl [0, 1] [2] rfl rfl (by decide) rfl hl.1 rfl (lv_room (Nat.le_of_ble_eq_true rfl)) dX12_newly_255 ⟨Nat.le_of_ble_eq_true rfl, Nat.le_of_ble_eq_true rfl⟩ (fun u_3981 H locs hw hP hD hS => ?_)
                              obtain ⟨n_3979, rfl⟩ : ∃ z, z = u_3981 := ⟨_, rfl⟩
                              obtain ⟨hC_n_3979, hf_3982, hf_3983⟩ := hw
                              have hs_3984 : zHF g_c n_3979 := (zHF_trans hs_3250 hf_3982)
                              have hnl := zLike_trans hi_3231 (zIn_take hC_g_2434 hC_n_3245 hf_3249 (by omega) (by omega) (by rw [hlk.2.1]; omega) (by omega) (by rw [hlk.1]; omega) (by rw [hlk.1]; omega) (zLike_RO hi_3231 (by omega) (by omega) hC_g_c.1 hro) hf_3983) (by omega) (by omega) hC_g_c.1
                              obtain ⟨x_3985, he_x_3985⟩ : ∃ z : Int32, z = v_2428 + 1 := ⟨_, rfl⟩
                              have hq_x_3985 := z_addq he_x_3985 (rfl : v_2428.toInt = _) hk_1 (by omega) (by omega)
                              refine lv_iinc (v := x_3985) (lv' := [(5, .int x_3985), (4, .int v_2428), (0, .ref h0), (1, .int k), (2, .int r), (3, .int d), (6, .long v_3935), (8, .int v_3936)]) hx hb dX12_newly_258 hl (k := 5) rfl ((z_ofi (by decide +kernel)).trans he_x_3985.symm) (by decide) rfl (fun ls hl => ?_)
                              refine lv_goto (tgt := 110) hx hb dX12_newly_261 (by decide) ?_
                              exact ih_3235 v_2428 x_3985 n_3252 n_3251 1 v_3935 x_3978 n_3979 H locs ls (by omega) (by omega) (by omega) hC_n_3252 hr_n_3251 (Or.inr rfl) (by decide +kernel) hC_n_3979 hs_3984 hnl (by omega) (by omega) hP hD hS (lv_sub hl [2, 3, 4, 5, 1, 0] rfl)
                            · have b_3986 := z_fneF c_3975
                              refine lv_lload hx hb dX12_newly_215 (lv_at hl 6 rfl) ?_
                              refine lv_aload_n hx hb dX12_newly_217 rfl (lv_at hl 0 rfl) ?_
                              refine va_get (D := G) (ci := 12) (v := .long v_2432) (C := RX12) (T := TX12) (N := 65) hx hb hts inT12 hown hK hP 0 rfl rfl 33 (by decide) (hts _ tw_1917) (fun _ h9 => h9) rfl dX12_newly_218 ?_
                              refine W.lcmp hx hb dX12_newly_221 ?_
                              refine lv_if_ge (tgt := 248) hx hb dX12_newly_222 (by decide) (fun c_3987 => ?_) (fun c_3987 => ?_)
                              · have b_3988 := z_fgeTl c_3987
                                refine lv_aload_n hx hb dX12_newly_248 rfl (lv_at hl 0 rfl) ?_
                                refine lv_iconst (v := 1) hx hb dX12_newly_249 (by decide) ?_
                                refine va_put (D := G) (ci := 12) (v := .int 1) (ty := .boolean) (C := RX12) (T := TX12) (N := 65) hx hb hts inT12 tyX12 tyX12_ok nmX12 hown hK hP hD hS 0 rfl rfl 32 (by decide) (hts _ tw_1916) (fun _ h9 => h9) rfl (tyX12_ok 32 (by decide)) rfl rfl (Nat.le_of_ble_eq_true rfl) dX12_newly_250 (fun H locs hP hD hS => ?_)
                                refine lv_aload_n hx hb dX12_newly_253 rfl (lv_at hl 0 rfl) ?_
                                refine lv_iload_n hx hb dX12_newly_254 rfl (lv_at hl 1 rfl) ?_
                                refine z_callVv (As := [.int k]) (rest := []) (wr := [(a_there, .inl (cA.1 0, 10, .inl n_3252))]) ⟨hx, hb, hml, hown, hts⟩ hK hE hT hP hD hS hA (r_take2 l G cA h0 0 0 m_above m_under a_traySort a_trayMany a_numbers a_tape m_taped m_textEnd m_faultKind m_faultAt m_bad m_badAt m_token m_at m_behind m_number m_letters m_word a_c a_words m_markMany a_there a_tried a_best a_found n_3251 m_foundMany m_orderHow m_orderRing m_orderMany 1 v_2432 v_2433 a_weights a_shared m_random m_truePlace m_trueWay m_seconds m_done m_feelings m_tries m_leftOver m_playDoor m_playRing m_isOpen m_isOver m_wasTried m_hasPlayed a_feltNow a_last a_kept m_hasSeconds m_hasTurned m_hasRound a_hasFeels a_isOn m_firstAct m_meanTop m_meanBy a_order m_rowMany m_newSteps n_3245 k (by omega) hC_n_3245 ⟨r.toInt, (by omega), zIn_RO hC_g_2434.1 hf_3249 (by omega) (by omega) (by rw [hlk.2.1]; omega) (by omega) (by rw [hlk.1]; omega) (by rw [hlk.1]; omega) (zLike_RO hi_3231 (by omega) (by omega) hC_g_c.1 hro)⟩) lk_RX12_312 ⟨rfl, rfl⟩ ⟨Nat.le_of_ble_eq_true rfl, Nat.le_of_ble_eq_true rfl⟩ 12 rfl rfl rfl [0, 1] [2] rfl rfl (by decide) rfl hl.1 rfl (lv_room (Nat.le_of_ble_eq_true rfl)) dX12_newly_255 ⟨Nat.le_of_ble_eq_true rfl, Nat.le_of_ble_eq_true rfl⟩ (fun u_3991 H locs hw hP hD hS => ?_)
                                obtain ⟨n_3989, rfl⟩ : ∃ z, z = u_3991 := ⟨_, rfl⟩
                                obtain ⟨hC_n_3989, hf_3992, hf_3993⟩ := hw
                                have hs_3994 : zHF g_c n_3989 := (zHF_trans hs_3250 hf_3992)
                                have hnl := zLike_trans hi_3231 (zIn_take hC_g_2434 hC_n_3245 hf_3249 (by omega) (by omega) (by rw [hlk.2.1]; omega) (by omega) (by rw [hlk.1]; omega) (by rw [hlk.1]; omega) (zLike_RO hi_3231 (by omega) (by omega) hC_g_c.1 hro) hf_3993) (by omega) (by omega) hC_g_c.1
                                obtain ⟨x_3995, he_x_3995⟩ : ∃ z : Int32, z = v_2428 + 1 := ⟨_, rfl⟩
                                have hq_x_3995 := z_addq he_x_3995 (rfl : v_2428.toInt = _) hk_1 (by omega) (by omega)
                                refine lv_iinc (v := x_3995) (lv' := [(5, .int x_3995), (0, .ref h0), (1, .int k), (2, .int r), (3, .int d), (4, .int v_2427), (6, .long v_3935), (8, .int v_3936)]) hx hb dX12_newly_258 hl (k := 5) rfl ((z_ofi (by decide +kernel)).trans he_x_3995.symm) (by decide) rfl (fun ls hl => ?_)
                                refine lv_goto (tgt := 110) hx hb dX12_newly_261 (by decide) ?_
                                exact ih_3235 v_2427 x_3995 n_3252 n_3251 1 v_2432 v_2433 n_3989 H locs ls (by omega) hr_v_2427 (by omega) hC_n_3252 hr_n_3251 (Or.inr rfl) (by decide +kernel) hC_n_3989 hs_3994 hnl (by omega) (by omega) hP hD hS (lv_sub hl [1, 2, 3, 4, 5, 0] rfl)
                              · have b_3996 := z_fltFl c_3987
                                refine lv_iload hx hb dX12_newly_225 (lv_at hl 5 rfl) ?_
                                refine lv_istore (lv' := [(4, .int v_2428), (0, .ref h0), (1, .int k), (2, .int r), (3, .int d), (5, .int v_2428), (6, .long v_3935), (8, .int v_3936)]) hx hb dX12_newly_227 hl (by decide) rfl (fun ls hl => ?_)
                                refine lv_aload_n hx hb dX12_newly_229 rfl (lv_at hl 1 rfl) ?_
                                refine lv_lload hx hb dX12_newly_230 (lv_at hl 6 rfl) ?_
                                refine va_put (D := G) (ci := 12) (v := .long v_3935) (ty := .long) (C := RX12) (T := TX12) (N := 65) hx hb hts inT12 tyX12 tyX12_ok nmX12 hown hK hP hD hS 0 rfl rfl 33 (by decide) (hts _ tw_1917) (fun _ h9 => h9) rfl (tyX12_ok 33 (by decide)) rfl rfl (Nat.le_of_ble_eq_true rfl) dX12_newly_232 (fun H locs hP hD hS => ?_)
                                refine lv_aload_n hx hb dX12_newly_235 rfl (lv_at hl 1 rfl) ?_
                                refine lv_ldc2 (v := 16) hx hb hown (hts _ tw_2470) dX12_newly_236 ?_
                                refine lv_aload_n hx hb dX12_newly_239 rfl (lv_at hl 1 rfl) ?_
                                refine va_get (D := G) (ci := 12) (v := .int n_3251) (C := RX12) (T := TX12) (N := 65) hx hb hts inT12 hown hK hP 0 rfl rfl 27 (by decide) (hts _ tw_1912) (fun _ h9 => h9) rfl dX12_newly_240 ?_
                                refine lv_i2l (v := (n_3251).toInt64) hx hb dX12_newly_243 rfl ?_
                                refine lv_topl (fun x_3997 he_x_3997 => ?_)
                                have hq_x_3997 := z_i2l he_x_3997
                                refine lv_lmul hx hb dX12_newly_244 ?_
                                refine lv_topl (fun x_3998 he_x_3998 => ?_)
                                have hq_x_3998 := z_mulql he_x_3998 hkl_16 (rfl : x_3997.toInt = _) (by omega) (by omega)
                                refine va_put (D := G) (ci := 12) (v := .long x_3998) (ty := .long) (C := RX12) (T := TX12) (N := 65) hx hb hts inT12 tyX12 tyX12_ok nmX12 hown hK hP hD hS 0 rfl rfl 34 (by decide) (hts _ tw_1918) (fun _ h9 => h9) rfl (tyX12_ok 34 (by decide)) rfl rfl (Nat.le_of_ble_eq_true rfl) dX12_newly_245 (fun H locs hP hD hS => ?_)
                                refine lv_aload_n hx hb dX12_newly_248 rfl (lv_at hl 1 rfl) ?_
                                refine lv_iconst (v := 1) hx hb dX12_newly_249 (by decide) ?_
                                refine va_put (D := G) (ci := 12) (v := .int 1) (ty := .boolean) (C := RX12) (T := TX12) (N := 65) hx hb hts inT12 tyX12 tyX12_ok nmX12 hown hK hP hD hS 0 rfl rfl 32 (by decide) (hts _ tw_1916) (fun _ h9 => h9) rfl (tyX12_ok 32 (by decide)) rfl rfl (Nat.le_of_ble_eq_true rfl) dX12_newly_250 (fun H locs hP hD hS => ?_)
                                refine lv_aload_n hx hb dX12_newly_253 rfl (lv_at hl 1 rfl) ?_
                                refine lv_iload_n hx hb dX12_newly_254 rfl (lv_at hl 2 rfl) ?_
                                refine z_callVv (As := [.int k]) (rest := []) (wr := [(a_there, .inl (cA.1 0, 10, .inl n_3252))]) ⟨hx, hb, hml, hown, hts⟩ hK hE hT hP hD hS hA (r_take2 l G cA h0 0 0 m_above m_under a_traySort a_trayMany a_numbers a_tape m_taped m_textEnd m_faultKind m_faultAt m_bad m_badAt m_token m_at m_behind m_number m_letters m_word a_c a_words m_markMany a_there a_tried a_best a_found n_3251 m_foundMany m_orderHow m_orderRing m_orderMany 1 v_3935 x_3998 a_weights a_shared m_random m_truePlace m_trueWay m_seconds m_done m_feelings m_tries m_leftOver m_playDoor m_playRing m_isOpen m_isOver m_wasTried m_hasPlayed a_feltNow a_last a_kept m_hasSeconds m_hasTurned m_hasRound a_hasFeels a_isOn m_firstAct m_meanTop m_meanBy a_order m_rowMany m_newSteps n_3245 k (by omega) hC_n_3245 ⟨r.toInt, (by omega), zIn_RO hC_g_2434.1 hf_3249 (by omega) (by omega) (by rw [hlk.2.1]; omega) (by omega) (by rw [hlk.1]; omega) (by rw [hlk.1]; omega) (zLike_RO hi_3231 (by omega) (by omega) hC_g_c.1 hro)⟩) lk_RX12_312 ⟨rfl, rfl⟩ ⟨Nat.le_of_ble_eq_true rfl, Nat.le_of_ble_eq_true rfl⟩ 12 rfl rfl rfl [0, 1] [2] rfl rfl (by decide) rfl hl.1 rfl (lv_room (Nat.le_of_ble_eq_true rfl)) dX12_newly_255 ⟨Nat.le_of_ble_eq_true rfl, Nat.le_of_ble_eq_true rfl⟩ (fun u_4001 H locs hw hP hD hS => ?_)
                                obtain ⟨n_3999, rfl⟩ : ∃ z, z = u_4001 := ⟨_, rfl⟩
                                obtain ⟨hC_n_3999, hf_4002, hf_4003⟩ := hw
                                have hs_4004 : zHF g_c n_3999 := (zHF_trans hs_3250 hf_4002)
                                have hnl := zLike_trans hi_3231 (zIn_take hC_g_2434 hC_n_3245 hf_3249 (by omega) (by omega) (by rw [hlk.2.1]; omega) (by omega) (by rw [hlk.1]; omega) (by rw [hlk.1]; omega) (zLike_RO hi_3231 (by omega) (by omega) hC_g_c.1 hro) hf_4003) (by omega) (by omega) hC_g_c.1
                                obtain ⟨x_4005, he_x_4005⟩ : ∃ z : Int32, z = v_2428 + 1 := ⟨_, rfl⟩
                                have hq_x_4005 := z_addq he_x_4005 (rfl : v_2428.toInt = _) hk_1 (by omega) (by omega)
                                refine lv_iinc (v := x_4005) (lv' := [(5, .int x_4005), (4, .int v_2428), (0, .ref h0), (1, .int k), (2, .int r), (3, .int d), (6, .long v_3935), (8, .int v_3936)]) hx hb dX12_newly_258 hl (k := 5) rfl ((z_ofi (by decide +kernel)).trans he_x_4005.symm) (by decide) rfl (fun ls hl => ?_)
                                refine lv_goto (tgt := 110) hx hb dX12_newly_261 (by decide) ?_
                                exact ih_3235 v_2428 x_4005 n_3252 n_3251 1 v_3935 x_3998 n_3999 H locs ls (by omega) (by omega) (by omega) hC_n_3252 hr_n_3251 (Or.inr rfl) (by decide +kernel) hC_n_3999 hs_4004 hnl (by omega) (by omega) hP hD hS (lv_sub hl [2, 3, 4, 5, 1, 0] rfl)
                          · have b_4006 := z_fltF c_3973
                            refine lv_lload hx hb dX12_newly_154 (lv_at hl 6 rfl) ?_
                            refine lv_iload hx hb dX12_newly_156 (lv_at hl 7 rfl) ?_
                            refine lv_iconst (v := 2) hx hb dX12_newly_158 (by decide) ?_
                            refine lv_irem hx hb dX12_newly_159 (by decide +kernel) ?_
                            refine lv_topi (fun x_4007 he_x_4007 => ?_)
                            have hq_x_4007 := z_remq he_x_4007 (rfl : v_3936.toInt = _) hk_2 (by omega) (by decide)
                            refine lv_if_ne (tgt := 176) hx hb dX12_newly_160 (by decide) (fun c_4008 => ?_) (fun c_4008 => ?_)
                            · have b_4009 := z_fneT c_4008
                              refine lv_aload_n hx hb dX12_newly_176 rfl (lv_at hl 0 rfl) ?_
                              refine va_get (D := G) (ci := 12) (v := .ref a_c) (C := RX12) (T := TX12) (N := 65) hx hb hts inT12 hown hK hP 0 rfl rfl 20 (by decide) (hts _ tw_1905) (fun _ h9 => h9) rfl dX12_newly_177 ?_
                              refine lv_bipush (v := 9) hx hb dX12_newly_180 (by decide) ?_
                              refine va_iald hx hb hK hP 1 0 rfl rfl (z_in (i := 9) (n := 1825) (by decide +kernel) (by decide +kernel)) dX12_newly_182 ?_
                              refine lv_topi (fun x_4010 he_x_4010 => ?_)
                              refine lv_i2l (v := (x_4010).toInt64) hx hb dX12_newly_183 rfl ?_
                              refine lv_topl (fun x_4011 he_x_4011 => ?_)
                              have hq_x_4011 := z_i2l he_x_4011
                              have hL_x_4010 := z_full x_4010
                              refine lv_aload_n hx hb dX12_newly_184 rfl (lv_at hl 0 rfl) ?_
                              refine lv_iload_n hx hb dX12_newly_185 rfl (lv_at hl 3 rfl) ?_
                              refine lv_iload hx hb dX12_newly_186 (lv_at hl 7 rfl) ?_
                              refine lv_iconst (v := 2) hx hb dX12_newly_188 (by decide) ?_
                              refine lv_idiv hx hb dX12_newly_189 (by decide +kernel) ?_
                              refine lv_topi (fun x_4012 he_x_4012 => ?_)
                              have hq_x_4012 := z_divq he_x_4012 (rfl : v_3936.toInt = _) hk_2 (by omega) (by decide)
                              refine lv_iload hx hb dX12_newly_190 (lv_at hl 7 rfl) ?_
                              refine lv_iconst (v := 2) hx hb dX12_newly_192 (by decide) ?_
                              refine lv_irem hx hb dX12_newly_193 (by decide +kernel) ?_
                              refine lv_topi (fun x_4013 he_x_4013 => ?_)
                              have hq_x_4013 := z_remq he_x_4013 (rfl : v_3936.toInt = _) hk_2 (by omega) (by decide)
                              refine z_callVi (As := [.int d, .int x_4012, .int x_4013]) (rest := [.long x_4011, .long v_3935]) (wr := []) ⟨hx, hb, hml, hown, hts⟩ hK hE hT hP hD hS hA (r_search l G cA h0 0 0 m_above m_under a_traySort a_trayMany a_numbers a_tape m_taped m_textEnd m_faultKind m_faultAt m_bad m_badAt m_token m_at m_behind m_number m_letters m_word a_c a_words m_markMany a_there a_tried a_best a_found n_3251 m_foundMany m_orderHow m_orderRing m_orderMany v_2431 v_2432 v_2433 a_weights a_shared m_random m_truePlace m_trueWay m_seconds m_done m_feelings m_tries m_leftOver m_playDoor m_playRing m_isOpen m_isOver m_wasTried m_hasPlayed a_feltNow a_last a_kept m_hasSeconds m_hasTurned m_hasRound a_hasFeels a_isOn m_firstAct m_meanTop m_meanBy a_order m_rowMany m_newSteps n_3245 n_3252 d x_4012 x_4013 (by omega) (by omega) (by omega) hr_n_3251 hC_n_3245 hC_n_3252 (by omega)) lk_RX12_387 ⟨rfl, rfl⟩ ⟨Nat.le_of_ble_eq_true rfl, Nat.le_of_ble_eq_true rfl⟩ 12 rfl rfl rfl [0, 1, 2] [] rfl rfl (by decide) rfl hl.1 rfl (lv_room (Nat.le_of_ble_eq_true rfl)) dX12_newly_194 ⟨Nat.le_of_ble_eq_true rfl, Nat.le_of_ble_eq_true rfl⟩ (fun r_4014 u_4015 H locs hw hP hD hS => ?_)
                              obtain ⟨hr_r_4014, hf_4016, hf_4017⟩ := hw
                              refine lv_i2l (v := (r_4014).toInt64) hx hb dX12_newly_197 rfl ?_
                              refine lv_topl (fun x_4018 he_x_4018 => ?_)
                              have hq_x_4018 := z_i2l he_x_4018
                              refine lv_lmul hx hb dX12_newly_198 ?_
                              refine lv_topl (fun x_4019 he_x_4019 => ?_)
                              refine lv_ladd hx hb dX12_newly_199 ?_
                              have hL_v_3935 := z_fulll v_3935
                              have hL_x_4019 := z_fulll x_4019
                              refine lv_topl (fun x_4020 he_x_4020 => ?_)
                              refine lv_lstore (lv' := [(6, .long x_4020), (0, .ref h0), (1, .int k), (2, .int r), (3, .int d), (4, .int v_2427), (5, .int v_2428), (8, .int v_3936)]) hx hb dX12_newly_200 hl (by decide) rfl (fun ls hl => ?_)
                              obtain ⟨x_4021, he_x_4021⟩ : ∃ z : Int32, z = v_3936 + 1 := ⟨_, rfl⟩
                              have hq_x_4021 := z_addq he_x_4021 (rfl : v_3936.toInt = _) hk_1 (by omega) (by omega)
                              refine lv_iinc (v := x_4021) (lv' := [(8, .int x_4021), (6, .long x_4020), (0, .ref h0), (1, .int k), (2, .int r), (3, .int d), (4, .int v_2427), (5, .int v_2428)]) hx hb dX12_newly_202 hl (k := 7) rfl ((z_ofi (by decide +kernel)).trans he_x_4021.symm) (by decide) rfl (fun ls hl => ?_)
                              refine lv_goto (tgt := 143) hx hb dX12_newly_205 (by decide) ?_
                              exact ih_3971 x_4020 x_4021 H locs ls (by omega) (by omega) hP hD hS (lv_sub hl [2, 3, 4, 5, 6, 7, 1, 0] rfl)
                            · have b_4022 := z_feqF c_4008
                              refine lv_bipush (v := 16) hx hb dX12_newly_163 (by decide) ?_
                              refine lv_aload_n hx hb dX12_newly_165 rfl (lv_at hl 0 rfl) ?_
                              refine va_get (D := G) (ci := 12) (v := .ref a_c) (C := RX12) (T := TX12) (N := 65) hx hb hts inT12 hown hK hP 0 rfl rfl 20 (by decide) (hts _ tw_1905) (fun _ h9 => h9) rfl dX12_newly_166 ?_
                              refine lv_bipush (v := 9) hx hb dX12_newly_169 (by decide) ?_
                              refine va_iald hx hb hK hP 1 0 rfl rfl (z_in (i := 9) (n := 1825) (by decide +kernel) (by decide +kernel)) dX12_newly_171 ?_
                              refine lv_topi (fun x_4023 he_x_4023 => ?_)
                              refine lv_isub hx hb dX12_newly_172 ?_
                              have hL_x_4023 := z_full x_4023
                              refine lv_topi (fun x_4024 he_x_4024 => ?_)
                              refine lv_goto (tgt := 183) hx hb dX12_newly_173 (by decide) ?_
                              refine lv_i2l (v := (x_4024).toInt64) hx hb dX12_newly_183 rfl ?_
                              refine lv_topl (fun x_4025 he_x_4025 => ?_)
                              have hq_x_4025 := z_i2l he_x_4025
                              have hL_x_4024 := z_full x_4024
                              refine lv_aload_n hx hb dX12_newly_184 rfl (lv_at hl 0 rfl) ?_
                              refine lv_iload_n hx hb dX12_newly_185 rfl (lv_at hl 3 rfl) ?_
                              refine lv_iload hx hb dX12_newly_186 (lv_at hl 7 rfl) ?_
                              refine lv_iconst (v := 2) hx hb dX12_newly_188 (by decide) ?_
                              refine lv_idiv hx hb dX12_newly_189 (by decide +kernel) ?_
                              refine lv_topi (fun x_4026 he_x_4026 => ?_)
                              have hq_x_4026 := z_divq he_x_4026 (rfl : v_3936.toInt = _) hk_2 (by omega) (by decide)
                              refine lv_iload hx hb dX12_newly_190 (lv_at hl 7 rfl) ?_
                              refine lv_iconst (v := 2) hx hb dX12_newly_192 (by decide) ?_
                              refine lv_irem hx hb dX12_newly_193 (by decide +kernel) ?_
                              refine lv_topi (fun x_4027 he_x_4027 => ?_)
                              have hq_x_4027 := z_remq he_x_4027 (rfl : v_3936.toInt = _) hk_2 (by omega) (by decide)
                              refine z_callVi (As := [.int d, .int x_4026, .int x_4027]) (rest := [.long x_4025, .long v_3935]) (wr := []) ⟨hx, hb, hml, hown, hts⟩ hK hE hT hP hD hS hA (r_search l G cA h0 0 0 m_above m_under a_traySort a_trayMany a_numbers a_tape m_taped m_textEnd m_faultKind m_faultAt m_bad m_badAt m_token m_at m_behind m_number m_letters m_word a_c a_words m_markMany a_there a_tried a_best a_found n_3251 m_foundMany m_orderHow m_orderRing m_orderMany v_2431 v_2432 v_2433 a_weights a_shared m_random m_truePlace m_trueWay m_seconds m_done m_feelings m_tries m_leftOver m_playDoor m_playRing m_isOpen m_isOver m_wasTried m_hasPlayed a_feltNow a_last a_kept m_hasSeconds m_hasTurned m_hasRound a_hasFeels a_isOn m_firstAct m_meanTop m_meanBy a_order m_rowMany m_newSteps n_3245 n_3252 d x_4026 x_4027 (by omega) (by omega) (by omega) hr_n_3251 hC_n_3245 hC_n_3252 (by omega)) lk_RX12_387 ⟨rfl, rfl⟩ ⟨Nat.le_of_ble_eq_true rfl, Nat.le_of_ble_eq_true rfl⟩ 12 rfl rfl rfl [0, 1, 2] [] rfl rfl (by decide) rfl hl.1 rfl (lv_room (Nat.le_of_ble_eq_true rfl)) dX12_newly_194 ⟨Nat.le_of_ble_eq_true rfl, Nat.le_of_ble_eq_true rfl⟩ (fun r_4028 u_4029 H locs hw hP hD hS => ?_)
                              obtain ⟨hr_r_4028, hf_4030, hf_4031⟩ := hw
                              refine lv_i2l (v := (r_4028).toInt64) hx hb dX12_newly_197 rfl ?_
                              refine lv_topl (fun x_4032 he_x_4032 => ?_)
                              have hq_x_4032 := z_i2l he_x_4032
                              refine lv_lmul hx hb dX12_newly_198 ?_
                              refine lv_topl (fun x_4033 he_x_4033 => ?_)
                              refine lv_ladd hx hb dX12_newly_199 ?_
                              have hL_v_3935 := z_fulll v_3935
                              have hL_x_4033 := z_fulll x_4033
                              refine lv_topl (fun x_4034 he_x_4034 => ?_)
                              refine lv_lstore (lv' := [(6, .long x_4034), (0, .ref h0), (1, .int k), (2, .int r), (3, .int d), (4, .int v_2427), (5, .int v_2428), (8, .int v_3936)]) hx hb dX12_newly_200 hl (by decide) rfl (fun ls hl => ?_)
                              obtain ⟨x_4035, he_x_4035⟩ : ∃ z : Int32, z = v_3936 + 1 := ⟨_, rfl⟩
                              have hq_x_4035 := z_addq he_x_4035 (rfl : v_3936.toInt = _) hk_1 (by omega) (by omega)
                              refine lv_iinc (v := x_4035) (lv' := [(8, .int x_4035), (6, .long x_4034), (0, .ref h0), (1, .int k), (2, .int r), (3, .int d), (4, .int v_2427), (5, .int v_2428)]) hx hb dX12_newly_202 hl (k := 7) rfl ((z_ofi (by decide +kernel)).trans he_x_4035.symm) (by decide) rfl (fun ls hl => ?_)
                              refine lv_goto (tgt := 143) hx hb dX12_newly_205 (by decide) ?_
                              exact ih_3971 x_4034 x_4035 H locs ls (by omega) (by omega) hP hD hS (lv_sub hl [2, 3, 4, 5, 6, 7, 1, 0] rfl)
                      exact hlp_3970 _ 0 0 _ _ _ (Nat.lt_succ_self _) (by decide +kernel) hP hD hS (lv_sub hl [2, 3, 4, 5, 6, 7, 1, 0] rfl)
                exact hlp_3234 _ 0 0 n_37 n_36 0 m_bestTop m_bestBy g_c _ _ _ (Nat.lt_succ_self _) (by decide +kernel) (by decide +kernel) hC_n_37 hr_n_36 (Or.inl rfl) (by decide +kernel) hC_g_c (zHF_refl g_c) (zLike_refl _) (by omega) (by omega) hP hD hS (lv_sub hl [2, 3, 4, 5, 1, 0] rfl)
            · skip
              refine lv_if_ne (tgt := 99) hx hb dX12_newly_80 (by decide) (fun _ => ?_) (fun h9 => absurd h9 (by decide +kernel))
              refine lv_iconst (v := 0) hx hb dX12_newly_99 (by decide) ?_
              refine lv_istore (lv' := [(4, .int 0), (0, .ref h0), (1, .int k), (2, .int r), (3, .int d)]) hx hb dX12_newly_100 hl (by decide) rfl (fun ls hl => ?_)
              refine lv_aload_n hx hb dX12_newly_102 rfl (lv_at hl 1 rfl) ?_
              refine lv_iconst (v := 0) hx hb dX12_newly_103 (by decide) ?_
              refine va_put (D := G) (ci := 12) (v := .int 0) (ty := .boolean) (C := RX12) (T := TX12) (N := 65) hx hb hts inT12 tyX12 tyX12_ok nmX12 hown hK hP hD hS 0 rfl rfl 32 (by decide) (hts _ tw_1916) (fun _ h9 => h9) rfl (tyX12_ok 32 (by decide)) rfl rfl (Nat.le_of_ble_eq_true rfl) dX12_newly_104 (fun H locs hP hD hS => ?_)
              have hro := zRO_neg hf_25 (by omega)
              have hS9 : (g_c (95 + r.toInt.toNat)).toInt ≤ 9 := zRoom hC_g_c (by omega) (by omega) (by omega) (by omega) (by omega) (zRO_noring hro (by omega) (by omega))
              have hln : (g_c (150 + k.toInt.toNat)).toInt ≠ 1 := by rw [← hlen_x_33]; omega
              refine lv_iconst (v := 0) hx hb dX12_newly_107 (by decide) ?_
              refine lv_istore (lv' := [(5, .int 0), (4, .int 0), (0, .ref h0), (1, .int k), (2, .int r), (3, .int d)]) hx hb dX12_newly_108 hl (by decide) rfl (fun ls hl => ?_)
              have hlp_7219 : ∀ (n : Nat) (v_6412 : Int32) (v_6413 : Int32) (v_6414 : Int32) (v_6415 : Int32) (v_6416 : Int64) (v_6417 : Int64) (g_6418 : Nat → Int32) (g_6419 : Nat → Int32) (H : Heap) (locs : List Loc) (ls : Array Slot), (2147483647 - v_6413.toInt).toNat < n → (0 ≤ v_6412.toInt ∧ v_6412.toInt ≤ 9) → (0 ≤ v_6413.toInt ∧ v_6413.toInt ≤ 10) → (0 ≤ v_6414.toInt ∧ v_6414.toInt ≤ 10) → (v_6415 = 0 ∨ v_6415 = 1) → (0 ≤ v_6415.toInt ∧ v_6415.toInt ≤ 1) → (zC g_6418) → (zRg 10 0 9 g_6419) → (zHF g_c g_6418) → (zLike g_c g_6418 r.toInt) → (v_6413.toInt ≤ 0 ∨ v_6415.toInt = 1) → (v_6415.toInt ≤ 0 ∨ 1 ≤ v_6417.toInt) → va_P G vwCl [(h0, .inr (12, [.int 0, .int 0, .long m_above, .long m_under, .ref a_traySort, .ref a_trayMany, .ref a_numbers, .ref a_tape, .int m_taped, .int m_textEnd, .int m_faultKind, .int m_faultAt, .int m_bad, .int m_badAt, .int m_token, .int m_at, .int m_behind, .int m_number, .int m_letters, .long m_word, .ref a_c, .ref a_words, .int m_markMany, .ref a_there, .ref a_tried, .ref a_best, .ref a_found, .int v_6414, .int m_foundMany, .int m_orderHow, .int m_orderRing, .int m_orderMany, .int v_6415, .long v_6416, .long v_6417, .ref a_weights, .ref a_shared, .int m_random, .int m_truePlace, .int m_trueWay, .int m_seconds, .int m_done, .int m_feelings, .int m_tries, .int m_leftOver, .int m_playDoor, .int m_playRing, .int m_isOpen, .int m_isOver, .int m_wasTried, .int m_hasPlayed, .ref a_feltNow, .ref a_last, .ref a_kept, .int m_hasSeconds, .int m_hasTurned, .int m_hasRound, .ref a_hasFeels, .ref a_isOn, .int m_firstAct, .long m_meanTop, .long m_meanBy, .ref a_order, .int m_rowMany, .int m_newSteps])), (a_c, .inl (cA.1 0, 1825, .inl g_6418)), (a_there, .inl (cA.1 0, 10, .inl g_6419))] H → va_D A [(h0, .inr (12, [.int 0, .int 0, .long m_above, .long m_under, .ref a_traySort, .ref a_trayMany, .ref a_numbers, .ref a_tape, .int m_taped, .int m_textEnd, .int m_faultKind, .int m_faultAt, .int m_bad, .int m_badAt, .int m_token, .int m_at, .int m_behind, .int m_number, .int m_letters, .long m_word, .ref a_c, .ref a_words, .int m_markMany, .ref a_there, .ref a_tried, .ref a_best, .ref a_found, .int v_6414, .int m_foundMany, .int m_orderHow, .int m_orderRing, .int m_orderMany, .int v_6415, .long v_6416, .long v_6417, .ref a_weights, .ref a_shared, .int m_random, .int m_truePlace, .int m_trueWay, .int m_seconds, .int m_done, .int m_feelings, .int m_tries, .int m_leftOver, .int m_playDoor, .int m_playRing, .int m_isOpen, .int m_isOver, .int m_wasTried, .int m_hasPlayed, .ref a_feltNow, .ref a_last, .ref a_kept, .int m_hasSeconds, .int m_hasTurned, .int m_hasRound, .ref a_hasFeels, .ref a_isOn, .int m_firstAct, .long m_meanTop, .long m_meanBy, .ref a_order, .int m_rowMany, .int m_newSteps])), (a_c, .inl (cA.1 0, 1825, .inl g_6418)), (a_there, .inl (cA.1 0, 10, .inl g_6419))] → va_S A s.heap H locs → lv_has ls 9 [(0, .ref h0), (1, .int k), (2, .int r), (3, .int d), (4, .int v_6412), (5, .int v_6413)] → W p l e ({ frames := 3, cells := 0, slots := 0, locals := 69 }) s m args below meth c H locs 0 0 Q (F0 m 110 ls []) := by
                intro n
                induction n with
                | zero =>
                  intro v_6412 v_6413 v_6414 v_6415 v_6416 v_6417 g_6418 g_6419 H locs ls hmu_hlp_7219 hr_v_6412 hr_v_6413 hr_v_6414 hz_v_6415 hr_v_6415 hC_g_6418 hC_g_6419 hs_7215 hi_7216 hi_7217 hi_7218 hP hD hS hl
                  exact absurd hmu_hlp_7219 (Nat.not_lt_zero _)
                | succ n ih_7220 =>
                  intro v_6412 v_6413 v_6414 v_6415 v_6416 v_6417 g_6418 g_6419 H locs ls hmu_hlp_7219 hr_v_6412 hr_v_6413 hr_v_6414 hz_v_6415 hr_v_6415 hC_g_6418 hC_g_6419 hs_7215 hi_7216 hi_7217 hi_7218 hP hD hS hl
                  refine lv_iload hx hb dX12_newly_110 (lv_at hl 5 rfl) ?_
                  refine lv_aload_n hx hb dX12_newly_112 rfl (lv_at hl 0 rfl) ?_
                  refine va_get (D := G) (ci := 12) (v := .ref a_c) (C := RX12) (T := TX12) (N := 65) hx hb hts inT12 hown hK hP 0 rfl rfl 20 (by decide) (hts _ tw_1905) (fun _ h9 => h9) rfl dX12_newly_113 ?_
                  refine lv_bipush (v := 95) hx hb dX12_newly_116 (by decide) ?_
                  refine lv_iload_n hx hb dX12_newly_118 rfl (lv_at hl 2 rfl) ?_
                  refine lv_iadd hx hb dX12_newly_119 ?_
                  refine lv_topi (fun x_7221 he_x_7221 => ?_)
                  have hq_x_7221 := z_addq he_x_7221 hk_95 (rfl : r.toInt = _) (by omega) (by omega)
                  refine va_iald hx hb hK hP 1 0 rfl rfl (z_inN (by omega) (by omega)) dX12_newly_120 ?_
                  refine lv_topi (fun x_7222 he_x_7222 => ?_)
                  have hr_x_7222 := z_ct hC_g_6418 he_x_7222 (a := 95) (b := 97) (lo := 0) (hi := 10) (by decide +kernel) (by decide) (by omega) (by omega)
                  have hlk := zLike_sz hi_7216 (by omega) (by omega) hC_g_c.1
                  have hyS : x_7222.toInt = (g_c (95 + r.toInt.toNat)).toInt := by rw [z_at he_x_7222 (a := 95 + r.toInt.toNat) (by omega), hlk.1]
                  have hy9 : 0 ≤ x_7222.toInt ∧ x_7222.toInt ≤ 9 := by omega
                  refine lv_icmp_gt (tgt := 264) hx hb dX12_newly_121 (by decide) (fun c_7223 => ?_) (fun c_7223 => ?_)
                  · have b_7224 := z_fgtT c_7223
                    refine lv_aload_n hx hb dX12_newly_264 rfl (lv_at hl 0 rfl) ?_
                    refine lv_aload_n hx hb dX12_newly_265 rfl (lv_at hl 0 rfl) ?_
                    refine va_get (D := G) (ci := 12) (v := .long v_6416) (C := RX12) (T := TX12) (N := 65) hx hb hts inT12 hown hK hP 0 rfl rfl 33 (by decide) (hts _ tw_1917) (fun _ h9 => h9) rfl dX12_newly_266 ?_
                    refine lv_aload_n hx hb dX12_newly_269 rfl (lv_at hl 0 rfl) ?_
                    refine va_get (D := G) (ci := 12) (v := .long v_6417) (C := RX12) (T := TX12) (N := 65) hx hb hts inT12 hown hK hP 0 rfl rfl 34 (by decide) (hts _ tw_1918) (fun _ h9 => h9) rfl dX12_newly_270 ?_
                    refine z_callVi (As := [.long v_6416, .long v_6417]) (rest := []) (wr := [(a_c, .inl (cA.1 0, 1825, .inl g_6418)), (a_there, .inl (cA.1 0, 10, .inl g_6419))]) ⟨hx, hb, hml, hown, hts⟩ hK hE hT hP hD hS hA (r_fraction l G cA h0 0 0 m_above m_under a_traySort a_trayMany a_numbers a_tape m_taped m_textEnd m_faultKind m_faultAt m_bad m_badAt m_token m_at m_behind m_number m_letters m_word a_c a_words m_markMany a_there a_tried a_best a_found v_6414 m_foundMany m_orderHow m_orderRing m_orderMany v_6415 v_6416 v_6417 a_weights a_shared m_random m_truePlace m_trueWay m_seconds m_done m_feelings m_tries m_leftOver m_playDoor m_playRing m_isOpen m_isOver m_wasTried m_hasPlayed a_feltNow a_last a_kept m_hasSeconds m_hasTurned m_hasRound a_hasFeels a_isOn m_firstAct m_meanTop m_meanBy a_order m_rowMany m_newSteps v_6416 v_6417 (by omega)) lk_RX12_352 ⟨rfl, rfl⟩ ⟨Nat.le_of_ble_eq_true rfl, Nat.le_of_ble_eq_true rfl⟩ 12 rfl rfl rfl [0] [1, 2] rfl rfl (by decide) rfl hl.1 rfl (lv_room (Nat.le_of_ble_eq_true rfl)) dX12_newly_273 ⟨Nat.le_of_ble_eq_true rfl, Nat.le_of_ble_eq_true rfl⟩ (fun r_7227 u_7228 H locs hw hP hD hS => ?_)
                    obtain ⟨n_7225, n_7226⟩ := u_7228
                    try dsimp only at hw
                    obtain ⟨rfl, -⟩ := hw
                    refine lv_pop hx hb dX12_newly_276 rfl ?_
                    refine lv_iload hx hb dX12_newly_277 (lv_at hl 4 rfl) ?_
                    have hpost : ((-1) ≤ v_6412.toInt ∧ v_6412.toInt ≤ 9) ∧ (0 ≤ (0 : Int32).toInt ∧ (0 : Int32).toInt ≤ 0) ∧ (0 ≤ v_6414.toInt ∧ v_6414.toInt ≤ 10) ∧ (zRg 10 0 9 g_6419) ∧ (v_6415 = 0 ∨ v_6415 = 1) ∧ (0 ≤ v_6415.toInt ∧ v_6415.toInt ≤ 1) ∧ (zC g_6418) ∧ (zHF g_c g_6418) := ⟨(z_rgw hr_v_6412 (by decide) (by decide)), (by decide +kernel), hr_v_6414, hC_g_6419, hz_v_6415, hr_v_6415, hC_g_6418, hs_7215⟩
                    exact hret _ _ _ _ _ _ (0, 0, v_6414, g_6419, n_7225, n_7226, v_6415, v_6416, v_6417, g_6418) [2, 0, 1] hP hD hS rfl (by decide) dX12_newly_279 hpost
                  · have b_7229 := z_fleF c_7223
                    refine lv_aload_n hx hb dX12_newly_124 rfl (lv_at hl 0 rfl) ?_
                    refine lv_iload_n hx hb dX12_newly_125 rfl (lv_at hl 1 rfl) ?_
                    refine lv_iload_n hx hb dX12_newly_126 rfl (lv_at hl 2 rfl) ?_
                    refine lv_iload hx hb dX12_newly_127 (lv_at hl 5 rfl) ?_
                    refine z_callVv (As := [.int k, .int r, .int v_6413]) (rest := []) (wr := [(a_there, .inl (cA.1 0, 10, .inl g_6419))]) ⟨hx, hb, hml, hown, hts⟩ hK hE hT hP hD hS hA (r_insert l G cA h0 0 0 m_above m_under a_traySort a_trayMany a_numbers a_tape m_taped m_textEnd m_faultKind m_faultAt m_bad m_badAt m_token m_at m_behind m_number m_letters m_word a_c a_words m_markMany a_there a_tried a_best a_found v_6414 m_foundMany m_orderHow m_orderRing m_orderMany v_6415 v_6416 v_6417 a_weights a_shared m_random m_truePlace m_trueWay m_seconds m_done m_feelings m_tries m_leftOver m_playDoor m_playRing m_isOpen m_isOver m_wasTried m_hasPlayed a_feltNow a_last a_kept m_hasSeconds m_hasTurned m_hasRound a_hasFeels a_isOn m_firstAct m_meanTop m_meanBy a_order m_rowMany m_newSteps g_6418 k r v_6413 (by omega) (by omega) hr_v_6413 hC_g_6418 (by first | (rw [hlk.2.1]; omega) | (rw [hlk.2.2]; omega) | (rw [hlk.1]; omega)) (by first | (rw [hlk.2.1]; omega) | (rw [hlk.2.2]; omega) | (rw [hlk.1]; omega)) (by first | (rw [hlk.2.1]; omega) | (rw [hlk.2.2]; omega) | (rw [hlk.1]; omega)) (zLike_RO hi_7216 (by omega) (by omega) hC_g_c.1 hro)) lk_RX12_308 ⟨rfl, rfl⟩ ⟨Nat.le_of_ble_eq_true rfl, Nat.le_of_ble_eq_true rfl⟩ 12 rfl rfl rfl [0, 1] [2] rfl rfl (by decide) rfl hl.1 rfl (lv_room (Nat.le_of_ble_eq_true rfl)) dX12_newly_129 ⟨Nat.le_of_ble_eq_true rfl, Nat.le_of_ble_eq_true rfl⟩ (fun u_7232 H locs hw hP hD hS => ?_)
                    obtain ⟨n_7230, rfl⟩ : ∃ z, z = u_7232 := ⟨_, rfl⟩
                    obtain ⟨hC_n_7230, hf_7233, hf_7234⟩ := hw
                    have hs_7235 : zHF g_c n_7230 := (zHF_trans hs_7215 hf_7233)
                    have hone := zIn_there hf_7234 (by omega) (by omega) (by omega) (by rw [hlk.1]; omega) (by rw [hlk.1]; omega) (by omega) (by rw [hi_7216 (150 + k.toInt.toNat) (by omega)]; exact hln)
                    refine lv_aload_n hx hb dX12_newly_132 rfl (lv_at hl 0 rfl) ?_
                    refine lv_iload_n hx hb dX12_newly_133 rfl (lv_at hl 2 rfl) ?_
                    refine z_callVv (As := [.int r]) (rest := []) (wr := []) ⟨hx, hb, hml, hown, hts⟩ hK hE hT hP hD hS hA (r_gather l G cA h0 0 0 m_above m_under a_traySort a_trayMany a_numbers a_tape m_taped m_textEnd m_faultKind m_faultAt m_bad m_badAt m_token m_at m_behind m_number m_letters m_word a_c a_words m_markMany a_there a_tried a_best a_found v_6414 m_foundMany m_orderHow m_orderRing m_orderMany v_6415 v_6416 v_6417 a_weights a_shared m_random m_truePlace m_trueWay m_seconds m_done m_feelings m_tries m_leftOver m_playDoor m_playRing m_isOpen m_isOver m_wasTried m_hasPlayed a_feltNow a_last a_kept m_hasSeconds m_hasTurned m_hasRound a_hasFeels a_isOn m_firstAct m_meanTop m_meanBy a_order m_rowMany m_newSteps n_7230 g_6419 r (by omega) hr_v_6414 hC_n_7230 hC_g_6419) lk_RX12_292 ⟨rfl, rfl⟩ ⟨Nat.le_of_ble_eq_true rfl, Nat.le_of_ble_eq_true rfl⟩ 12 rfl rfl rfl [1, 2, 0] [] rfl rfl (by decide) rfl hl.1 rfl (lv_room (Nat.le_of_ble_eq_true rfl)) dX12_newly_134 ⟨Nat.le_of_ble_eq_true rfl, Nat.le_of_ble_eq_true rfl⟩ (fun u_7239 H locs hw hP hD hS => ?_)
                    obtain ⟨n_7236, n_7237⟩ := u_7239
                    try dsimp only at hw
                    obtain ⟨hr_n_7236, hC_n_7237, hf_7240, hf_7241⟩ := hw
                    have hn_k_7242 : 1 ≤ n_7236.toInt ∧ n_7236.toInt ≤ 10 := by omega
                    refine lv_lconst (v := 0) hx hb dX12_newly_137 (by decide) ?_
                    refine lv_lstore (lv' := [(6, .long 0), (0, .ref h0), (1, .int k), (2, .int r), (3, .int d), (4, .int v_6412), (5, .int v_6413)]) hx hb dX12_newly_138 hl (by decide) rfl (fun ls hl => ?_)
                    refine lv_iconst (v := 0) hx hb dX12_newly_140 (by decide) ?_
                    refine lv_istore (lv' := [(8, .int 0), (6, .long 0), (0, .ref h0), (1, .int k), (2, .int r), (3, .int d), (4, .int v_6412), (5, .int v_6413)]) hx hb dX12_newly_141 hl (by decide) rfl (fun ls hl => ?_)
                    have hlp_7955 : ∀ (n : Nat) (v_7920 : Int64) (v_7921 : Int32) (H : Heap) (locs : List Loc) (ls : Array Slot), (2147483647 - v_7921.toInt).toNat < n → (0 ≤ v_7921.toInt ∧ v_7921.toInt ≤ 20) → va_P G vwCl [(h0, .inr (12, [.int 0, .int 0, .long m_above, .long m_under, .ref a_traySort, .ref a_trayMany, .ref a_numbers, .ref a_tape, .int m_taped, .int m_textEnd, .int m_faultKind, .int m_faultAt, .int m_bad, .int m_badAt, .int m_token, .int m_at, .int m_behind, .int m_number, .int m_letters, .long m_word, .ref a_c, .ref a_words, .int m_markMany, .ref a_there, .ref a_tried, .ref a_best, .ref a_found, .int n_7236, .int m_foundMany, .int m_orderHow, .int m_orderRing, .int m_orderMany, .int v_6415, .long v_6416, .long v_6417, .ref a_weights, .ref a_shared, .int m_random, .int m_truePlace, .int m_trueWay, .int m_seconds, .int m_done, .int m_feelings, .int m_tries, .int m_leftOver, .int m_playDoor, .int m_playRing, .int m_isOpen, .int m_isOver, .int m_wasTried, .int m_hasPlayed, .ref a_feltNow, .ref a_last, .ref a_kept, .int m_hasSeconds, .int m_hasTurned, .int m_hasRound, .ref a_hasFeels, .ref a_isOn, .int m_firstAct, .long m_meanTop, .long m_meanBy, .ref a_order, .int m_rowMany, .int m_newSteps])), (a_c, .inl (cA.1 0, 1825, .inl n_7230)), (a_there, .inl (cA.1 0, 10, .inl n_7237))] H → va_D A [(h0, .inr (12, [.int 0, .int 0, .long m_above, .long m_under, .ref a_traySort, .ref a_trayMany, .ref a_numbers, .ref a_tape, .int m_taped, .int m_textEnd, .int m_faultKind, .int m_faultAt, .int m_bad, .int m_badAt, .int m_token, .int m_at, .int m_behind, .int m_number, .int m_letters, .long m_word, .ref a_c, .ref a_words, .int m_markMany, .ref a_there, .ref a_tried, .ref a_best, .ref a_found, .int n_7236, .int m_foundMany, .int m_orderHow, .int m_orderRing, .int m_orderMany, .int v_6415, .long v_6416, .long v_6417, .ref a_weights, .ref a_shared, .int m_random, .int m_truePlace, .int m_trueWay, .int m_seconds, .int m_done, .int m_feelings, .int m_tries, .int m_leftOver, .int m_playDoor, .int m_playRing, .int m_isOpen, .int m_isOver, .int m_wasTried, .int m_hasPlayed, .ref a_feltNow, .ref a_last, .ref a_kept, .int m_hasSeconds, .int m_hasTurned, .int m_hasRound, .ref a_hasFeels, .ref a_isOn, .int m_firstAct, .long m_meanTop, .long m_meanBy, .ref a_order, .int m_rowMany, .int m_newSteps])), (a_c, .inl (cA.1 0, 1825, .inl n_7230)), (a_there, .inl (cA.1 0, 10, .inl n_7237))] → va_S A s.heap H locs → lv_has ls 9 [(0, .ref h0), (1, .int k), (2, .int r), (3, .int d), (4, .int v_6412), (5, .int v_6413), (6, .long v_7920), (8, .int v_7921)] → W p l e ({ frames := 3, cells := 0, slots := 0, locals := 69 }) s m args below meth c H locs 0 0 Q (F0 m 143 ls []) := by
                      intro n
                      induction n with
                      | zero =>
                        intro v_7920 v_7921 H locs ls hmu_hlp_7955 hr_v_7921 hP hD hS hl
                        exact absurd hmu_hlp_7955 (Nat.not_lt_zero _)
                      | succ n ih_7956 =>
                        intro v_7920 v_7921 H locs ls hmu_hlp_7955 hr_v_7921 hP hD hS hl
                        refine lv_iload hx hb dX12_newly_143 (lv_at hl 7 rfl) ?_
                        refine lv_iconst (v := 2) hx hb dX12_newly_145 (by decide) ?_
                        refine lv_aload_n hx hb dX12_newly_146 rfl (lv_at hl 0 rfl) ?_
                        refine va_get (D := G) (ci := 12) (v := .int n_7236) (C := RX12) (T := TX12) (N := 65) hx hb hts inT12 hown hK hP 0 rfl rfl 27 (by decide) (hts _ tw_1912) (fun _ h9 => h9) rfl dX12_newly_147 ?_
                        refine lv_imul hx hb dX12_newly_150 ?_
                        refine lv_topi (fun x_7957 he_x_7957 => ?_)
                        have hq_x_7957 := z_mulq he_x_7957 hk_2 (rfl : n_7236.toInt = _) (by omega) (by omega)
                        refine lv_icmp_ge (tgt := 208) hx hb dX12_newly_151 (by decide) (fun c_7958 => ?_) (fun c_7958 => ?_)
                        · have b_7959 := z_fgeT c_7958
                          refine lv_aload_n hx hb dX12_newly_208 rfl (lv_at hl 0 rfl) ?_
                          refine va_get (D := G) (ci := 12) (v := .int v_6415) (C := RX12) (T := TX12) (N := 65) hx hb hts inT12 hown hK hP 0 rfl rfl 32 (by decide) (hts _ tw_1916) (fun _ h9 => h9) rfl dX12_newly_209 ?_
                          refine lv_if_eq (tgt := 225) hx hb dX12_newly_212 (by decide) (fun c_7960 => ?_) (fun c_7960 => ?_)
                          · have b_7961 := z_feqT c_7960
                            refine lv_iload hx hb dX12_newly_225 (lv_at hl 5 rfl) ?_
                            refine lv_istore (lv' := [(4, .int v_6413), (0, .ref h0), (1, .int k), (2, .int r), (3, .int d), (5, .int v_6413), (6, .long v_7920), (8, .int v_7921)]) hx hb dX12_newly_227 hl (by decide) rfl (fun ls hl => ?_)
                            refine lv_aload_n hx hb dX12_newly_229 rfl (lv_at hl 1 rfl) ?_
                            refine lv_lload hx hb dX12_newly_230 (lv_at hl 6 rfl) ?_
                            refine va_put (D := G) (ci := 12) (v := .long v_7920) (ty := .long) (C := RX12) (T := TX12) (N := 65) hx hb hts inT12 tyX12 tyX12_ok nmX12 hown hK hP hD hS 0 rfl rfl 33 (by decide) (hts _ tw_1917) (fun _ h9 => h9) rfl (tyX12_ok 33 (by decide)) rfl rfl (Nat.le_of_ble_eq_true rfl) dX12_newly_232 (fun H locs hP hD hS => ?_)
                            refine lv_aload_n hx hb dX12_newly_235 rfl (lv_at hl 1 rfl) ?_
                            refine lv_ldc2 (v := 16) hx hb hown (hts _ tw_2470) dX12_newly_236 ?_
                            refine lv_aload_n hx hb dX12_newly_239 rfl (lv_at hl 1 rfl) ?_
                            refine va_get (D := G) (ci := 12) (v := .int n_7236) (C := RX12) (T := TX12) (N := 65) hx hb hts inT12 hown hK hP 0 rfl rfl 27 (by decide) (hts _ tw_1912) (fun _ h9 => h9) rfl dX12_newly_240 ?_
                            refine lv_i2l (v := (n_7236).toInt64) hx hb dX12_newly_243 rfl ?_
                            refine lv_topl (fun x_7962 he_x_7962 => ?_)
                            have hq_x_7962 := z_i2l he_x_7962
                            refine lv_lmul hx hb dX12_newly_244 ?_
                            refine lv_topl (fun x_7963 he_x_7963 => ?_)
                            have hq_x_7963 := z_mulql he_x_7963 hkl_16 (rfl : x_7962.toInt = _) (by omega) (by omega)
                            refine va_put (D := G) (ci := 12) (v := .long x_7963) (ty := .long) (C := RX12) (T := TX12) (N := 65) hx hb hts inT12 tyX12 tyX12_ok nmX12 hown hK hP hD hS 0 rfl rfl 34 (by decide) (hts _ tw_1918) (fun _ h9 => h9) rfl (tyX12_ok 34 (by decide)) rfl rfl (Nat.le_of_ble_eq_true rfl) dX12_newly_245 (fun H locs hP hD hS => ?_)
                            refine lv_aload_n hx hb dX12_newly_248 rfl (lv_at hl 1 rfl) ?_
                            refine lv_iconst (v := 1) hx hb dX12_newly_249 (by decide) ?_
                            refine va_put (D := G) (ci := 12) (v := .int 1) (ty := .boolean) (C := RX12) (T := TX12) (N := 65) hx hb hts inT12 tyX12 tyX12_ok nmX12 hown hK hP hD hS 0 rfl rfl 32 (by decide) (hts _ tw_1916) (fun _ h9 => h9) rfl (tyX12_ok 32 (by decide)) rfl rfl (Nat.le_of_ble_eq_true rfl) dX12_newly_250 (fun H locs hP hD hS => ?_)
                            refine lv_aload_n hx hb dX12_newly_253 rfl (lv_at hl 1 rfl) ?_
                            refine lv_iload_n hx hb dX12_newly_254 rfl (lv_at hl 2 rfl) ?_
                            refine z_callVv (As := [.int k]) (rest := []) (wr := [(a_there, .inl (cA.1 0, 10, .inl n_7237))]) ⟨hx, hb, hml, hown, hts⟩ hK hE hT hP hD hS hA (r_take2 l G cA h0 0 0 m_above m_under a_traySort a_trayMany a_numbers a_tape m_taped m_textEnd m_faultKind m_faultAt m_bad m_badAt m_token m_at m_behind m_number m_letters m_word a_c a_words m_markMany a_there a_tried a_best a_found n_7236 m_foundMany m_orderHow m_orderRing m_orderMany 1 v_7920 x_7963 a_weights a_shared m_random m_truePlace m_trueWay m_seconds m_done m_feelings m_tries m_leftOver m_playDoor m_playRing m_isOpen m_isOver m_wasTried m_hasPlayed a_feltNow a_last a_kept m_hasSeconds m_hasTurned m_hasRound a_hasFeels a_isOn m_firstAct m_meanTop m_meanBy a_order m_rowMany m_newSteps n_7230 k (by omega) hC_n_7230 ⟨r.toInt, (by omega), zIn_RO hC_g_6418.1 hf_7234 (by omega) (by omega) (by rw [hlk.2.1]; omega) (by omega) (by rw [hlk.1]; omega) (by rw [hlk.1]; omega) (zLike_RO hi_7216 (by omega) (by omega) hC_g_c.1 hro)⟩) lk_RX12_312 ⟨rfl, rfl⟩ ⟨Nat.le_of_ble_eq_true rfl, Nat.le_of_ble_eq_true rfl⟩ 12 rfl rfl rfl [0, 1] [2] rfl rfl (by decide) rfl hl.1 rfl (lv_room (Nat.le_of_ble_eq_true rfl)) dX12_newly_255 ⟨Nat.le_of_ble_eq_true rfl, Nat.le_of_ble_eq_true rfl⟩ (fun u_7966 H locs hw hP hD hS => ?_)
                            obtain ⟨n_7964, rfl⟩ : ∃ z, z = u_7966 := ⟨_, rfl⟩
                            obtain ⟨hC_n_7964, hf_7967, hf_7968⟩ := hw
                            have hs_7969 : zHF g_c n_7964 := (zHF_trans hs_7235 hf_7967)
                            have hnl := zLike_trans hi_7216 (zIn_take hC_g_6418 hC_n_7230 hf_7234 (by omega) (by omega) (by rw [hlk.2.1]; omega) (by omega) (by rw [hlk.1]; omega) (by rw [hlk.1]; omega) (zLike_RO hi_7216 (by omega) (by omega) hC_g_c.1 hro) hf_7968) (by omega) (by omega) hC_g_c.1
                            obtain ⟨x_7970, he_x_7970⟩ : ∃ z : Int32, z = v_6413 + 1 := ⟨_, rfl⟩
                            have hq_x_7970 := z_addq he_x_7970 (rfl : v_6413.toInt = _) hk_1 (by omega) (by omega)
                            refine lv_iinc (v := x_7970) (lv' := [(5, .int x_7970), (4, .int v_6413), (0, .ref h0), (1, .int k), (2, .int r), (3, .int d), (6, .long v_7920), (8, .int v_7921)]) hx hb dX12_newly_258 hl (k := 5) rfl ((z_ofi (by decide +kernel)).trans he_x_7970.symm) (by decide) rfl (fun ls hl => ?_)
                            refine lv_goto (tgt := 110) hx hb dX12_newly_261 (by decide) ?_
                            have hP := hP.sub (ws' := [(h0, .inr (12, [.int 0, .int 0, .long m_above, .long m_under, .ref a_traySort, .ref a_trayMany, .ref a_numbers, .ref a_tape, .int m_taped, .int m_textEnd, .int m_faultKind, .int m_faultAt, .int m_bad, .int m_badAt, .int m_token, .int m_at, .int m_behind, .int m_number, .int m_letters, .long m_word, .ref a_c, .ref a_words, .int m_markMany, .ref a_there, .ref a_tried, .ref a_best, .ref a_found, .int n_7236, .int m_foundMany, .int m_orderHow, .int m_orderRing, .int m_orderMany, .int 1, .long v_7920, .long x_7963, .ref a_weights, .ref a_shared, .int m_random, .int m_truePlace, .int m_trueWay, .int m_seconds, .int m_done, .int m_feelings, .int m_tries, .int m_leftOver, .int m_playDoor, .int m_playRing, .int m_isOpen, .int m_isOver, .int m_wasTried, .int m_hasPlayed, .ref a_feltNow, .ref a_last, .ref a_kept, .int m_hasSeconds, .int m_hasTurned, .int m_hasRound, .ref a_hasFeels, .ref a_isOn, .int m_firstAct, .long m_meanTop, .long m_meanBy, .ref a_order, .int m_rowMany, .int m_newSteps])), (a_c, .inl (cA.1 0, 1825, .inl n_7964)), (a_there, .inl (cA.1 0, 10, .inl n_7237))]) [1, 2, 0] rfl
                            have hD := hD.sub (ws' := [(h0, .inr (12, [.int 0, .int 0, .long m_above, .long m_under, .ref a_traySort, .ref a_trayMany, .ref a_numbers, .ref a_tape, .int m_taped, .int m_textEnd, .int m_faultKind, .int m_faultAt, .int m_bad, .int m_badAt, .int m_token, .int m_at, .int m_behind, .int m_number, .int m_letters, .long m_word, .ref a_c, .ref a_words, .int m_markMany, .ref a_there, .ref a_tried, .ref a_best, .ref a_found, .int n_7236, .int m_foundMany, .int m_orderHow, .int m_orderRing, .int m_orderMany, .int 1, .long v_7920, .long x_7963, .ref a_weights, .ref a_shared, .int m_random, .int m_truePlace, .int m_trueWay, .int m_seconds, .int m_done, .int m_feelings, .int m_tries, .int m_leftOver, .int m_playDoor, .int m_playRing, .int m_isOpen, .int m_isOver, .int m_wasTried, .int m_hasPlayed, .ref a_feltNow, .ref a_last, .ref a_kept, .int m_hasSeconds, .int m_hasTurned, .int m_hasRound, .ref a_hasFeels, .ref a_isOn, .int m_firstAct, .long m_meanTop, .long m_meanBy, .ref a_order, .int m_rowMany, .int m_newSteps])), (a_c, .inl (cA.1 0, 1825, .inl n_7964)), (a_there, .inl (cA.1 0, 10, .inl n_7237))]) [1, 2, 0] (by decide) rfl
                            exact ih_7220 v_6413 x_7970 n_7236 1 v_7920 x_7963 n_7964 n_7237 H locs ls (by omega) (by omega) (by omega) hr_n_7236 (Or.inr rfl) (by decide +kernel) hC_n_7964 hC_n_7237 hs_7969 hnl (by omega) (by omega) hP hD hS (lv_sub hl [2, 3, 4, 5, 1, 0] rfl)
                          · have b_7971 := z_fneF c_7960
                            refine lv_lload hx hb dX12_newly_215 (lv_at hl 6 rfl) ?_
                            refine lv_aload_n hx hb dX12_newly_217 rfl (lv_at hl 0 rfl) ?_
                            refine va_get (D := G) (ci := 12) (v := .long v_6416) (C := RX12) (T := TX12) (N := 65) hx hb hts inT12 hown hK hP 0 rfl rfl 33 (by decide) (hts _ tw_1917) (fun _ h9 => h9) rfl dX12_newly_218 ?_
                            refine W.lcmp hx hb dX12_newly_221 ?_
                            refine lv_if_ge (tgt := 248) hx hb dX12_newly_222 (by decide) (fun c_7972 => ?_) (fun c_7972 => ?_)
                            · have b_7973 := z_fgeTl c_7972
                              refine lv_aload_n hx hb dX12_newly_248 rfl (lv_at hl 0 rfl) ?_
                              refine lv_iconst (v := 1) hx hb dX12_newly_249 (by decide) ?_
                              refine va_put (D := G) (ci := 12) (v := .int 1) (ty := .boolean) (C := RX12) (T := TX12) (N := 65) hx hb hts inT12 tyX12 tyX12_ok nmX12 hown hK hP hD hS 0 rfl rfl 32 (by decide) (hts _ tw_1916) (fun _ h9 => h9) rfl (tyX12_ok 32 (by decide)) rfl rfl (Nat.le_of_ble_eq_true rfl) dX12_newly_250 (fun H locs hP hD hS => ?_)
                              refine lv_aload_n hx hb dX12_newly_253 rfl (lv_at hl 0 rfl) ?_
                              refine lv_iload_n hx hb dX12_newly_254 rfl (lv_at hl 1 rfl) ?_
                              refine z_callVv (As := [.int k]) (rest := []) (wr := [(a_there, .inl (cA.1 0, 10, .inl n_7237))]) ⟨hx, hb, hml, hown, hts⟩ hK hE hT hP hD hS hA (r_take2 l G cA h0 0 0 m_above m_under a_traySort a_trayMany a_numbers a_tape m_taped m_textEnd m_faultKind m_faultAt m_bad m_badAt m_token m_at m_behind m_number m_letters m_word a_c a_words m_markMany a_there a_tried a_best a_found n_7236 m_foundMany m_orderHow m_orderRing m_orderMany 1 v_6416 v_6417 a_weights a_shared m_random m_truePlace m_trueWay m_seconds m_done m_feelings m_tries m_leftOver m_playDoor m_playRing m_isOpen m_isOver m_wasTried m_hasPlayed a_feltNow a_last a_kept m_hasSeconds m_hasTurned m_hasRound a_hasFeels a_isOn m_firstAct m_meanTop m_meanBy a_order m_rowMany m_newSteps n_7230 k (by omega) hC_n_7230 ⟨r.toInt, (by omega), zIn_RO hC_g_6418.1 hf_7234 (by omega) (by omega) (by rw [hlk.2.1]; omega) (by omega) (by rw [hlk.1]; omega) (by rw [hlk.1]; omega) (zLike_RO hi_7216 (by omega) (by omega) hC_g_c.1 hro)⟩) lk_RX12_312 ⟨rfl, rfl⟩ ⟨Nat.le_of_ble_eq_true rfl, Nat.le_of_ble_eq_true rfl⟩ 12 rfl rfl rfl [0, 1] [2] rfl rfl (by decide) rfl hl.1 rfl (lv_room (Nat.le_of_ble_eq_true rfl)) dX12_newly_255 ⟨Nat.le_of_ble_eq_true rfl, Nat.le_of_ble_eq_true rfl⟩ (fun u_7976 H locs hw hP hD hS => ?_)
                              obtain ⟨n_7974, rfl⟩ : ∃ z, z = u_7976 := ⟨_, rfl⟩
                              obtain ⟨hC_n_7974, hf_7977, hf_7978⟩ := hw
                              have hs_7979 : zHF g_c n_7974 := (zHF_trans hs_7235 hf_7977)
                              have hnl := zLike_trans hi_7216 (zIn_take hC_g_6418 hC_n_7230 hf_7234 (by omega) (by omega) (by rw [hlk.2.1]; omega) (by omega) (by rw [hlk.1]; omega) (by rw [hlk.1]; omega) (zLike_RO hi_7216 (by omega) (by omega) hC_g_c.1 hro) hf_7978) (by omega) (by omega) hC_g_c.1
                              obtain ⟨x_7980, he_x_7980⟩ : ∃ z : Int32, z = v_6413 + 1 := ⟨_, rfl⟩
                              have hq_x_7980 := z_addq he_x_7980 (rfl : v_6413.toInt = _) hk_1 (by omega) (by omega)
                              refine lv_iinc (v := x_7980) (lv' := [(5, .int x_7980), (0, .ref h0), (1, .int k), (2, .int r), (3, .int d), (4, .int v_6412), (6, .long v_7920), (8, .int v_7921)]) hx hb dX12_newly_258 hl (k := 5) rfl ((z_ofi (by decide +kernel)).trans he_x_7980.symm) (by decide) rfl (fun ls hl => ?_)
                              refine lv_goto (tgt := 110) hx hb dX12_newly_261 (by decide) ?_
                              have hP := hP.sub (ws' := [(h0, .inr (12, [.int 0, .int 0, .long m_above, .long m_under, .ref a_traySort, .ref a_trayMany, .ref a_numbers, .ref a_tape, .int m_taped, .int m_textEnd, .int m_faultKind, .int m_faultAt, .int m_bad, .int m_badAt, .int m_token, .int m_at, .int m_behind, .int m_number, .int m_letters, .long m_word, .ref a_c, .ref a_words, .int m_markMany, .ref a_there, .ref a_tried, .ref a_best, .ref a_found, .int n_7236, .int m_foundMany, .int m_orderHow, .int m_orderRing, .int m_orderMany, .int 1, .long v_6416, .long v_6417, .ref a_weights, .ref a_shared, .int m_random, .int m_truePlace, .int m_trueWay, .int m_seconds, .int m_done, .int m_feelings, .int m_tries, .int m_leftOver, .int m_playDoor, .int m_playRing, .int m_isOpen, .int m_isOver, .int m_wasTried, .int m_hasPlayed, .ref a_feltNow, .ref a_last, .ref a_kept, .int m_hasSeconds, .int m_hasTurned, .int m_hasRound, .ref a_hasFeels, .ref a_isOn, .int m_firstAct, .long m_meanTop, .long m_meanBy, .ref a_order, .int m_rowMany, .int m_newSteps])), (a_c, .inl (cA.1 0, 1825, .inl n_7974)), (a_there, .inl (cA.1 0, 10, .inl n_7237))]) [1, 2, 0] rfl
                              have hD := hD.sub (ws' := [(h0, .inr (12, [.int 0, .int 0, .long m_above, .long m_under, .ref a_traySort, .ref a_trayMany, .ref a_numbers, .ref a_tape, .int m_taped, .int m_textEnd, .int m_faultKind, .int m_faultAt, .int m_bad, .int m_badAt, .int m_token, .int m_at, .int m_behind, .int m_number, .int m_letters, .long m_word, .ref a_c, .ref a_words, .int m_markMany, .ref a_there, .ref a_tried, .ref a_best, .ref a_found, .int n_7236, .int m_foundMany, .int m_orderHow, .int m_orderRing, .int m_orderMany, .int 1, .long v_6416, .long v_6417, .ref a_weights, .ref a_shared, .int m_random, .int m_truePlace, .int m_trueWay, .int m_seconds, .int m_done, .int m_feelings, .int m_tries, .int m_leftOver, .int m_playDoor, .int m_playRing, .int m_isOpen, .int m_isOver, .int m_wasTried, .int m_hasPlayed, .ref a_feltNow, .ref a_last, .ref a_kept, .int m_hasSeconds, .int m_hasTurned, .int m_hasRound, .ref a_hasFeels, .ref a_isOn, .int m_firstAct, .long m_meanTop, .long m_meanBy, .ref a_order, .int m_rowMany, .int m_newSteps])), (a_c, .inl (cA.1 0, 1825, .inl n_7974)), (a_there, .inl (cA.1 0, 10, .inl n_7237))]) [1, 2, 0] (by decide) rfl
                              exact ih_7220 v_6412 x_7980 n_7236 1 v_6416 v_6417 n_7974 n_7237 H locs ls (by omega) hr_v_6412 (by omega) hr_n_7236 (Or.inr rfl) (by decide +kernel) hC_n_7974 hC_n_7237 hs_7979 hnl (by omega) (by omega) hP hD hS (lv_sub hl [1, 2, 3, 4, 5, 0] rfl)
                            · have b_7981 := z_fltFl c_7972
                              refine lv_iload hx hb dX12_newly_225 (lv_at hl 5 rfl) ?_
                              refine lv_istore (lv' := [(4, .int v_6413), (0, .ref h0), (1, .int k), (2, .int r), (3, .int d), (5, .int v_6413), (6, .long v_7920), (8, .int v_7921)]) hx hb dX12_newly_227 hl (by decide) rfl (fun ls hl => ?_)
                              refine lv_aload_n hx hb dX12_newly_229 rfl (lv_at hl 1 rfl) ?_
                              refine lv_lload hx hb dX12_newly_230 (lv_at hl 6 rfl) ?_
                              refine va_put (D := G) (ci := 12) (v := .long v_7920) (ty := .long) (C := RX12) (T := TX12) (N := 65) hx hb hts inT12 tyX12 tyX12_ok nmX12 hown hK hP hD hS 0 rfl rfl 33 (by decide) (hts _ tw_1917) (fun _ h9 => h9) rfl (tyX12_ok 33 (by decide)) rfl rfl (Nat.le_of_ble_eq_true rfl) dX12_newly_232 (fun H locs hP hD hS => ?_)
                              refine lv_aload_n hx hb dX12_newly_235 rfl (lv_at hl 1 rfl) ?_
                              refine lv_ldc2 (v := 16) hx hb hown (hts _ tw_2470) dX12_newly_236 ?_
                              refine lv_aload_n hx hb dX12_newly_239 rfl (lv_at hl 1 rfl) ?_
                              refine va_get (D := G) (ci := 12) (v := .int n_7236) (C := RX12) (T := TX12) (N := 65) hx hb hts inT12 hown hK hP 0 rfl rfl 27 (by decide) (hts _ tw_1912) (fun _ h9 => h9) rfl dX12_newly_240 ?_
                              refine lv_i2l (v := (n_7236).toInt64) hx hb dX12_newly_243 rfl ?_
                              refine lv_topl (fun x_7982 he_x_7982 => ?_)
                              have hq_x_7982 := z_i2l he_x_7982
                              refine lv_lmul hx hb dX12_newly_244 ?_
                              refine lv_topl (fun x_7983 he_x_7983 => ?_)
                              have hq_x_7983 := z_mulql he_x_7983 hkl_16 (rfl : x_7982.toInt = _) (by omega) (by omega)
                              refine va_put (D := G) (ci := 12) (v := .long x_7983) (ty := .long) (C := RX12) (T := TX12) (N := 65) hx hb hts inT12 tyX12 tyX12_ok nmX12 hown hK hP hD hS 0 rfl rfl 34 (by decide) (hts _ tw_1918) (fun _ h9 => h9) rfl (tyX12_ok 34 (by decide)) rfl rfl (Nat.le_of_ble_eq_true rfl) dX12_newly_245 (fun H locs hP hD hS => ?_)
                              refine lv_aload_n hx hb dX12_newly_248 rfl (lv_at hl 1 rfl) ?_
                              refine lv_iconst (v := 1) hx hb dX12_newly_249 (by decide) ?_
                              refine va_put (D := G) (ci := 12) (v := .int 1) (ty := .boolean) (C := RX12) (T := TX12) (N := 65) hx hb hts inT12 tyX12 tyX12_ok nmX12 hown hK hP hD hS 0 rfl rfl 32 (by decide) (hts _ tw_1916) (fun _ h9 => h9) rfl (tyX12_ok 32 (by decide)) rfl rfl (Nat.le_of_ble_eq_true rfl) dX12_newly_250 (fun H locs hP hD hS => ?_)
                              refine lv_aload_n hx hb dX12_newly_253 rfl (lv_at hl 1 rfl) ?_
                              refine lv_iload_n hx hb dX12_newly_254 rfl (lv_at hl 2 rfl) ?_
                              refine z_callVv (As := [.int k]) (rest := []) (wr := [(a_there, .inl (cA.1 0, 10, .inl n_7237))]) ⟨hx, hb, hml, hown, hts⟩ hK hE hT hP hD hS hA (r_take2 l G cA h0 0 0 m_above m_under a_traySort a_trayMany a_numbers a_tape m_taped m_textEnd m_faultKind m_faultAt m_bad m_badAt m_token m_at m_behind m_number m_letters m_word a_c a_words m_markMany a_there a_tried a_best a_found n_7236 m_foundMany m_orderHow m_orderRing m_orderMany 1 v_7920 x_7983 a_weights a_shared m_random m_truePlace m_trueWay m_seconds m_done m_feelings m_tries m_leftOver m_playDoor m_playRing m_isOpen m_isOver m_wasTried m_hasPlayed a_feltNow a_last a_kept m_hasSeconds m_hasTurned m_hasRound a_hasFeels a_isOn m_firstAct m_meanTop m_meanBy a_order m_rowMany m_newSteps n_7230 k (by omega) hC_n_7230 ⟨r.toInt, (by omega), zIn_RO hC_g_6418.1 hf_7234 (by omega) (by omega) (by rw [hlk.2.1]; omega) (by omega) (by rw [hlk.1]; omega) (by rw [hlk.1]; omega) (zLike_RO hi_7216 (by omega) (by omega) hC_g_c.1 hro)⟩) lk_RX12_312 ⟨rfl, rfl⟩ ⟨Nat.le_of_ble_eq_true rfl, Nat.le_of_ble_eq_true rfl⟩ 12 rfl rfl rfl [0, 1] [2] rfl rfl (by decide) rfl hl.1 rfl (lv_room (Nat.le_of_ble_eq_true rfl)) dX12_newly_255 ⟨Nat.le_of_ble_eq_true rfl, Nat.le_of_ble_eq_true rfl⟩ (fun u_7986 H locs hw hP hD hS => ?_)
                              obtain ⟨n_7984, rfl⟩ : ∃ z, z = u_7986 := ⟨_, rfl⟩
                              obtain ⟨hC_n_7984, hf_7987, hf_7988⟩ := hw
                              have hs_7989 : zHF g_c n_7984 := (zHF_trans hs_7235 hf_7987)
                              have hnl := zLike_trans hi_7216 (zIn_take hC_g_6418 hC_n_7230 hf_7234 (by omega) (by omega) (by rw [hlk.2.1]; omega) (by omega) (by rw [hlk.1]; omega) (by rw [hlk.1]; omega) (zLike_RO hi_7216 (by omega) (by omega) hC_g_c.1 hro) hf_7988) (by omega) (by omega) hC_g_c.1
                              obtain ⟨x_7990, he_x_7990⟩ : ∃ z : Int32, z = v_6413 + 1 := ⟨_, rfl⟩
                              have hq_x_7990 := z_addq he_x_7990 (rfl : v_6413.toInt = _) hk_1 (by omega) (by omega)
                              refine lv_iinc (v := x_7990) (lv' := [(5, .int x_7990), (4, .int v_6413), (0, .ref h0), (1, .int k), (2, .int r), (3, .int d), (6, .long v_7920), (8, .int v_7921)]) hx hb dX12_newly_258 hl (k := 5) rfl ((z_ofi (by decide +kernel)).trans he_x_7990.symm) (by decide) rfl (fun ls hl => ?_)
                              refine lv_goto (tgt := 110) hx hb dX12_newly_261 (by decide) ?_
                              have hP := hP.sub (ws' := [(h0, .inr (12, [.int 0, .int 0, .long m_above, .long m_under, .ref a_traySort, .ref a_trayMany, .ref a_numbers, .ref a_tape, .int m_taped, .int m_textEnd, .int m_faultKind, .int m_faultAt, .int m_bad, .int m_badAt, .int m_token, .int m_at, .int m_behind, .int m_number, .int m_letters, .long m_word, .ref a_c, .ref a_words, .int m_markMany, .ref a_there, .ref a_tried, .ref a_best, .ref a_found, .int n_7236, .int m_foundMany, .int m_orderHow, .int m_orderRing, .int m_orderMany, .int 1, .long v_7920, .long x_7983, .ref a_weights, .ref a_shared, .int m_random, .int m_truePlace, .int m_trueWay, .int m_seconds, .int m_done, .int m_feelings, .int m_tries, .int m_leftOver, .int m_playDoor, .int m_playRing, .int m_isOpen, .int m_isOver, .int m_wasTried, .int m_hasPlayed, .ref a_feltNow, .ref a_last, .ref a_kept, .int m_hasSeconds, .int m_hasTurned, .int m_hasRound, .ref a_hasFeels, .ref a_isOn, .int m_firstAct, .long m_meanTop, .long m_meanBy, .ref a_order, .int m_rowMany, .int m_newSteps])), (a_c, .inl (cA.1 0, 1825, .inl n_7984)), (a_there, .inl (cA.1 0, 10, .inl n_7237))]) [1, 2, 0] rfl
                              have hD := hD.sub (ws' := [(h0, .inr (12, [.int 0, .int 0, .long m_above, .long m_under, .ref a_traySort, .ref a_trayMany, .ref a_numbers, .ref a_tape, .int m_taped, .int m_textEnd, .int m_faultKind, .int m_faultAt, .int m_bad, .int m_badAt, .int m_token, .int m_at, .int m_behind, .int m_number, .int m_letters, .long m_word, .ref a_c, .ref a_words, .int m_markMany, .ref a_there, .ref a_tried, .ref a_best, .ref a_found, .int n_7236, .int m_foundMany, .int m_orderHow, .int m_orderRing, .int m_orderMany, .int 1, .long v_7920, .long x_7983, .ref a_weights, .ref a_shared, .int m_random, .int m_truePlace, .int m_trueWay, .int m_seconds, .int m_done, .int m_feelings, .int m_tries, .int m_leftOver, .int m_playDoor, .int m_playRing, .int m_isOpen, .int m_isOver, .int m_wasTried, .int m_hasPlayed, .ref a_feltNow, .ref a_last, .ref a_kept, .int m_hasSeconds, .int m_hasTurned, .int m_hasRound, .ref a_hasFeels, .ref a_isOn, .int m_firstAct, .long m_meanTop, .long m_meanBy, .ref a_order, .int m_rowMany, .int m_newSteps])), (a_c, .inl (cA.1 0, 1825, .inl n_7984)), (a_there, .inl (cA.1 0, 10, .inl n_7237))]) [1, 2, 0] (by decide) rfl
                              exact ih_7220 v_6413 x_7990 n_7236 1 v_7920 x_7983 n_7984 n_7237 H locs ls (by omega) (by omega) (by omega) hr_n_7236 (Or.inr rfl) (by decide +kernel) hC_n_7984 hC_n_7237 hs_7989 hnl (by omega) (by omega) hP hD hS (lv_sub hl [2, 3, 4, 5, 1, 0] rfl)
                        · have b_7991 := z_fltF c_7958
                          refine lv_lload hx hb dX12_newly_154 (lv_at hl 6 rfl) ?_
                          refine lv_iload hx hb dX12_newly_156 (lv_at hl 7 rfl) ?_
                          refine lv_iconst (v := 2) hx hb dX12_newly_158 (by decide) ?_
                          refine lv_irem hx hb dX12_newly_159 (by decide +kernel) ?_
                          refine lv_topi (fun x_7992 he_x_7992 => ?_)
                          have hq_x_7992 := z_remq he_x_7992 (rfl : v_7921.toInt = _) hk_2 (by omega) (by decide)
                          refine lv_if_ne (tgt := 176) hx hb dX12_newly_160 (by decide) (fun c_7993 => ?_) (fun c_7993 => ?_)
                          · have b_7994 := z_fneT c_7993
                            refine lv_aload_n hx hb dX12_newly_176 rfl (lv_at hl 0 rfl) ?_
                            refine va_get (D := G) (ci := 12) (v := .ref a_c) (C := RX12) (T := TX12) (N := 65) hx hb hts inT12 hown hK hP 0 rfl rfl 20 (by decide) (hts _ tw_1905) (fun _ h9 => h9) rfl dX12_newly_177 ?_
                            refine lv_bipush (v := 9) hx hb dX12_newly_180 (by decide) ?_
                            refine va_iald hx hb hK hP 1 0 rfl rfl (z_in (i := 9) (n := 1825) (by decide +kernel) (by decide +kernel)) dX12_newly_182 ?_
                            refine lv_topi (fun x_7995 he_x_7995 => ?_)
                            refine lv_i2l (v := (x_7995).toInt64) hx hb dX12_newly_183 rfl ?_
                            refine lv_topl (fun x_7996 he_x_7996 => ?_)
                            have hq_x_7996 := z_i2l he_x_7996
                            have hL_x_7995 := z_full x_7995
                            refine lv_aload_n hx hb dX12_newly_184 rfl (lv_at hl 0 rfl) ?_
                            refine lv_iload_n hx hb dX12_newly_185 rfl (lv_at hl 3 rfl) ?_
                            refine lv_iload hx hb dX12_newly_186 (lv_at hl 7 rfl) ?_
                            refine lv_iconst (v := 2) hx hb dX12_newly_188 (by decide) ?_
                            refine lv_idiv hx hb dX12_newly_189 (by decide +kernel) ?_
                            refine lv_topi (fun x_7997 he_x_7997 => ?_)
                            have hq_x_7997 := z_divq he_x_7997 (rfl : v_7921.toInt = _) hk_2 (by omega) (by decide)
                            refine lv_iload hx hb dX12_newly_190 (lv_at hl 7 rfl) ?_
                            refine lv_iconst (v := 2) hx hb dX12_newly_192 (by decide) ?_
                            refine lv_irem hx hb dX12_newly_193 (by decide +kernel) ?_
                            refine lv_topi (fun x_7998 he_x_7998 => ?_)
                            have hq_x_7998 := z_remq he_x_7998 (rfl : v_7921.toInt = _) hk_2 (by omega) (by decide)
                            refine z_callVi (As := [.int d, .int x_7997, .int x_7998]) (rest := [.long x_7996, .long v_7920]) (wr := []) ⟨hx, hb, hml, hown, hts⟩ hK hE hT hP hD hS hA (r_search l G cA h0 0 0 m_above m_under a_traySort a_trayMany a_numbers a_tape m_taped m_textEnd m_faultKind m_faultAt m_bad m_badAt m_token m_at m_behind m_number m_letters m_word a_c a_words m_markMany a_there a_tried a_best a_found n_7236 m_foundMany m_orderHow m_orderRing m_orderMany v_6415 v_6416 v_6417 a_weights a_shared m_random m_truePlace m_trueWay m_seconds m_done m_feelings m_tries m_leftOver m_playDoor m_playRing m_isOpen m_isOver m_wasTried m_hasPlayed a_feltNow a_last a_kept m_hasSeconds m_hasTurned m_hasRound a_hasFeels a_isOn m_firstAct m_meanTop m_meanBy a_order m_rowMany m_newSteps n_7230 n_7237 d x_7997 x_7998 (by omega) (by omega) (by omega) hr_n_7236 hC_n_7230 hC_n_7237 (by omega)) lk_RX12_387 ⟨rfl, rfl⟩ ⟨Nat.le_of_ble_eq_true rfl, Nat.le_of_ble_eq_true rfl⟩ 12 rfl rfl rfl [0, 1, 2] [] rfl rfl (by decide) rfl hl.1 rfl (lv_room (Nat.le_of_ble_eq_true rfl)) dX12_newly_194 ⟨Nat.le_of_ble_eq_true rfl, Nat.le_of_ble_eq_true rfl⟩ (fun r_7999 u_8000 H locs hw hP hD hS => ?_)
                            obtain ⟨hr_r_7999, hf_8001, hf_8002⟩ := hw
                            refine lv_i2l (v := (r_7999).toInt64) hx hb dX12_newly_197 rfl ?_
                            refine lv_topl (fun x_8003 he_x_8003 => ?_)
                            have hq_x_8003 := z_i2l he_x_8003
                            refine lv_lmul hx hb dX12_newly_198 ?_
                            refine lv_topl (fun x_8004 he_x_8004 => ?_)
                            refine lv_ladd hx hb dX12_newly_199 ?_
                            have hL_v_7920 := z_fulll v_7920
                            have hL_x_8004 := z_fulll x_8004
                            refine lv_topl (fun x_8005 he_x_8005 => ?_)
                            refine lv_lstore (lv' := [(6, .long x_8005), (0, .ref h0), (1, .int k), (2, .int r), (3, .int d), (4, .int v_6412), (5, .int v_6413), (8, .int v_7921)]) hx hb dX12_newly_200 hl (by decide) rfl (fun ls hl => ?_)
                            obtain ⟨x_8006, he_x_8006⟩ : ∃ z : Int32, z = v_7921 + 1 := ⟨_, rfl⟩
                            have hq_x_8006 := z_addq he_x_8006 (rfl : v_7921.toInt = _) hk_1 (by omega) (by omega)
                            refine lv_iinc (v := x_8006) (lv' := [(8, .int x_8006), (6, .long x_8005), (0, .ref h0), (1, .int k), (2, .int r), (3, .int d), (4, .int v_6412), (5, .int v_6413)]) hx hb dX12_newly_202 hl (k := 7) rfl ((z_ofi (by decide +kernel)).trans he_x_8006.symm) (by decide) rfl (fun ls hl => ?_)
                            refine lv_goto (tgt := 143) hx hb dX12_newly_205 (by decide) ?_
                            exact ih_7956 x_8005 x_8006 H locs ls (by omega) (by omega) hP hD hS (lv_sub hl [2, 3, 4, 5, 6, 7, 1, 0] rfl)
                          · have b_8007 := z_feqF c_7993
                            refine lv_bipush (v := 16) hx hb dX12_newly_163 (by decide) ?_
                            refine lv_aload_n hx hb dX12_newly_165 rfl (lv_at hl 0 rfl) ?_
                            refine va_get (D := G) (ci := 12) (v := .ref a_c) (C := RX12) (T := TX12) (N := 65) hx hb hts inT12 hown hK hP 0 rfl rfl 20 (by decide) (hts _ tw_1905) (fun _ h9 => h9) rfl dX12_newly_166 ?_
                            refine lv_bipush (v := 9) hx hb dX12_newly_169 (by decide) ?_
                            refine va_iald hx hb hK hP 1 0 rfl rfl (z_in (i := 9) (n := 1825) (by decide +kernel) (by decide +kernel)) dX12_newly_171 ?_
                            refine lv_topi (fun x_8008 he_x_8008 => ?_)
                            refine lv_isub hx hb dX12_newly_172 ?_
                            have hL_x_8008 := z_full x_8008
                            refine lv_topi (fun x_8009 he_x_8009 => ?_)
                            refine lv_goto (tgt := 183) hx hb dX12_newly_173 (by decide) ?_
                            refine lv_i2l (v := (x_8009).toInt64) hx hb dX12_newly_183 rfl ?_
                            refine lv_topl (fun x_8010 he_x_8010 => ?_)
                            have hq_x_8010 := z_i2l he_x_8010
                            have hL_x_8009 := z_full x_8009
                            refine lv_aload_n hx hb dX12_newly_184 rfl (lv_at hl 0 rfl) ?_
                            refine lv_iload_n hx hb dX12_newly_185 rfl (lv_at hl 3 rfl) ?_
                            refine lv_iload hx hb dX12_newly_186 (lv_at hl 7 rfl) ?_
                            refine lv_iconst (v := 2) hx hb dX12_newly_188 (by decide) ?_
                            refine lv_idiv hx hb dX12_newly_189 (by decide +kernel) ?_
                            refine lv_topi (fun x_8011 he_x_8011 => ?_)
                            have hq_x_8011 := z_divq he_x_8011 (rfl : v_7921.toInt = _) hk_2 (by omega) (by decide)
                            refine lv_iload hx hb dX12_newly_190 (lv_at hl 7 rfl) ?_
                            refine lv_iconst (v := 2) hx hb dX12_newly_192 (by decide) ?_
                            refine lv_irem hx hb dX12_newly_193 (by decide +kernel) ?_
                            refine lv_topi (fun x_8012 he_x_8012 => ?_)
                            have hq_x_8012 := z_remq he_x_8012 (rfl : v_7921.toInt = _) hk_2 (by omega) (by decide)
                            refine z_callVi (As := [.int d, .int x_8011, .int x_8012]) (rest := [.long x_8010, .long v_7920]) (wr := []) ⟨hx, hb, hml, hown, hts⟩ hK hE hT hP hD hS hA (r_search l G cA h0 0 0 m_above m_under a_traySort a_trayMany a_numbers a_tape m_taped m_textEnd m_faultKind m_faultAt m_bad m_badAt m_token m_at m_behind m_number m_letters m_word a_c a_words m_markMany a_there a_tried a_best a_found n_7236 m_foundMany m_orderHow m_orderRing m_orderMany v_6415 v_6416 v_6417 a_weights a_shared m_random m_truePlace m_trueWay m_seconds m_done m_feelings m_tries m_leftOver m_playDoor m_playRing m_isOpen m_isOver m_wasTried m_hasPlayed a_feltNow a_last a_kept m_hasSeconds m_hasTurned m_hasRound a_hasFeels a_isOn m_firstAct m_meanTop m_meanBy a_order m_rowMany m_newSteps n_7230 n_7237 d x_8011 x_8012 (by omega) (by omega) (by omega) hr_n_7236 hC_n_7230 hC_n_7237 (by omega)) lk_RX12_387 ⟨rfl, rfl⟩ ⟨Nat.le_of_ble_eq_true rfl, Nat.le_of_ble_eq_true rfl⟩ 12 rfl rfl rfl [0, 1, 2] [] rfl rfl (by decide) rfl hl.1 rfl (lv_room (Nat.le_of_ble_eq_true rfl)) dX12_newly_194 ⟨Nat.le_of_ble_eq_true rfl, Nat.le_of_ble_eq_true rfl⟩ (fun r_8013 u_8014 H locs hw hP hD hS => ?_)
                            obtain ⟨hr_r_8013, hf_8015, hf_8016⟩ := hw
                            refine lv_i2l (v := (r_8013).toInt64) hx hb dX12_newly_197 rfl ?_
                            refine lv_topl (fun x_8017 he_x_8017 => ?_)
                            have hq_x_8017 := z_i2l he_x_8017
                            refine lv_lmul hx hb dX12_newly_198 ?_
                            refine lv_topl (fun x_8018 he_x_8018 => ?_)
                            refine lv_ladd hx hb dX12_newly_199 ?_
                            have hL_v_7920 := z_fulll v_7920
                            have hL_x_8018 := z_fulll x_8018
                            refine lv_topl (fun x_8019 he_x_8019 => ?_)
                            refine lv_lstore (lv' := [(6, .long x_8019), (0, .ref h0), (1, .int k), (2, .int r), (3, .int d), (4, .int v_6412), (5, .int v_6413), (8, .int v_7921)]) hx hb dX12_newly_200 hl (by decide) rfl (fun ls hl => ?_)
                            obtain ⟨x_8020, he_x_8020⟩ : ∃ z : Int32, z = v_7921 + 1 := ⟨_, rfl⟩
                            have hq_x_8020 := z_addq he_x_8020 (rfl : v_7921.toInt = _) hk_1 (by omega) (by omega)
                            refine lv_iinc (v := x_8020) (lv' := [(8, .int x_8020), (6, .long x_8019), (0, .ref h0), (1, .int k), (2, .int r), (3, .int d), (4, .int v_6412), (5, .int v_6413)]) hx hb dX12_newly_202 hl (k := 7) rfl ((z_ofi (by decide +kernel)).trans he_x_8020.symm) (by decide) rfl (fun ls hl => ?_)
                            refine lv_goto (tgt := 143) hx hb dX12_newly_205 (by decide) ?_
                            exact ih_7956 x_8019 x_8020 H locs ls (by omega) (by omega) hP hD hS (lv_sub hl [2, 3, 4, 5, 6, 7, 1, 0] rfl)
                    exact hlp_7955 _ 0 0 _ _ _ (Nat.lt_succ_self _) (by decide +kernel) hP hD hS (lv_sub hl [2, 3, 4, 5, 6, 7, 1, 0] rfl)
              exact hlp_7219 _ 0 0 n_36 0 m_bestTop m_bestBy g_c n_37 _ _ _ (Nat.lt_succ_self _) (by decide +kernel) (by decide +kernel) hr_n_36 (Or.inl rfl) (by decide +kernel) hC_g_c hC_n_37 (zHF_refl g_c) (zLike_refl _) (by omega) (by omega) hP hD hS (lv_sub hl [2, 3, 4, 5, 1, 0] rfl)
          · have b_8021 := z_feqF c_34
            refine lv_aload_n hx hb dX12_newly_63 rfl (lv_at hl 0 rfl) ?_
            refine lv_bipush (v := 9) hx hb dX12_newly_64 (by decide) ?_
            refine z_callVi (As := [.int 9]) (rest := []) (wr := [(a_there, .inl (cA.1 0, 10, .inl g_there)), (a_c, .inl (cA.1 0, 1825, .inl g_c))]) ⟨hx, hb, hml, hown, hts⟩ hK hE hT hP hD hS hA (r_refuse l G cA h0 0 0 m_above m_under a_traySort a_trayMany a_numbers a_tape m_taped m_textEnd m_faultKind m_faultAt m_bad m_badAt m_token m_at m_behind m_number m_letters m_word a_c a_words m_markMany a_there a_tried a_best a_found m_thereMany m_foundMany m_orderHow m_orderRing m_orderMany m_hasBest m_bestTop m_bestBy a_weights a_shared m_random m_truePlace m_trueWay m_seconds m_done m_feelings m_tries m_leftOver m_playDoor m_playRing m_isOpen m_isOver m_wasTried m_hasPlayed a_feltNow a_last a_kept m_hasSeconds m_hasTurned m_hasRound a_hasFeels a_isOn m_firstAct m_meanTop m_meanBy a_order m_rowMany m_newSteps 9) lk_RX12_269 ⟨rfl, rfl⟩ ⟨Nat.le_of_ble_eq_true rfl, Nat.le_of_ble_eq_true rfl⟩ 12 rfl rfl rfl [1] [0, 2] rfl rfl (by decide) rfl hl.1 rfl (lv_room (Nat.le_of_ble_eq_true rfl)) dX12_newly_66 ⟨Nat.le_of_ble_eq_true rfl, Nat.le_of_ble_eq_true rfl⟩ (fun r_8023 u_8024 H locs hw hP hD hS => ?_)
            obtain ⟨n_8022, rfl⟩ : ∃ z, z = u_8024 := ⟨_, rfl⟩
            obtain ⟨he_r_8023, he_n_8022, hw⟩ := hw
            have hr_r_8023 := hw
            have hpost : ((-1) ≤ r_8023.toInt ∧ r_8023.toInt ≤ 9) ∧ (0 ≤ (0 : Int32).toInt ∧ (0 : Int32).toInt ≤ 0) ∧ (0 ≤ m_thereMany.toInt ∧ m_thereMany.toInt ≤ 10) ∧ (zRg 10 0 9 g_there) ∧ (m_hasBest = 0 ∨ m_hasBest = 1) ∧ (0 ≤ m_hasBest.toInt ∧ m_hasBest.toInt ≤ 1) ∧ (zC g_c) ∧ (zHF g_c g_c) := ⟨(z_rgw hr_r_8023 (by decide) (by decide)), (by decide +kernel), hr_m_thereMany, hC_g_there, hz_m_hasBest, hr_m_hasBest, hC_g_c, (zHF_refl g_c)⟩
            exact hret _ _ _ _ _ _ (n_8022, 0, m_thereMany, g_there, m_above, m_under, m_hasBest, m_bestTop, m_bestBy, g_c) [2, 1, 0] hP hD hS rfl (by decide) dX12_newly_69 hpost
