set_option maxHeartbeats 4000000 in
set_option maxRecDepth 100000 in
theorem r_searched (l : Launch) (G : va_G) (cA : zCA) (h0 : Nat) (m_status : Int32) (m_thrown : Int32) (m_above : Int64) (m_under : Int64) (a_traySort : Nat) (a_trayMany : Nat) (a_numbers : Nat) (a_tape : Nat) (m_taped : Int32) (m_textEnd : Int32) (m_faultKind : Int32) (m_faultAt : Int32) (m_bad : Int32) (m_badAt : Int32) (m_token : Int32) (m_at : Int32) (m_behind : Int32) (m_number : Int32) (m_letters : Int32) (m_word : Int64) (a_c : Nat) (a_words : Nat) (m_markMany : Int32) (a_there : Nat) (a_tried : Nat) (a_best : Nat) (a_found : Nat) (m_thereMany : Int32) (m_foundMany : Int32) (m_orderHow : Int32) (m_orderRing : Int32) (m_orderMany : Int32) (m_hasBest : Int32) (m_bestTop : Int64) (m_bestBy : Int64) (a_weights : Nat) (a_shared : Nat) (m_random : Int32) (m_truePlace : Int32) (m_trueWay : Int32) (m_seconds : Int32) (m_done : Int32) (m_feelings : Int32) (m_tries : Int32) (m_leftOver : Int32) (m_playDoor : Int32) (m_playRing : Int32) (m_isOpen : Int32) (m_isOver : Int32) (m_wasTried : Int32) (m_hasPlayed : Int32) (a_feltNow : Nat) (a_last : Nat) (a_kept : Nat) (m_hasSeconds : Int32) (m_hasTurned : Int32) (m_hasRound : Int32) (a_hasFeels : Nat) (a_isOn : Nat) (m_firstAct : Int32) (m_meanTop : Int64) (m_meanBy : Int64) (a_order : Nat) (m_rowMany : Int32) (m_newSteps : Int32) (g_c : Nat → Int32) (g_there : Nat → Int32) (r : Int32) (d : Int32) (pp : Int32) (w : Int32) (hr_m_thereMany : 0 ≤ m_thereMany.toInt ∧ m_thereMany.toInt ≤ 10) (hC_g_c : zC g_c) (hC_g_there : zRg 10 0 9 g_there) : zCi l yX12_searched cX12_searched 6 (some .int) ({ frames := 2, cells := 0, slots := 0, locals := 48 }) G cA [.ref h0, .int r, .int d, .int pp, .int w] [(h0, .inr (12, [.int m_status, .int m_thrown, .long m_above, .long m_under, .ref a_traySort, .ref a_trayMany, .ref a_numbers, .ref a_tape, .int m_taped, .int m_textEnd, .int m_faultKind, .int m_faultAt, .int m_bad, .int m_badAt, .int m_token, .int m_at, .int m_behind, .int m_number, .int m_letters, .long m_word, .ref a_c, .ref a_words, .int m_markMany, .ref a_there, .ref a_tried, .ref a_best, .ref a_found, .int m_thereMany, .int m_foundMany, .int m_orderHow, .int m_orderRing, .int m_orderMany, .int m_hasBest, .long m_bestTop, .long m_bestBy, .ref a_weights, .ref a_shared, .int m_random, .int m_truePlace, .int m_trueWay, .int m_seconds, .int m_done, .int m_feelings, .int m_tries, .int m_leftOver, .int m_playDoor, .int m_playRing, .int m_isOpen, .int m_isOver, .int m_wasTried, .int m_hasPlayed, .ref a_feltNow, .ref a_last, .ref a_kept, .int m_hasSeconds, .int m_hasTurned, .int m_hasRound, .ref a_hasFeels, .ref a_isOn, .int m_firstAct, .long m_meanTop, .long m_meanBy, .ref a_order, .int m_rowMany, .int m_newSteps])), (a_c, .inl (cA.1 0, 1825, .inl g_c)), (a_there, .inl (cA.1 0, 10, .inl g_there))] (S := Int32 × Int32 × Int32 × (Nat → Int32)) (fun (r : Int32) (u : Int32 × Int32 × Int32 × (Nat → Int32)) => ((-1) ≤ r.toInt ∧ r.toInt ≤ 2178) ∧ (0 ≤ u.2.1.toInt ∧ u.2.1.toInt ≤ 0) ∧ (0 ≤ u.2.2.1.toInt ∧ u.2.2.1.toInt ≤ 10) ∧ (zRg 10 0 9 u.2.2.2)) (fun (u : Int32 × Int32 × Int32 × (Nat → Int32)) => [(h0, .inr (12, [.int u.1, .int u.2.1, .long m_above, .long m_under, .ref a_traySort, .ref a_trayMany, .ref a_numbers, .ref a_tape, .int m_taped, .int m_textEnd, .int m_faultKind, .int m_faultAt, .int m_bad, .int m_badAt, .int m_token, .int m_at, .int m_behind, .int m_number, .int m_letters, .long m_word, .ref a_c, .ref a_words, .int m_markMany, .ref a_there, .ref a_tried, .ref a_best, .ref a_found, .int u.2.2.1, .int m_foundMany, .int m_orderHow, .int m_orderRing, .int m_orderMany, .int m_hasBest, .long m_bestTop, .long m_bestBy, .ref a_weights, .ref a_shared, .int m_random, .int m_truePlace, .int m_trueWay, .int m_seconds, .int m_done, .int m_feelings, .int m_tries, .int m_leftOver, .int m_playDoor, .int m_playRing, .int m_isOpen, .int m_isOver, .int m_wasTried, .int m_hasPlayed, .ref a_feltNow, .ref a_last, .ref a_kept, .int m_hasSeconds, .int m_hasTurned, .int m_hasRound, .ref a_hasFeels, .ref a_isOn, .int m_firstAct, .long m_meanTop, .long m_meanBy, .ref a_order, .int m_rowMany, .int m_newSteps])), (a_c, .inl (cA.1 0, 1825, .inl g_c)), (a_there, .inl (cA.1 0, 10, .inl u.2.2.2))]) 0 0 := by
  have hk_0 : (0 : Int32).toInt = 0 := by decide +kernel
  have hk_1 : (1 : Int32).toInt = 1 := by decide +kernel
  have hk_2 : (2 : Int32).toInt = 2 := by decide +kernel
  have hk_5 : (5 : Int32).toInt = 5 := by decide +kernel
  have hk_8 : (8 : Int32).toInt = 8 := by decide +kernel
  have hkl_0 : (0 : Int64).toInt = 0 := by decide +kernel
  have hkl_1 : (1 : Int64).toInt = 1 := by decide +kernel
  refine z_start2i (own := RX12) (by decide) (Nat.le_of_ble_eq_true rfl) rfl ?_
  intro p e s m args below meth c A ls Q hx hb hml hts hown hK hE hT hP hD hS hA hl hret
  have hl : lv_has ls 6 [(0, .ref h0), (1, .int r), (2, .int d), (3, .int pp), (4, .int w)] := hl
  refine lv_aload_n hx hb dX12_searched_0 rfl (lv_at hl 0 rfl) ?_
  refine lv_iconst (v := 0) hx hb dX12_searched_1 (by decide) ?_
  refine va_put (D := G) (ci := 12) (v := .int 0) (ty := .int) (C := RX12) (T := TX12) (N := 65) hx hb hts inT12 tyX12 tyX12_ok nmX12 hown hK hP hD hS 0 rfl rfl 1 (by decide) (hts _ tw_1886) (fun _ h9 => h9) rfl (tyX12_ok 1 (by decide)) rfl rfl (Nat.le_of_ble_eq_true rfl) dX12_searched_2 (fun H locs hP hD hS => ?_)
  refine lv_aload_n hx hb dX12_searched_5 rfl (lv_at hl 0 rfl) ?_
  refine lv_iconst (v := 0) hx hb dX12_searched_6 (by decide) ?_
  refine va_put (D := G) (ci := 12) (v := .int 0) (ty := .int) (C := RX12) (T := TX12) (N := 65) hx hb hts inT12 tyX12 tyX12_ok nmX12 hown hK hP hD hS 0 rfl rfl 0 (by decide) (hts _ tw_1885) (fun _ h9 => h9) rfl (tyX12_ok 0 (by decide)) rfl rfl (Nat.le_of_ble_eq_true rfl) dX12_searched_7 (fun H locs hP hD hS => ?_)
  refine lv_aload_n hx hb dX12_searched_10 rfl (lv_at hl 0 rfl) ?_
  refine lv_iload_n hx hb dX12_searched_11 rfl (lv_at hl 1 rfl) ?_
  refine z_callVi (As := [.int r]) (rest := []) (wr := [(a_there, .inl (cA.1 0, 10, .inl g_there))]) ⟨hx, hb, hml, hown, hts⟩ hK hE hT hP hD hS hA (r_isRing l G cA h0 0 0 m_above m_under a_traySort a_trayMany a_numbers a_tape m_taped m_textEnd m_faultKind m_faultAt m_bad m_badAt m_token m_at m_behind m_number m_letters m_word a_c a_words m_markMany a_there a_tried a_best a_found m_thereMany m_foundMany m_orderHow m_orderRing m_orderMany m_hasBest m_bestTop m_bestBy a_weights a_shared m_random m_truePlace m_trueWay m_seconds m_done m_feelings m_tries m_leftOver m_playDoor m_playRing m_isOpen m_isOver m_wasTried m_hasPlayed a_feltNow a_last a_kept m_hasSeconds m_hasTurned m_hasRound a_hasFeels a_isOn m_firstAct m_meanTop m_meanBy a_order m_rowMany m_newSteps g_c r hC_g_c) lk_RX12_289 ⟨rfl, rfl⟩ ⟨Nat.le_of_ble_eq_true rfl, Nat.le_of_ble_eq_true rfl⟩ 12 rfl rfl rfl [0, 1] [2] rfl rfl (by decide) rfl hl.1 rfl (lv_room (Nat.le_of_ble_eq_true rfl)) dX12_searched_12 ⟨Nat.le_of_ble_eq_true rfl, Nat.le_of_ble_eq_true rfl⟩ (fun r_1 u_2 H locs hw hP hD hS => ?_)
  obtain ⟨he_r_1, hw⟩ := hw
  rcases hw with ⟨rfl, -⟩ | ⟨rfl, hf_3, hf_4⟩
  · skip
    refine lv_if_eq (tgt := 26) hx hb dX12_searched_15 (by decide) (fun _ => ?_) (fun h9 => absurd (by decide +kernel) h9)
    refine lv_aload_n hx hb dX12_searched_26 rfl (lv_at hl 0 rfl) ?_
    refine lv_iconst (v := 2) hx hb dX12_searched_27 (by decide) ?_
    refine z_callVi (As := [.int 2]) (rest := []) (wr := [(a_there, .inl (cA.1 0, 10, .inl g_there)), (a_c, .inl (cA.1 0, 1825, .inl g_c))]) ⟨hx, hb, hml, hown, hts⟩ hK hE hT hP hD hS hA (r_refuse l G cA h0 0 0 m_above m_under a_traySort a_trayMany a_numbers a_tape m_taped m_textEnd m_faultKind m_faultAt m_bad m_badAt m_token m_at m_behind m_number m_letters m_word a_c a_words m_markMany a_there a_tried a_best a_found m_thereMany m_foundMany m_orderHow m_orderRing m_orderMany m_hasBest m_bestTop m_bestBy a_weights a_shared m_random m_truePlace m_trueWay m_seconds m_done m_feelings m_tries m_leftOver m_playDoor m_playRing m_isOpen m_isOver m_wasTried m_hasPlayed a_feltNow a_last a_kept m_hasSeconds m_hasTurned m_hasRound a_hasFeels a_isOn m_firstAct m_meanTop m_meanBy a_order m_rowMany m_newSteps 2) lk_RX12_269 ⟨rfl, rfl⟩ ⟨Nat.le_of_ble_eq_true rfl, Nat.le_of_ble_eq_true rfl⟩ 12 rfl rfl rfl [1] [0, 2] rfl rfl (by decide) rfl hl.1 rfl (lv_room (Nat.le_of_ble_eq_true rfl)) dX12_searched_28 ⟨Nat.le_of_ble_eq_true rfl, Nat.le_of_ble_eq_true rfl⟩ (fun r_6 u_7 H locs hw hP hD hS => ?_)
    obtain ⟨n_5, rfl⟩ : ∃ z, z = u_7 := ⟨_, rfl⟩
    obtain ⟨he_r_6, he_n_5, hw⟩ := hw
    have hr_r_6 := hw
    have hpost : ((-1) ≤ r_6.toInt ∧ r_6.toInt ≤ 2178) ∧ (0 ≤ (0 : Int32).toInt ∧ (0 : Int32).toInt ≤ 0) ∧ (0 ≤ m_thereMany.toInt ∧ m_thereMany.toInt ≤ 10) ∧ (zRg 10 0 9 g_there) := ⟨(z_rgw hr_r_6 (by decide) (by decide)), (by decide +kernel), hr_m_thereMany, hC_g_there⟩
    exact hret _ _ _ _ _ _ (n_5, 0, m_thereMany, g_there) [2, 1, 0] hP hD hS rfl (by decide) dX12_searched_31 hpost
  · skip
    refine lv_if_eq (tgt := 26) hx hb dX12_searched_15 (by decide) (fun h9 => absurd h9 (by decide +kernel)) (fun _ => ?_)
    refine lv_aload_n hx hb dX12_searched_18 rfl (lv_at hl 0 rfl) ?_
    refine lv_iload_n hx hb dX12_searched_19 rfl (lv_at hl 2 rfl) ?_
    refine z_callVi (As := [.int d]) (rest := []) (wr := [(a_there, .inl (cA.1 0, 10, .inl g_there))]) ⟨hx, hb, hml, hown, hts⟩ hK hE hT hP hD hS hA (r_isDoor l G cA h0 0 0 m_above m_under a_traySort a_trayMany a_numbers a_tape m_taped m_textEnd m_faultKind m_faultAt m_bad m_badAt m_token m_at m_behind m_number m_letters m_word a_c a_words m_markMany a_there a_tried a_best a_found m_thereMany m_foundMany m_orderHow m_orderRing m_orderMany m_hasBest m_bestTop m_bestBy a_weights a_shared m_random m_truePlace m_trueWay m_seconds m_done m_feelings m_tries m_leftOver m_playDoor m_playRing m_isOpen m_isOver m_wasTried m_hasPlayed a_feltNow a_last a_kept m_hasSeconds m_hasTurned m_hasRound a_hasFeels a_isOn m_firstAct m_meanTop m_meanBy a_order m_rowMany m_newSteps g_c d hC_g_c) lk_RX12_295 ⟨rfl, rfl⟩ ⟨Nat.le_of_ble_eq_true rfl, Nat.le_of_ble_eq_true rfl⟩ 12 rfl rfl rfl [1, 2] [0] rfl rfl (by decide) rfl hl.1 rfl (lv_room (Nat.le_of_ble_eq_true rfl)) dX12_searched_20 ⟨Nat.le_of_ble_eq_true rfl, Nat.le_of_ble_eq_true rfl⟩ (fun r_8 u_9 H locs hw hP hD hS => ?_)
    obtain ⟨he_r_8, hw⟩ := hw
    rcases hw with ⟨rfl, -⟩ | ⟨rfl, hf_10, hf_11⟩
    · skip
      refine lv_if_ne (tgt := 32) hx hb dX12_searched_23 (by decide) (fun h9 => absurd (by decide +kernel) h9) (fun _ => ?_)
      refine lv_aload_n hx hb dX12_searched_26 rfl (lv_at hl 0 rfl) ?_
      refine lv_iconst (v := 2) hx hb dX12_searched_27 (by decide) ?_
      refine z_callVi (As := [.int 2]) (rest := []) (wr := [(a_there, .inl (cA.1 0, 10, .inl g_there)), (a_c, .inl (cA.1 0, 1825, .inl g_c))]) ⟨hx, hb, hml, hown, hts⟩ hK hE hT hP hD hS hA (r_refuse l G cA h0 0 0 m_above m_under a_traySort a_trayMany a_numbers a_tape m_taped m_textEnd m_faultKind m_faultAt m_bad m_badAt m_token m_at m_behind m_number m_letters m_word a_c a_words m_markMany a_there a_tried a_best a_found m_thereMany m_foundMany m_orderHow m_orderRing m_orderMany m_hasBest m_bestTop m_bestBy a_weights a_shared m_random m_truePlace m_trueWay m_seconds m_done m_feelings m_tries m_leftOver m_playDoor m_playRing m_isOpen m_isOver m_wasTried m_hasPlayed a_feltNow a_last a_kept m_hasSeconds m_hasTurned m_hasRound a_hasFeels a_isOn m_firstAct m_meanTop m_meanBy a_order m_rowMany m_newSteps 2) lk_RX12_269 ⟨rfl, rfl⟩ ⟨Nat.le_of_ble_eq_true rfl, Nat.le_of_ble_eq_true rfl⟩ 12 rfl rfl rfl [1] [0, 2] rfl rfl (by decide) rfl hl.1 rfl (lv_room (Nat.le_of_ble_eq_true rfl)) dX12_searched_28 ⟨Nat.le_of_ble_eq_true rfl, Nat.le_of_ble_eq_true rfl⟩ (fun r_13 u_14 H locs hw hP hD hS => ?_)
      obtain ⟨n_12, rfl⟩ : ∃ z, z = u_14 := ⟨_, rfl⟩
      obtain ⟨he_r_13, he_n_12, hw⟩ := hw
      have hr_r_13 := hw
      have hpost : ((-1) ≤ r_13.toInt ∧ r_13.toInt ≤ 2178) ∧ (0 ≤ (0 : Int32).toInt ∧ (0 : Int32).toInt ≤ 0) ∧ (0 ≤ m_thereMany.toInt ∧ m_thereMany.toInt ≤ 10) ∧ (zRg 10 0 9 g_there) := ⟨(z_rgw hr_r_13 (by decide) (by decide)), (by decide +kernel), hr_m_thereMany, hC_g_there⟩
      exact hret _ _ _ _ _ _ (n_12, 0, m_thereMany, g_there) [2, 1, 0] hP hD hS rfl (by decide) dX12_searched_31 hpost
    · skip
      refine lv_if_ne (tgt := 32) hx hb dX12_searched_23 (by decide) (fun _ => ?_) (fun h9 => absurd h9 (by decide +kernel))
      refine lv_aload_n hx hb dX12_searched_32 rfl (lv_at hl 0 rfl) ?_
      refine lv_iload_n hx hb dX12_searched_33 rfl (lv_at hl 1 rfl) ?_
      refine z_callVv (As := [.int r]) (rest := []) (wr := []) ⟨hx, hb, hml, hown, hts⟩ hK hE hT hP hD hS hA (r_gather l G cA h0 0 0 m_above m_under a_traySort a_trayMany a_numbers a_tape m_taped m_textEnd m_faultKind m_faultAt m_bad m_badAt m_token m_at m_behind m_number m_letters m_word a_c a_words m_markMany a_there a_tried a_best a_found m_thereMany m_foundMany m_orderHow m_orderRing m_orderMany m_hasBest m_bestTop m_bestBy a_weights a_shared m_random m_truePlace m_trueWay m_seconds m_done m_feelings m_tries m_leftOver m_playDoor m_playRing m_isOpen m_isOver m_wasTried m_hasPlayed a_feltNow a_last a_kept m_hasSeconds m_hasTurned m_hasRound a_hasFeels a_isOn m_firstAct m_meanTop m_meanBy a_order m_rowMany m_newSteps g_c g_there r (by omega) hr_m_thereMany hC_g_c hC_g_there) lk_RX12_292 ⟨rfl, rfl⟩ ⟨Nat.le_of_ble_eq_true rfl, Nat.le_of_ble_eq_true rfl⟩ 12 rfl rfl rfl [1, 2, 0] [] rfl rfl (by decide) rfl hl.1 rfl (lv_room (Nat.le_of_ble_eq_true rfl)) dX12_searched_34 ⟨Nat.le_of_ble_eq_true rfl, Nat.le_of_ble_eq_true rfl⟩ (fun u_18 H locs hw hP hD hS => ?_)
      obtain ⟨n_15, n_16⟩ := u_18
      try dsimp only at hw
      obtain ⟨he_n_15, he_n_16, hw⟩ := hw
      obtain ⟨hr_n_15, hC_n_16, hf_19, hf_20⟩ := hw
      refine lv_iload_n hx hb dX12_searched_37 rfl (lv_at hl 3 rfl) ?_
      refine lv_i2l (v := (pp).toInt64) hx hb dX12_searched_38 rfl ?_
      refine lv_topl (fun x_21 he_x_21 => ?_)
      have hq_x_21 := z_i2l he_x_21
      have hL_pp := z_full pp
      refine lv_lconst (v := 0) hx hb dX12_searched_39 (by decide) ?_
      refine lv_aload_n hx hb dX12_searched_40 rfl (lv_at hl 0 rfl) ?_
      refine va_get (D := G) (ci := 12) (v := .int n_15) (C := RX12) (T := TX12) (N := 65) hx hb hts inT12 hown hK hP 0 rfl rfl 27 (by decide) (hts _ tw_1912) (fun _ h9 => h9) rfl dX12_searched_41 ?_
      refine lv_iconst (v := 1) hx hb dX12_searched_44 (by decide) ?_
      refine lv_isub hx hb dX12_searched_45 ?_
      refine lv_topi (fun x_22 he_x_22 => ?_)
      have hq_x_22 := z_subq he_x_22 (rfl : n_15.toInt = _) hk_1 (by omega) (by omega)
      refine lv_i2l (v := (x_22).toInt64) hx hb dX12_searched_46 rfl ?_
      refine lv_topl (fun x_23 he_x_23 => ?_)
      have hq_x_23 := z_i2l he_x_23
      refine z_callSi (As := [.long x_21, .long 0, .long x_23]) (rest := []) (wr := [(h0, .inr (12, [.int 0, .int 0, .long m_above, .long m_under, .ref a_traySort, .ref a_trayMany, .ref a_numbers, .ref a_tape, .int m_taped, .int m_textEnd, .int m_faultKind, .int m_faultAt, .int m_bad, .int m_badAt, .int m_token, .int m_at, .int m_behind, .int m_number, .int m_letters, .long m_word, .ref a_c, .ref a_words, .int m_markMany, .ref a_there, .ref a_tried, .ref a_best, .ref a_found, .int n_15, .int m_foundMany, .int m_orderHow, .int m_orderRing, .int m_orderMany, .int m_hasBest, .long m_bestTop, .long m_bestBy, .ref a_weights, .ref a_shared, .int m_random, .int m_truePlace, .int m_trueWay, .int m_seconds, .int m_done, .int m_feelings, .int m_tries, .int m_leftOver, .int m_playDoor, .int m_playRing, .int m_isOpen, .int m_isOver, .int m_wasTried, .int m_hasPlayed, .ref a_feltNow, .ref a_last, .ref a_kept, .int m_hasSeconds, .int m_hasTurned, .int m_hasRound, .ref a_hasFeels, .ref a_isOn, .int m_firstAct, .long m_meanTop, .long m_meanBy, .ref a_order, .int m_rowMany, .int m_newSteps])), (a_c, .inl (cA.1 0, 1825, .inl g_c)), (a_there, .inl (cA.1 0, 10, .inl n_16))]) ⟨hx, hb, hml, hown, hts⟩ hK hE hT hP hD hS hA (r_isIn l G cA x_21 0 x_23) lk_RX12_117 ⟨rfl, rfl⟩ ⟨Nat.le_of_ble_eq_true rfl, Nat.le_of_ble_eq_true rfl⟩ [] [0, 1, 2] rfl rfl (by decide) rfl hl.1 rfl (lv_room (Nat.le_of_ble_eq_true rfl)) dX12_searched_47 ⟨Nat.le_of_ble_eq_true rfl, Nat.le_of_ble_eq_true rfl⟩ (fun r_24 u_25 H locs hw hP hD hS => ?_)
      obtain ⟨he_r_24, hw⟩ := hw
      rcases hw with ⟨rfl, hf_26⟩ | ⟨rfl, hf_27⟩
      · skip
        refine lv_if_eq (tgt := 64) hx hb dX12_searched_50 (by decide) (fun _ => ?_) (fun h9 => absurd (by decide +kernel) h9)
        refine lv_aload_n hx hb dX12_searched_64 rfl (lv_at hl 0 rfl) ?_
        refine lv_iconst (v := 5) hx hb dX12_searched_65 (by decide) ?_
        refine z_callVi (As := [.int 5]) (rest := []) (wr := [(a_c, .inl (cA.1 0, 1825, .inl g_c)), (a_there, .inl (cA.1 0, 10, .inl n_16))]) ⟨hx, hb, hml, hown, hts⟩ hK hE hT hP hD hS hA (r_refuse l G cA h0 0 0 m_above m_under a_traySort a_trayMany a_numbers a_tape m_taped m_textEnd m_faultKind m_faultAt m_bad m_badAt m_token m_at m_behind m_number m_letters m_word a_c a_words m_markMany a_there a_tried a_best a_found n_15 m_foundMany m_orderHow m_orderRing m_orderMany m_hasBest m_bestTop m_bestBy a_weights a_shared m_random m_truePlace m_trueWay m_seconds m_done m_feelings m_tries m_leftOver m_playDoor m_playRing m_isOpen m_isOver m_wasTried m_hasPlayed a_feltNow a_last a_kept m_hasSeconds m_hasTurned m_hasRound a_hasFeels a_isOn m_firstAct m_meanTop m_meanBy a_order m_rowMany m_newSteps 5) lk_RX12_269 ⟨rfl, rfl⟩ ⟨Nat.le_of_ble_eq_true rfl, Nat.le_of_ble_eq_true rfl⟩ 12 rfl rfl rfl [0] [1, 2] rfl rfl (by decide) rfl hl.1 rfl (lv_room (Nat.le_of_ble_eq_true rfl)) dX12_searched_66 ⟨Nat.le_of_ble_eq_true rfl, Nat.le_of_ble_eq_true rfl⟩ (fun r_29 u_30 H locs hw hP hD hS => ?_)
        obtain ⟨n_28, rfl⟩ : ∃ z, z = u_30 := ⟨_, rfl⟩
        obtain ⟨he_r_29, he_n_28, hw⟩ := hw
        have hr_r_29 := hw
        have hpost : ((-1) ≤ r_29.toInt ∧ r_29.toInt ≤ 2178) ∧ (0 ≤ (0 : Int32).toInt ∧ (0 : Int32).toInt ≤ 0) ∧ (0 ≤ n_15.toInt ∧ n_15.toInt ≤ 10) ∧ (zRg 10 0 9 n_16) := ⟨(z_rgw hr_r_29 (by decide) (by decide)), (by decide +kernel), hr_n_15, hC_n_16⟩
        exact hret _ _ _ _ _ _ (n_28, 0, n_15, n_16) [2, 0, 1] hP hD hS rfl (by decide) dX12_searched_69 hpost
      · skip
        refine lv_if_eq (tgt := 64) hx hb dX12_searched_50 (by decide) (fun h9 => absurd h9 (by decide +kernel)) (fun _ => ?_)
        refine lv_iload hx hb dX12_searched_53 (lv_at hl 4 rfl) ?_
        refine lv_i2l (v := (w).toInt64) hx hb dX12_searched_55 rfl ?_
        refine lv_topl (fun x_31 he_x_31 => ?_)
        have hq_x_31 := z_i2l he_x_31
        have hL_w := z_full w
        refine lv_lconst (v := 0) hx hb dX12_searched_56 (by decide) ?_
        refine lv_lconst (v := 1) hx hb dX12_searched_57 (by decide) ?_
        refine z_callSi (As := [.long x_31, .long 0, .long 1]) (rest := []) (wr := [(h0, .inr (12, [.int 0, .int 0, .long m_above, .long m_under, .ref a_traySort, .ref a_trayMany, .ref a_numbers, .ref a_tape, .int m_taped, .int m_textEnd, .int m_faultKind, .int m_faultAt, .int m_bad, .int m_badAt, .int m_token, .int m_at, .int m_behind, .int m_number, .int m_letters, .long m_word, .ref a_c, .ref a_words, .int m_markMany, .ref a_there, .ref a_tried, .ref a_best, .ref a_found, .int n_15, .int m_foundMany, .int m_orderHow, .int m_orderRing, .int m_orderMany, .int m_hasBest, .long m_bestTop, .long m_bestBy, .ref a_weights, .ref a_shared, .int m_random, .int m_truePlace, .int m_trueWay, .int m_seconds, .int m_done, .int m_feelings, .int m_tries, .int m_leftOver, .int m_playDoor, .int m_playRing, .int m_isOpen, .int m_isOver, .int m_wasTried, .int m_hasPlayed, .ref a_feltNow, .ref a_last, .ref a_kept, .int m_hasSeconds, .int m_hasTurned, .int m_hasRound, .ref a_hasFeels, .ref a_isOn, .int m_firstAct, .long m_meanTop, .long m_meanBy, .ref a_order, .int m_rowMany, .int m_newSteps])), (a_c, .inl (cA.1 0, 1825, .inl g_c)), (a_there, .inl (cA.1 0, 10, .inl n_16))]) ⟨hx, hb, hml, hown, hts⟩ hK hE hT hP hD hS hA (r_isIn l G cA x_31 0 1) lk_RX12_117 ⟨rfl, rfl⟩ ⟨Nat.le_of_ble_eq_true rfl, Nat.le_of_ble_eq_true rfl⟩ [] [0, 1, 2] rfl rfl (by decide) rfl hl.1 rfl (lv_room (Nat.le_of_ble_eq_true rfl)) dX12_searched_58 ⟨Nat.le_of_ble_eq_true rfl, Nat.le_of_ble_eq_true rfl⟩ (fun r_32 u_33 H locs hw hP hD hS => ?_)
        obtain ⟨he_r_32, hw⟩ := hw
        rcases hw with ⟨rfl, hf_34⟩ | ⟨rfl, hf_35⟩
        · skip
          refine lv_if_ne (tgt := 70) hx hb dX12_searched_61 (by decide) (fun h9 => absurd (by decide +kernel) h9) (fun _ => ?_)
          refine lv_aload_n hx hb dX12_searched_64 rfl (lv_at hl 0 rfl) ?_
          refine lv_iconst (v := 5) hx hb dX12_searched_65 (by decide) ?_
          refine z_callVi (As := [.int 5]) (rest := []) (wr := [(a_c, .inl (cA.1 0, 1825, .inl g_c)), (a_there, .inl (cA.1 0, 10, .inl n_16))]) ⟨hx, hb, hml, hown, hts⟩ hK hE hT hP hD hS hA (r_refuse l G cA h0 0 0 m_above m_under a_traySort a_trayMany a_numbers a_tape m_taped m_textEnd m_faultKind m_faultAt m_bad m_badAt m_token m_at m_behind m_number m_letters m_word a_c a_words m_markMany a_there a_tried a_best a_found n_15 m_foundMany m_orderHow m_orderRing m_orderMany m_hasBest m_bestTop m_bestBy a_weights a_shared m_random m_truePlace m_trueWay m_seconds m_done m_feelings m_tries m_leftOver m_playDoor m_playRing m_isOpen m_isOver m_wasTried m_hasPlayed a_feltNow a_last a_kept m_hasSeconds m_hasTurned m_hasRound a_hasFeels a_isOn m_firstAct m_meanTop m_meanBy a_order m_rowMany m_newSteps 5) lk_RX12_269 ⟨rfl, rfl⟩ ⟨Nat.le_of_ble_eq_true rfl, Nat.le_of_ble_eq_true rfl⟩ 12 rfl rfl rfl [0] [1, 2] rfl rfl (by decide) rfl hl.1 rfl (lv_room (Nat.le_of_ble_eq_true rfl)) dX12_searched_66 ⟨Nat.le_of_ble_eq_true rfl, Nat.le_of_ble_eq_true rfl⟩ (fun r_37 u_38 H locs hw hP hD hS => ?_)
          obtain ⟨n_36, rfl⟩ : ∃ z, z = u_38 := ⟨_, rfl⟩
          obtain ⟨he_r_37, he_n_36, hw⟩ := hw
          have hr_r_37 := hw
          have hpost : ((-1) ≤ r_37.toInt ∧ r_37.toInt ≤ 2178) ∧ (0 ≤ (0 : Int32).toInt ∧ (0 : Int32).toInt ≤ 0) ∧ (0 ≤ n_15.toInt ∧ n_15.toInt ≤ 10) ∧ (zRg 10 0 9 n_16) := ⟨(z_rgw hr_r_37 (by decide) (by decide)), (by decide +kernel), hr_n_15, hC_n_16⟩
          exact hret _ _ _ _ _ _ (n_36, 0, n_15, n_16) [2, 0, 1] hP hD hS rfl (by decide) dX12_searched_69 hpost
        · skip
          refine lv_if_ne (tgt := 70) hx hb dX12_searched_61 (by decide) (fun _ => ?_) (fun h9 => absurd h9 (by decide +kernel))
          refine lv_aload_n hx hb dX12_searched_70 rfl (lv_at hl 0 rfl) ?_
          refine lv_iload_n hx hb dX12_searched_71 rfl (lv_at hl 2 rfl) ?_
          refine lv_iload_n hx hb dX12_searched_72 rfl (lv_at hl 3 rfl) ?_
          refine lv_iload hx hb dX12_searched_73 (lv_at hl 4 rfl) ?_
          refine z_callVi (As := [.int d, .int pp, .int w]) (rest := []) (wr := []) ⟨hx, hb, hml, hown, hts⟩ hK hE hT hP hD hS hA (r_search l G cA h0 0 0 m_above m_under a_traySort a_trayMany a_numbers a_tape m_taped m_textEnd m_faultKind m_faultAt m_bad m_badAt m_token m_at m_behind m_number m_letters m_word a_c a_words m_markMany a_there a_tried a_best a_found n_15 m_foundMany m_orderHow m_orderRing m_orderMany m_hasBest m_bestTop m_bestBy a_weights a_shared m_random m_truePlace m_trueWay m_seconds m_done m_feelings m_tries m_leftOver m_playDoor m_playRing m_isOpen m_isOver m_wasTried m_hasPlayed a_feltNow a_last a_kept m_hasSeconds m_hasTurned m_hasRound a_hasFeels a_isOn m_firstAct m_meanTop m_meanBy a_order m_rowMany m_newSteps g_c n_16 d pp w (by omega) (by omega) (by omega) hr_n_15 hC_g_c hC_n_16 (by omega)) lk_RX12_387 ⟨rfl, rfl⟩ ⟨Nat.le_of_ble_eq_true rfl, Nat.le_of_ble_eq_true rfl⟩ 12 rfl rfl rfl [0, 1, 2] [] rfl rfl (by decide) rfl hl.1 rfl (lv_room (Nat.le_of_ble_eq_true rfl)) dX12_searched_75 ⟨Nat.le_of_ble_eq_true rfl, Nat.le_of_ble_eq_true rfl⟩ (fun r_39 u_40 H locs hw hP hD hS => ?_)
          obtain ⟨he_r_39, hw⟩ := hw
          obtain ⟨hr_r_39, hf_41, hf_42⟩ := hw
          refine lv_istore (lv' := [(5, .int r_39), (0, .ref h0), (1, .int r), (2, .int d), (3, .int pp), (4, .int w)]) hx hb dX12_searched_78 hl (by decide) rfl (fun ls hl => ?_)
          refine lv_iload hx hb dX12_searched_80 (lv_at hl 0 rfl) ?_
          refine lv_if_ge (tgt := 94) hx hb dX12_searched_82 (by decide) (fun c_43 => ?_) (fun c_43 => ?_)
          · have b_44 := z_fgeT c_43
            refine lv_iload hx hb dX12_searched_94 (lv_at hl 0 rfl) ?_
            have hpost : ((-1) ≤ r_39.toInt ∧ r_39.toInt ≤ 2178) ∧ (0 ≤ (0 : Int32).toInt ∧ (0 : Int32).toInt ≤ 0) ∧ (0 ≤ n_15.toInt ∧ n_15.toInt ≤ 10) ∧ (zRg 10 0 9 n_16) := ⟨hr_r_39, (by decide +kernel), hr_n_15, hC_n_16⟩
            exact hret _ _ _ _ _ _ (0, 0, n_15, n_16) [0, 1, 2] hP hD hS rfl (by decide) dX12_searched_96 hpost
          · have b_45 := z_fltF c_43
            refine lv_aload_n hx hb dX12_searched_85 rfl (lv_at hl 1 rfl) ?_
            refine lv_bipush (v := 8) hx hb dX12_searched_86 (by decide) ?_
            refine z_callVi (As := [.int 8]) (rest := []) (wr := [(a_c, .inl (cA.1 0, 1825, .inl g_c)), (a_there, .inl (cA.1 0, 10, .inl n_16))]) ⟨hx, hb, hml, hown, hts⟩ hK hE hT hP hD hS hA (r_refuse l G cA h0 0 0 m_above m_under a_traySort a_trayMany a_numbers a_tape m_taped m_textEnd m_faultKind m_faultAt m_bad m_badAt m_token m_at m_behind m_number m_letters m_word a_c a_words m_markMany a_there a_tried a_best a_found n_15 m_foundMany m_orderHow m_orderRing m_orderMany m_hasBest m_bestTop m_bestBy a_weights a_shared m_random m_truePlace m_trueWay m_seconds m_done m_feelings m_tries m_leftOver m_playDoor m_playRing m_isOpen m_isOver m_wasTried m_hasPlayed a_feltNow a_last a_kept m_hasSeconds m_hasTurned m_hasRound a_hasFeels a_isOn m_firstAct m_meanTop m_meanBy a_order m_rowMany m_newSteps 8) lk_RX12_269 ⟨rfl, rfl⟩ ⟨Nat.le_of_ble_eq_true rfl, Nat.le_of_ble_eq_true rfl⟩ 12 rfl rfl rfl [0] [1, 2] rfl rfl (by decide) rfl hl.1 rfl (lv_room (Nat.le_of_ble_eq_true rfl)) dX12_searched_88 ⟨Nat.le_of_ble_eq_true rfl, Nat.le_of_ble_eq_true rfl⟩ (fun r_47 u_48 H locs hw hP hD hS => ?_)
            obtain ⟨n_46, rfl⟩ : ∃ z, z = u_48 := ⟨_, rfl⟩
            obtain ⟨he_r_47, he_n_46, hw⟩ := hw
            have hr_r_47 := hw
            refine lv_goto (tgt := 96) hx hb dX12_searched_91 (by decide) ?_
            have hpost : ((-1) ≤ r_47.toInt ∧ r_47.toInt ≤ 2178) ∧ (0 ≤ (0 : Int32).toInt ∧ (0 : Int32).toInt ≤ 0) ∧ (0 ≤ n_15.toInt ∧ n_15.toInt ≤ 10) ∧ (zRg 10 0 9 n_16) := ⟨(z_rgw hr_r_47 (by decide) (by decide)), (by decide +kernel), hr_n_15, hC_n_16⟩
            exact hret _ _ _ _ _ _ (n_46, 0, n_15, n_16) [2, 0, 1] hP hD hS rfl (by decide) dX12_searched_96 hpost
set_option maxHeartbeats 40000000 in
set_option maxRecDepth 100000 in
theorem r_meanFrom (l : Launch) (G : va_G) (cA : zCA) (h0 : Nat) (m_status : Int32) (m_thrown : Int32) (m_above : Int64) (m_under : Int64) (a_traySort : Nat) (a_trayMany : Nat) (a_numbers : Nat) (a_tape : Nat) (m_taped : Int32) (m_textEnd : Int32) (m_faultKind : Int32) (m_faultAt : Int32) (m_bad : Int32) (m_badAt : Int32) (m_token : Int32) (m_at : Int32) (m_behind : Int32) (m_number : Int32) (m_letters : Int32) (m_word : Int64) (a_c : Nat) (a_words : Nat) (m_markMany : Int32) (a_there : Nat) (a_tried : Nat) (a_best : Nat) (a_found : Nat) (m_thereMany : Int32) (m_foundMany : Int32) (m_orderHow : Int32) (m_orderRing : Int32) (m_orderMany : Int32) (m_hasBest : Int32) (m_bestTop : Int64) (m_bestBy : Int64) (a_weights : Nat) (a_shared : Nat) (m_random : Int32) (m_truePlace : Int32) (m_trueWay : Int32) (m_seconds : Int32) (m_done : Int32) (m_feelings : Int32) (m_tries : Int32) (m_leftOver : Int32) (m_playDoor : Int32) (m_playRing : Int32) (m_isOpen : Int32) (m_isOver : Int32) (m_wasTried : Int32) (m_hasPlayed : Int32) (a_feltNow : Nat) (a_last : Nat) (a_kept : Nat) (m_hasSeconds : Int32) (m_hasTurned : Int32) (m_hasRound : Int32) (a_hasFeels : Nat) (a_isOn : Nat) (m_firstAct : Int32) (m_meanTop : Int64) (m_meanBy : Int64) (a_order : Nat) (m_rowMany : Int32) (m_newSteps : Int32) (g_c : Nat → Int32) (g_there : Nat → Int32) (pp : Int32) (w : Int32) (hr_pp : 0 ≤ pp.toInt ∧ pp.toInt ≤ 9) (hr_w : 0 ≤ w.toInt ∧ w.toInt ≤ 1) (hr_m_thereMany : 0 ≤ m_thereMany.toInt ∧ m_thereMany.toInt ≤ 10) (hC_g_c : zC g_c) (hC_g_there : zRg 10 0 9 g_there) (hp_0 : m_thereMany.toInt ≤ 0 ∨ pp.toInt < m_thereMany.toInt) : zCv l yX12_meanFrom cX12_meanFrom 5 none ({ frames := 2, cells := 0, slots := 0, locals := 48 }) G cA [.ref h0, .int pp, .int w] [(h0, .inr (12, [.int m_status, .int m_thrown, .long m_above, .long m_under, .ref a_traySort, .ref a_trayMany, .ref a_numbers, .ref a_tape, .int m_taped, .int m_textEnd, .int m_faultKind, .int m_faultAt, .int m_bad, .int m_badAt, .int m_token, .int m_at, .int m_behind, .int m_number, .int m_letters, .long m_word, .ref a_c, .ref a_words, .int m_markMany, .ref a_there, .ref a_tried, .ref a_best, .ref a_found, .int m_thereMany, .int m_foundMany, .int m_orderHow, .int m_orderRing, .int m_orderMany, .int m_hasBest, .long m_bestTop, .long m_bestBy, .ref a_weights, .ref a_shared, .int m_random, .int m_truePlace, .int m_trueWay, .int m_seconds, .int m_done, .int m_feelings, .int m_tries, .int m_leftOver, .int m_playDoor, .int m_playRing, .int m_isOpen, .int m_isOver, .int m_wasTried, .int m_hasPlayed, .ref a_feltNow, .ref a_last, .ref a_kept, .int m_hasSeconds, .int m_hasTurned, .int m_hasRound, .ref a_hasFeels, .ref a_isOn, .int m_firstAct, .long m_meanTop, .long m_meanBy, .ref a_order, .int m_rowMany, .int m_newSteps])), (a_c, .inl (cA.1 0, 1825, .inl g_c)), (a_there, .inl (cA.1 0, 10, .inl g_there))] (S := Int64 × Int64) (fun (u : Int64 × Int64) => (u.1 = (F_r_meanFrom m_thereMany g_c g_there pp w).1) ∧ (u.2 = (F_r_meanFrom m_thereMany g_c g_there pp w).2) ∧ ((0 ≤ u.2.toInt ∧ u.2.toInt ≤ 495) ∧ ((1 ≤ u.2.toInt ∧ zMB g_c g_there m_thereMany.toInt) ∨ (u.2.toInt = 0 ∧ ¬ zMB g_c g_there m_thereMany.toInt)))) (fun (u : Int64 × Int64) => [(h0, .inr (12, [.int m_status, .int m_thrown, .long m_above, .long m_under, .ref a_traySort, .ref a_trayMany, .ref a_numbers, .ref a_tape, .int m_taped, .int m_textEnd, .int m_faultKind, .int m_faultAt, .int m_bad, .int m_badAt, .int m_token, .int m_at, .int m_behind, .int m_number, .int m_letters, .long m_word, .ref a_c, .ref a_words, .int m_markMany, .ref a_there, .ref a_tried, .ref a_best, .ref a_found, .int m_thereMany, .int m_foundMany, .int m_orderHow, .int m_orderRing, .int m_orderMany, .int m_hasBest, .long m_bestTop, .long m_bestBy, .ref a_weights, .ref a_shared, .int m_random, .int m_truePlace, .int m_trueWay, .int m_seconds, .int m_done, .int m_feelings, .int m_tries, .int m_leftOver, .int m_playDoor, .int m_playRing, .int m_isOpen, .int m_isOver, .int m_wasTried, .int m_hasPlayed, .ref a_feltNow, .ref a_last, .ref a_kept, .int m_hasSeconds, .int m_hasTurned, .int m_hasRound, .ref a_hasFeels, .ref a_isOn, .int m_firstAct, .long u.1, .long u.2, .ref a_order, .int m_rowMany, .int m_newSteps])), (a_c, .inl (cA.1 0, 1825, .inl g_c)), (a_there, .inl (cA.1 0, 10, .inl g_there))]) 0 0 := by
  have hk_0 : (0 : Int32).toInt = 0 := by decide +kernel
  have hk_1 : (1 : Int32).toInt = 1 := by decide +kernel
  have hk_128 : (128 : Int32).toInt = 128 := by decide +kernel
  have hkl_0 : (0 : Int64).toInt = 0 := by decide +kernel
  refine z_start2v (own := RX12) (by decide) (Nat.le_of_ble_eq_true rfl) rfl ?_
  intro p e s m args below meth c A ls Q hx hb hml hts hown hK hE hT hP hD hS hA hl hret
  have hl : lv_has ls 5 [(0, .ref h0), (1, .int pp), (2, .int w)] := hl
  refine lv_aload_n hx hb dX12_meanFrom_0 rfl (lv_at hl 0 rfl) ?_
  refine lv_lconst (v := 0) hx hb dX12_meanFrom_1 (by decide) ?_
  refine va_put (D := G) (ci := 12) (v := .long 0) (ty := .long) (C := RX12) (T := TX12) (N := 65) hx hb hts inT12 tyX12 tyX12_ok nmX12 hown hK hP hD hS 0 rfl rfl 60 (by decide) (hts _ tw_1943) (fun _ h9 => h9) rfl (tyX12_ok 60 (by decide)) rfl rfl (Nat.le_of_ble_eq_true rfl) dX12_meanFrom_2 (fun H locs hP hD hS => ?_)
  refine lv_aload_n hx hb dX12_meanFrom_5 rfl (lv_at hl 0 rfl) ?_
  refine lv_lconst (v := 0) hx hb dX12_meanFrom_6 (by decide) ?_
  refine va_put (D := G) (ci := 12) (v := .long 0) (ty := .long) (C := RX12) (T := TX12) (N := 65) hx hb hts inT12 tyX12 tyX12_ok nmX12 hown hK hP hD hS 0 rfl rfl 61 (by decide) (hts _ tw_1944) (fun _ h9 => h9) rfl (tyX12_ok 61 (by decide)) rfl rfl (Nat.le_of_ble_eq_true rfl) dX12_meanFrom_7 (fun H locs hP hD hS => ?_)
  have hg3 := zC_3 hC_g_c.1
  refine lv_iconst (v := 0) hx hb dX12_meanFrom_10 (by decide) ?_
  refine lv_istore_n (lv' := [(3, .int 0), (0, .ref h0), (1, .int pp), (2, .int w)]) hx hb dX12_meanFrom_11 rfl hl (by decide) rfl (fun ls hl => ?_)
  have hlp_294 : ∀ (n_L12a : Nat) (v_234 : Int32) (v_235 : Int64) (v_236 : Int64) (H : Heap) (locs : List Loc) (ls : Array Slot), (2147483647 - v_234.toInt).toNat < n_L12a → (0 ≤ v_234.toInt ∧ v_234.toInt ≤ 5) → (0 ≤ v_236.toInt ∧ v_236.toInt ≤ 495) → ((1 ≤ v_236.toInt ∧ zMd g_c g_there m_thereMany.toInt v_234.toInt) ∨ (v_236.toInt = 0 ∧ ¬ zMd g_c g_there m_thereMany.toInt v_234.toInt)) → (v_236.toInt ≤ 99 * v_234.toInt) → (v_234.toInt ≤ (g_c 3).toInt) → (F_r_meanFrom m_thereMany g_c g_there pp w = F_r_meanFrom_L12a m_thereMany g_c g_there pp w n_L12a v_234 v_235 v_236) → va_P G vwCl [(h0, .inr (12, [.int m_status, .int m_thrown, .long m_above, .long m_under, .ref a_traySort, .ref a_trayMany, .ref a_numbers, .ref a_tape, .int m_taped, .int m_textEnd, .int m_faultKind, .int m_faultAt, .int m_bad, .int m_badAt, .int m_token, .int m_at, .int m_behind, .int m_number, .int m_letters, .long m_word, .ref a_c, .ref a_words, .int m_markMany, .ref a_there, .ref a_tried, .ref a_best, .ref a_found, .int m_thereMany, .int m_foundMany, .int m_orderHow, .int m_orderRing, .int m_orderMany, .int m_hasBest, .long m_bestTop, .long m_bestBy, .ref a_weights, .ref a_shared, .int m_random, .int m_truePlace, .int m_trueWay, .int m_seconds, .int m_done, .int m_feelings, .int m_tries, .int m_leftOver, .int m_playDoor, .int m_playRing, .int m_isOpen, .int m_isOver, .int m_wasTried, .int m_hasPlayed, .ref a_feltNow, .ref a_last, .ref a_kept, .int m_hasSeconds, .int m_hasTurned, .int m_hasRound, .ref a_hasFeels, .ref a_isOn, .int m_firstAct, .long v_235, .long v_236, .ref a_order, .int m_rowMany, .int m_newSteps])), (a_c, .inl (cA.1 0, 1825, .inl g_c)), (a_there, .inl (cA.1 0, 10, .inl g_there))] H → va_D A [(h0, .inr (12, [.int m_status, .int m_thrown, .long m_above, .long m_under, .ref a_traySort, .ref a_trayMany, .ref a_numbers, .ref a_tape, .int m_taped, .int m_textEnd, .int m_faultKind, .int m_faultAt, .int m_bad, .int m_badAt, .int m_token, .int m_at, .int m_behind, .int m_number, .int m_letters, .long m_word, .ref a_c, .ref a_words, .int m_markMany, .ref a_there, .ref a_tried, .ref a_best, .ref a_found, .int m_thereMany, .int m_foundMany, .int m_orderHow, .int m_orderRing, .int m_orderMany, .int m_hasBest, .long m_bestTop, .long m_bestBy, .ref a_weights, .ref a_shared, .int m_random, .int m_truePlace, .int m_trueWay, .int m_seconds, .int m_done, .int m_feelings, .int m_tries, .int m_leftOver, .int m_playDoor, .int m_playRing, .int m_isOpen, .int m_isOver, .int m_wasTried, .int m_hasPlayed, .ref a_feltNow, .ref a_last, .ref a_kept, .int m_hasSeconds, .int m_hasTurned, .int m_hasRound, .ref a_hasFeels, .ref a_isOn, .int m_firstAct, .long v_235, .long v_236, .ref a_order, .int m_rowMany, .int m_newSteps])), (a_c, .inl (cA.1 0, 1825, .inl g_c)), (a_there, .inl (cA.1 0, 10, .inl g_there))] → va_S A s.heap H locs → lv_has ls 5 [(0, .ref h0), (1, .int pp), (2, .int w), (3, .int v_234)] → W p l e ({ frames := 2, cells := 0, slots := 0, locals := 48 }) s m args below meth c H locs 0 0 Q (F0 m 12 ls []) := by
    intro n_L12a
    induction n_L12a with
    | zero =>
      intro v_234 v_235 v_236 H locs ls hmu_hlp_294 hr_v_234 hr_v_236 hi_264 hi_265 hi_266 hF_L12a hP hD hS hl
      exact absurd hmu_hlp_294 (Nat.not_lt_zero _)
    | succ n_L12a ih_295 =>
      intro v_234 v_235 v_236 H locs ls hmu_hlp_294 hr_v_234 hr_v_236 hi_264 hi_265 hi_266 hF_L12a hP hD hS hl
      refine lv_iload_n hx hb dX12_meanFrom_12 rfl (lv_at hl 3 rfl) ?_
      refine lv_aload_n hx hb dX12_meanFrom_13 rfl (lv_at hl 0 rfl) ?_
      refine va_get (D := G) (ci := 12) (v := .ref a_c) (C := RX12) (T := TX12) (N := 65) hx hb hts inT12 hown hK hP 0 rfl rfl 20 (by decide) (hts _ tw_1905) (fun _ h9 => h9) rfl dX12_meanFrom_14 ?_
      refine lv_iconst (v := 3) hx hb dX12_meanFrom_17 (by decide) ?_
      refine va_iald hx hb hK hP 1 0 rfl rfl (z_in (i := 3) (n := 1825) (by decide +kernel) (by decide +kernel)) dX12_meanFrom_18 ?_
      refine lv_topi (fun x_296 he_x_296 => ?_)
      have hr_x_296 := z_ctk hC_g_c he_x_296 (k := 3) (lo := 0) (hi := 5) (by decide +kernel) (by decide +kernel) (by decide +kernel)
      have hv_x_296 := z_cv he_x_296 (k := 3) (by decide +kernel)
      refine lv_icmp_ge (tgt := 96) hx hb dX12_meanFrom_19 (by decide) (fun c_297 => ?_) (fun c_297 => ?_)
      · have b_298 := z_fgeT c_297
        have hpost : (0 ≤ v_236.toInt ∧ v_236.toInt ≤ 495) ∧ ((1 ≤ v_236.toInt ∧ zMB g_c g_there m_thereMany.toInt) ∨ (v_236.toInt = 0 ∧ ¬ zMB g_c g_there m_thereMany.toInt)) := ⟨hr_v_236, (by first | exact zMd_nil hi_264 (by omega) | exact zMd_end hi_264 (by omega))⟩
        have hX_299 : F_r_meanFrom m_thereMany g_c g_there pp w = ((v_235, v_236) : Int64 × Int64) := by
          refine hF_L12a.trans ?_
          refine (F_r_meanFrom_L12a_s ..).trans ?_
          try (extract_lets -merge -useContext +onlyGivenNames y9; have e9 : x_296 = y9 := (by first | exact he_x_296 | exact he_x_296.symm); clear_value y9; subst e9)
          refine (if_pos c_297).trans ?_
          exact rfl
        exact hret _ _ _ _ _ (v_235, v_236) [0, 1, 2] hP hD hS rfl (by decide) dX12_meanFrom_96 ⟨(congrArg (fun z9 => z9.1) hX_299).symm, (congrArg (fun z9 => z9.2) hX_299).symm, hpost⟩
      · have b_300 := z_fltF c_297
        refine lv_aload_n hx hb dX12_meanFrom_22 rfl (lv_at hl 0 rfl) ?_
        refine va_get (D := G) (ci := 12) (v := .int m_thereMany) (C := RX12) (T := TX12) (N := 65) hx hb hts inT12 hown hK hP 0 rfl rfl 27 (by decide) (hts _ tw_1912) (fun _ h9 => h9) rfl dX12_meanFrom_23 ?_
        refine lv_if_le (tgt := 96) hx hb dX12_meanFrom_26 (by decide) (fun c_301 => ?_) (fun c_301 => ?_)
        · have b_302 := z_fleT c_301
          have hpost : (0 ≤ v_236.toInt ∧ v_236.toInt ≤ 495) ∧ ((1 ≤ v_236.toInt ∧ zMB g_c g_there m_thereMany.toInt) ∨ (v_236.toInt = 0 ∧ ¬ zMB g_c g_there m_thereMany.toInt)) := ⟨hr_v_236, (by first | exact zMd_nil hi_264 (by omega) | exact zMd_end hi_264 (by omega))⟩
          have hX_303 : F_r_meanFrom m_thereMany g_c g_there pp w = ((v_235, v_236) : Int64 × Int64) := by
            refine hF_L12a.trans ?_
            refine (F_r_meanFrom_L12a_s ..).trans ?_
            try (extract_lets -merge -useContext +onlyGivenNames y9; have e9 : x_296 = y9 := (by first | exact he_x_296 | exact he_x_296.symm); clear_value y9; subst e9)
            refine (if_neg c_297).trans ?_
            refine (if_pos c_301).trans ?_
            exact rfl
          exact hret _ _ _ _ _ (v_235, v_236) [0, 1, 2] hP hD hS rfl (by decide) dX12_meanFrom_96 ⟨(congrArg (fun z9 => z9.1) hX_303).symm, (congrArg (fun z9 => z9.2) hX_303).symm, hpost⟩
        · have b_304 := z_fgtF c_301
          refine lv_aload_n hx hb dX12_meanFrom_29 rfl (lv_at hl 0 rfl) ?_
          refine lv_iload_n hx hb dX12_meanFrom_30 rfl (lv_at hl 3 rfl) ?_
          refine lv_iload_n hx hb dX12_meanFrom_31 rfl (lv_at hl 1 rfl) ?_
          refine lv_iload_n hx hb dX12_meanFrom_32 rfl (lv_at hl 2 rfl) ?_
          refine z_callVi (As := [.int v_234, .int pp, .int w]) (rest := []) (wr := []) ⟨hx, hb, hml, hown, hts⟩ hK hE hT hP hD hS hA (r_search l G cA h0 m_status m_thrown m_above m_under a_traySort a_trayMany a_numbers a_tape m_taped m_textEnd m_faultKind m_faultAt m_bad m_badAt m_token m_at m_behind m_number m_letters m_word a_c a_words m_markMany a_there a_tried a_best a_found m_thereMany m_foundMany m_orderHow m_orderRing m_orderMany m_hasBest m_bestTop m_bestBy a_weights a_shared m_random m_truePlace m_trueWay m_seconds m_done m_feelings m_tries m_leftOver m_playDoor m_playRing m_isOpen m_isOver m_wasTried m_hasPlayed a_feltNow a_last a_kept m_hasSeconds m_hasTurned m_hasRound a_hasFeels a_isOn m_firstAct v_235 v_236 a_order m_rowMany m_newSteps g_c g_there v_234 pp w (by omega) hr_pp hr_w hr_m_thereMany hC_g_c hC_g_there (by omega)) lk_RX12_387 ⟨rfl, rfl⟩ ⟨Nat.le_of_ble_eq_true rfl, Nat.le_of_ble_eq_true rfl⟩ 12 rfl rfl rfl [0, 1, 2] [] rfl rfl (by decide) rfl hl.1 rfl (lv_room (Nat.le_of_ble_eq_true rfl)) dX12_meanFrom_33 ⟨Nat.le_of_ble_eq_true rfl, Nat.le_of_ble_eq_true rfl⟩ (fun r_305 u_306 H locs hw hP hD hS => ?_)
          obtain ⟨he_r_305, hw⟩ := hw
          obtain ⟨hr_r_305, hf_308, hf_309⟩ := hw
          refine lv_istore (lv' := [(4, .int r_305), (0, .ref h0), (1, .int pp), (2, .int w), (3, .int v_234)]) hx hb dX12_meanFrom_36 hl (by decide) rfl (fun ls hl => ?_)
          refine lv_iload hx hb dX12_meanFrom_38 (lv_at hl 0 rfl) ?_
          refine lv_if_ge (tgt := 46) hx hb dX12_meanFrom_40 (by decide) (fun c_310 => ?_) (fun c_310 => ?_)
          · have b_311 := z_fgeT c_310
            refine lv_aload_n hx hb dX12_meanFrom_46 rfl (lv_at hl 1 rfl) ?_
            refine lv_dup hx hb dX12_meanFrom_47 rfl ?_
            refine va_get (D := G) (ci := 12) (v := .long v_235) (C := RX12) (T := TX12) (N := 65) hx hb hts inT12 hown hK hP 0 rfl rfl 60 (by decide) (hts _ tw_1943) (fun _ h9 => h9) rfl dX12_meanFrom_48 ?_
            refine lv_aload_n hx hb dX12_meanFrom_51 rfl (lv_at hl 1 rfl) ?_
            refine va_get (D := G) (ci := 12) (v := .ref a_c) (C := RX12) (T := TX12) (N := 65) hx hb hts inT12 hown hK hP 0 rfl rfl 20 (by decide) (hts _ tw_1905) (fun _ h9 => h9) rfl dX12_meanFrom_52 ?_
            refine lv_sipush (v := 128) hx hb dX12_meanFrom_55 (by decide) ?_
            refine lv_iload_n hx hb dX12_meanFrom_58 rfl (lv_at hl 4 rfl) ?_
            refine lv_iadd hx hb dX12_meanFrom_59 ?_
            refine lv_topi (fun x_312 he_x_312 => ?_)
            have hq_x_312 := z_addq he_x_312 hk_128 (rfl : v_234.toInt = _) (by omega) (by omega)
            refine va_iald hx hb hK hP 1 0 rfl rfl (z_inN (by omega) (by omega)) dX12_meanFrom_60 ?_
            refine lv_topi (fun x_313 he_x_313 => ?_)
            have hr_x_313 := z_ct hC_g_c he_x_313 (a := 128) (b := 132) (lo := 0) (hi := 99) (by decide +kernel) (by decide) (by omega) (by omega)
            refine lv_i2l (v := (x_313).toInt64) hx hb dX12_meanFrom_61 rfl ?_
            refine lv_topl (fun x_314 he_x_314 => ?_)
            have hq_x_314 := z_i2l he_x_314
            refine lv_iload hx hb dX12_meanFrom_62 (lv_at hl 0 rfl) ?_
            refine lv_i2l (v := (r_305).toInt64) hx hb dX12_meanFrom_64 rfl ?_
            refine lv_topl (fun x_315 he_x_315 => ?_)
            have hq_x_315 := z_i2l he_x_315
            refine lv_lmul hx hb dX12_meanFrom_65 ?_
            refine lv_topl (fun x_316 he_x_316 => ?_)
            have hr_x_316 := z_mulrl he_x_316 (M := 99) (N := 2178) (by omega) (by omega) (by decide)
            have hm_x_316 := z_mulpl he_x_316 (M := 99) (N := 2178) (by omega) (by omega) (by decide)
            refine lv_ladd hx hb dX12_meanFrom_66 ?_
            have hL_v_235 := z_fulll v_235
            refine lv_topl (fun x_317 he_x_317 => ?_)
            refine va_put (D := G) (ci := 12) (v := .long x_317) (ty := .long) (C := RX12) (T := TX12) (N := 65) hx hb hts inT12 tyX12 tyX12_ok nmX12 hown hK hP hD hS 0 rfl rfl 60 (by decide) (hts _ tw_1943) (fun _ h9 => h9) rfl (tyX12_ok 60 (by decide)) rfl rfl (Nat.le_of_ble_eq_true rfl) dX12_meanFrom_67 (fun H locs hP hD hS => ?_)
            refine lv_aload_n hx hb dX12_meanFrom_70 rfl (lv_at hl 1 rfl) ?_
            refine lv_dup hx hb dX12_meanFrom_71 rfl ?_
            refine va_get (D := G) (ci := 12) (v := .long v_236) (C := RX12) (T := TX12) (N := 65) hx hb hts inT12 hown hK hP 0 rfl rfl 61 (by decide) (hts _ tw_1944) (fun _ h9 => h9) rfl dX12_meanFrom_72 ?_
            refine lv_aload_n hx hb dX12_meanFrom_75 rfl (lv_at hl 1 rfl) ?_
            refine va_get (D := G) (ci := 12) (v := .ref a_c) (C := RX12) (T := TX12) (N := 65) hx hb hts inT12 hown hK hP 0 rfl rfl 20 (by decide) (hts _ tw_1905) (fun _ h9 => h9) rfl dX12_meanFrom_76 ?_
            refine lv_sipush (v := 128) hx hb dX12_meanFrom_79 (by decide) ?_
            refine lv_iload_n hx hb dX12_meanFrom_82 rfl (lv_at hl 4 rfl) ?_
            refine lv_iadd hx hb dX12_meanFrom_83 ?_
            refine lv_topi (fun x_318 he_x_318 => ?_)
            have hq_x_318 := z_addq he_x_318 hk_128 (rfl : v_234.toInt = _) (by omega) (by omega)
            refine va_iald hx hb hK hP 1 0 rfl rfl (z_inN (by omega) (by omega)) dX12_meanFrom_84 ?_
            refine lv_topi (fun x_319 he_x_319 => ?_)
            have hr_x_319 := z_ct hC_g_c he_x_319 (a := 128) (b := 132) (lo := 0) (hi := 99) (by decide +kernel) (by decide) (by omega) (by omega)
            refine lv_i2l (v := (x_319).toInt64) hx hb dX12_meanFrom_85 rfl ?_
            refine lv_topl (fun x_320 he_x_320 => ?_)
            have hq_x_320 := z_i2l he_x_320
            refine lv_ladd hx hb dX12_meanFrom_86 ?_
            refine lv_topl (fun x_321 he_x_321 => ?_)
            have hq_x_321 := z_addql he_x_321 (rfl : v_236.toInt = _) (rfl : x_320.toInt = _) (by omega) (by omega)
            refine va_put (D := G) (ci := 12) (v := .long x_321) (ty := .long) (C := RX12) (T := TX12) (N := 65) hx hb hts inT12 tyX12 tyX12_ok nmX12 hown hK hP hD hS 0 rfl rfl 61 (by decide) (hts _ tw_1944) (fun _ h9 => h9) rfl (tyX12_ok 61 (by decide)) rfl rfl (Nat.le_of_ble_eq_true rfl) dX12_meanFrom_87 (fun H locs hP hD hS => ?_)
            obtain ⟨x_322, he_x_322⟩ : ∃ z : Int32, z = v_234 + 1 := ⟨_, rfl⟩
            have hq_x_322 := z_addq he_x_322 (rfl : v_234.toInt = _) hk_1 (by omega) (by omega)
            refine lv_iinc (v := x_322) (lv' := [(3, .int x_322), (4, .int r_305), (0, .ref h0), (1, .int pp), (2, .int w)]) hx hb dX12_meanFrom_90 hl (k := 4) rfl ((z_ofi (by decide +kernel)).trans he_x_322.symm) (by decide) rfl (fun ls hl => ?_)
            refine lv_goto (tgt := 12) hx hb dX12_meanFrom_93 (by decide) ?_
            have hX_323 : F_r_meanFrom m_thereMany g_c g_there pp w = F_r_meanFrom_L12a m_thereMany g_c g_there pp w n_L12a x_322 x_317 x_321 := by
              refine hF_L12a.trans ?_
              refine (F_r_meanFrom_L12a_s ..).trans ?_
              try (extract_lets -merge -useContext +onlyGivenNames y9; have e9 : x_296 = y9 := (by first | exact he_x_296 | exact he_x_296.symm); clear_value y9; subst e9)
              refine (if_neg c_297).trans ?_
              refine (if_neg c_301).trans ?_
              extract_lets -merge -useContext +onlyGivenNames w9 y9; have e9 : r_305 = w9 := he_r_305; clear_value w9; subst e9
              refine (if_pos c_310).trans ?_
              try (extract_lets -merge -useContext +onlyGivenNames y9; have e9 : x_312 = y9 := (by first | exact he_x_312 | exact he_x_312.symm); clear_value y9; subst e9)
              try (extract_lets -merge -useContext +onlyGivenNames y9; have e9 : x_313 = y9 := (by first | exact he_x_313 | exact he_x_313.symm); clear_value y9; subst e9)
              try (extract_lets -merge -useContext +onlyGivenNames y9; have e9 : x_314 = y9 := (by first | exact he_x_314 | exact he_x_314.symm); clear_value y9; subst e9)
              try (extract_lets -merge -useContext +onlyGivenNames y9; have e9 : x_315 = y9 := (by first | exact he_x_315 | exact he_x_315.symm); clear_value y9; subst e9)
              try (extract_lets -merge -useContext +onlyGivenNames y9; have e9 : x_316 = y9 := (by first | exact he_x_316 | exact he_x_316.symm); clear_value y9; subst e9)
              try (extract_lets -merge -useContext +onlyGivenNames y9; have e9 : x_317 = y9 := (by first | exact he_x_317 | exact he_x_317.symm); clear_value y9; subst e9)
              try (extract_lets -merge -useContext +onlyGivenNames y9; have e9 : x_318 = y9 := (by first | exact he_x_318 | exact he_x_318.symm); clear_value y9; subst e9)
              try (extract_lets -merge -useContext +onlyGivenNames y9; have e9 : x_319 = y9 := (by first | exact he_x_319 | exact he_x_319.symm); clear_value y9; subst e9)
              try (extract_lets -merge -useContext +onlyGivenNames y9; have e9 : x_320 = y9 := (by first | exact he_x_320 | exact he_x_320.symm); clear_value y9; subst e9)
              try (extract_lets -merge -useContext +onlyGivenNames y9; have e9 : x_321 = y9 := (by first | exact he_x_321 | exact he_x_321.symm); clear_value y9; subst e9)
              try (extract_lets -merge -useContext +onlyGivenNames y9; have e9 : x_322 = y9 := (by first | exact he_x_322 | exact he_x_322.symm); clear_value y9; subst e9)
              exact rfl
            exact ih_295 x_322 x_317 x_321 H locs ls (by omega) (by omega) (by omega) (by rw [hq_x_322]; exact zMd_yes hi_264 he_x_319 (by omega) (by omega) (hf_309 (by omega)) (by omega) (by omega)) (by omega) (by omega) hX_323 hP hD hS (lv_sub hl [2, 3, 4, 0] rfl)
          · have b_324 := z_fltF c_310
            refine lv_goto (tgt := 90) hx hb dX12_meanFrom_43 (by decide) ?_
            obtain ⟨x_325, he_x_325⟩ : ∃ z : Int32, z = v_234 + 1 := ⟨_, rfl⟩
            have hq_x_325 := z_addq he_x_325 (rfl : v_234.toInt = _) hk_1 (by omega) (by omega)
            refine lv_iinc (v := x_325) (lv' := [(3, .int x_325), (4, .int r_305), (0, .ref h0), (1, .int pp), (2, .int w)]) hx hb dX12_meanFrom_90 hl (k := 4) rfl ((z_ofi (by decide +kernel)).trans he_x_325.symm) (by decide) rfl (fun ls hl => ?_)
            refine lv_goto (tgt := 12) hx hb dX12_meanFrom_93 (by decide) ?_
            have hX_326 : F_r_meanFrom m_thereMany g_c g_there pp w = F_r_meanFrom_L12a m_thereMany g_c g_there pp w n_L12a x_325 v_235 v_236 := by
              refine hF_L12a.trans ?_
              refine (F_r_meanFrom_L12a_s ..).trans ?_
              try (extract_lets -merge -useContext +onlyGivenNames y9; have e9 : x_296 = y9 := (by first | exact he_x_296 | exact he_x_296.symm); clear_value y9; subst e9)
              refine (if_neg c_297).trans ?_
              refine (if_neg c_301).trans ?_
              extract_lets -merge -useContext +onlyGivenNames w9 y9; have e9 : r_305 = w9 := he_r_305; clear_value w9; subst e9
              refine (if_neg c_310).trans ?_
              try (extract_lets -merge -useContext +onlyGivenNames y9; have e9 : x_325 = y9 := (by first | exact he_x_325 | exact he_x_325.symm); clear_value y9; subst e9)
              exact rfl
            exact ih_295 x_325 v_235 v_236 H locs ls (by omega) (by omega) hr_v_236 (by rw [hq_x_325]; exact zMd_no hi_264 (by omega) (hf_308 (by omega))) (by omega) (by omega) hX_326 hP hD hS (lv_sub hl [2, 3, 4, 0] rfl)
  have hX_327 : F_r_meanFrom m_thereMany g_c g_there pp w = F_r_meanFrom_L12a m_thereMany g_c g_there pp w ((2147483647 - (0 : Int32).toInt).toNat + 1) (0 : Int32) (0 : Int64) (0 : Int64) := by
    refine (F_r_meanFrom_s ..).trans ?_
    exact rfl
  exact hlp_294 ((2147483647 - (0 : Int32).toInt).toNat + 1) 0 0 0 _ _ _ (Nat.lt_succ_self _) (by decide +kernel) (by decide +kernel) (Or.inr ⟨by omega, zMd_0⟩) (by omega) (by omega) hX_327 hP hD hS (lv_sub hl [1, 2, 3, 0] rfl)
set_option maxHeartbeats 40000000 in
set_option maxRecDepth 100000 in
theorem r_meanAnywhere (l : Launch) (G : va_G) (cA : zCA) (h0 : Nat) (m_status : Int32) (m_thrown : Int32) (m_above : Int64) (m_under : Int64) (a_traySort : Nat) (a_trayMany : Nat) (a_numbers : Nat) (a_tape : Nat) (m_taped : Int32) (m_textEnd : Int32) (m_faultKind : Int32) (m_faultAt : Int32) (m_bad : Int32) (m_badAt : Int32) (m_token : Int32) (m_at : Int32) (m_behind : Int32) (m_number : Int32) (m_letters : Int32) (m_word : Int64) (a_c : Nat) (a_words : Nat) (m_markMany : Int32) (a_there : Nat) (a_tried : Nat) (a_best : Nat) (a_found : Nat) (m_thereMany : Int32) (m_foundMany : Int32) (m_orderHow : Int32) (m_orderRing : Int32) (m_orderMany : Int32) (m_hasBest : Int32) (m_bestTop : Int64) (m_bestBy : Int64) (a_weights : Nat) (a_shared : Nat) (m_random : Int32) (m_truePlace : Int32) (m_trueWay : Int32) (m_seconds : Int32) (m_done : Int32) (m_feelings : Int32) (m_tries : Int32) (m_leftOver : Int32) (m_playDoor : Int32) (m_playRing : Int32) (m_isOpen : Int32) (m_isOver : Int32) (m_wasTried : Int32) (m_hasPlayed : Int32) (a_feltNow : Nat) (a_last : Nat) (a_kept : Nat) (m_hasSeconds : Int32) (m_hasTurned : Int32) (m_hasRound : Int32) (a_hasFeels : Nat) (a_isOn : Nat) (m_firstAct : Int32) (m_meanTop : Int64) (m_meanBy : Int64) (a_order : Nat) (m_rowMany : Int32) (m_newSteps : Int32) (g_c : Nat → Int32) (g_there : Nat → Int32) (hr_m_thereMany : 0 ≤ m_thereMany.toInt ∧ m_thereMany.toInt ≤ 10) (hC_g_c : zC g_c) (hC_g_there : zRg 10 0 9 g_there) : zCv l yX12_meanAnywhere cX12_meanAnywhere 6 none ({ frames := 3, cells := 0, slots := 0, locals := 72 }) G cA [.ref h0] [(h0, .inr (12, [.int m_status, .int m_thrown, .long m_above, .long m_under, .ref a_traySort, .ref a_trayMany, .ref a_numbers, .ref a_tape, .int m_taped, .int m_textEnd, .int m_faultKind, .int m_faultAt, .int m_bad, .int m_badAt, .int m_token, .int m_at, .int m_behind, .int m_number, .int m_letters, .long m_word, .ref a_c, .ref a_words, .int m_markMany, .ref a_there, .ref a_tried, .ref a_best, .ref a_found, .int m_thereMany, .int m_foundMany, .int m_orderHow, .int m_orderRing, .int m_orderMany, .int m_hasBest, .long m_bestTop, .long m_bestBy, .ref a_weights, .ref a_shared, .int m_random, .int m_truePlace, .int m_trueWay, .int m_seconds, .int m_done, .int m_feelings, .int m_tries, .int m_leftOver, .int m_playDoor, .int m_playRing, .int m_isOpen, .int m_isOver, .int m_wasTried, .int m_hasPlayed, .ref a_feltNow, .ref a_last, .ref a_kept, .int m_hasSeconds, .int m_hasTurned, .int m_hasRound, .ref a_hasFeels, .ref a_isOn, .int m_firstAct, .long m_meanTop, .long m_meanBy, .ref a_order, .int m_rowMany, .int m_newSteps])), (a_c, .inl (cA.1 0, 1825, .inl g_c)), (a_there, .inl (cA.1 0, 10, .inl g_there))] (S := Int64 × Int64) (fun (u : Int64 × Int64) => (u.1 = (F_r_meanAnywhere m_thereMany m_meanTop m_meanBy g_c g_there).1) ∧ (u.2 = (F_r_meanAnywhere m_thereMany m_meanTop m_meanBy g_c g_there).2) ∧ ((0 ≤ u.2.toInt ∧ u.2.toInt ≤ 79200) ∧ (zMB g_c g_there m_thereMany.toInt → 1 ≤ u.2.toInt))) (fun (u : Int64 × Int64) => [(h0, .inr (12, [.int m_status, .int m_thrown, .long m_above, .long m_under, .ref a_traySort, .ref a_trayMany, .ref a_numbers, .ref a_tape, .int m_taped, .int m_textEnd, .int m_faultKind, .int m_faultAt, .int m_bad, .int m_badAt, .int m_token, .int m_at, .int m_behind, .int m_number, .int m_letters, .long m_word, .ref a_c, .ref a_words, .int m_markMany, .ref a_there, .ref a_tried, .ref a_best, .ref a_found, .int m_thereMany, .int m_foundMany, .int m_orderHow, .int m_orderRing, .int m_orderMany, .int m_hasBest, .long m_bestTop, .long m_bestBy, .ref a_weights, .ref a_shared, .int m_random, .int m_truePlace, .int m_trueWay, .int m_seconds, .int m_done, .int m_feelings, .int m_tries, .int m_leftOver, .int m_playDoor, .int m_playRing, .int m_isOpen, .int m_isOver, .int m_wasTried, .int m_hasPlayed, .ref a_feltNow, .ref a_last, .ref a_kept, .int m_hasSeconds, .int m_hasTurned, .int m_hasRound, .ref a_hasFeels, .ref a_isOn, .int m_firstAct, .long u.1, .long u.2, .ref a_order, .int m_rowMany, .int m_newSteps])), (a_c, .inl (cA.1 0, 1825, .inl g_c)), (a_there, .inl (cA.1 0, 10, .inl g_there))]) 0 0 := by
  have hk_0 : (0 : Int32).toInt = 0 := by decide +kernel
  have hk_1 : (1 : Int32).toInt = 1 := by decide +kernel
  have hk_2 : (2 : Int32).toInt = 2 := by decide +kernel
  have hk_16 : (16 : Int32).toInt = 16 := by decide +kernel
  have hkl_0 : (0 : Int64).toInt = 0 := by decide +kernel
  have hkl_16 : (16 : Int64).toInt = 16 := by decide +kernel
  refine z_start2v (own := RX12) (by decide) (Nat.le_of_ble_eq_true rfl) rfl ?_
  intro p e s m args below meth c A ls Q hx hb hml hts hown hK hE hT hP hD hS hA hl hret
  have hl : lv_has ls 6 [(0, .ref h0)] := hl
  refine lv_lconst (v := 0) hx hb dX12_meanAnywhere_0 (by decide) ?_
  refine lv_lstore_n (lv' := [(1, .long 0), (0, .ref h0)]) hx hb dX12_meanAnywhere_1 rfl hl (by decide) rfl (fun ls hl => ?_)
  refine lv_lconst (v := 0) hx hb dX12_meanAnywhere_2 (by decide) ?_
  refine lv_lstore_n (lv' := [(3, .long 0), (1, .long 0), (0, .ref h0)]) hx hb dX12_meanAnywhere_3 rfl hl (by decide) rfl (fun ls hl => ?_)
  refine lv_iconst (v := 0) hx hb dX12_meanAnywhere_4 (by decide) ?_
  refine lv_istore (lv' := [(5, .int 0), (3, .long 0), (1, .long 0), (0, .ref h0)]) hx hb dX12_meanAnywhere_5 hl (by decide) rfl (fun ls hl => ?_)
  have hlp_687 : ∀ (n_L7a : Nat) (v_624 : Int64) (v_625 : Int64) (v_626 : Int32) (v_627 : Int64) (v_628 : Int64) (H : Heap) (locs : List Loc) (ls : Array Slot), (2147483647 - v_626.toInt).toNat < n_L7a → (0 ≤ v_625.toInt ∧ v_625.toInt ≤ 495) → (0 ≤ v_626.toInt ∧ v_626.toInt ≤ 20) → (v_626.toInt ≤ 0 ∨ (1 ≤ v_625.toInt ∧ zMB g_c g_there m_thereMany.toInt) ∨ (v_625.toInt = 0 ∧ ¬ zMB g_c g_there m_thereMany.toInt)) → (F_r_meanAnywhere m_thereMany m_meanTop m_meanBy g_c g_there = F_r_meanAnywhere_L7a m_thereMany g_c g_there n_L7a v_624 v_625 v_626 v_627 v_628) → va_P G vwCl [(h0, .inr (12, [.int m_status, .int m_thrown, .long m_above, .long m_under, .ref a_traySort, .ref a_trayMany, .ref a_numbers, .ref a_tape, .int m_taped, .int m_textEnd, .int m_faultKind, .int m_faultAt, .int m_bad, .int m_badAt, .int m_token, .int m_at, .int m_behind, .int m_number, .int m_letters, .long m_word, .ref a_c, .ref a_words, .int m_markMany, .ref a_there, .ref a_tried, .ref a_best, .ref a_found, .int m_thereMany, .int m_foundMany, .int m_orderHow, .int m_orderRing, .int m_orderMany, .int m_hasBest, .long m_bestTop, .long m_bestBy, .ref a_weights, .ref a_shared, .int m_random, .int m_truePlace, .int m_trueWay, .int m_seconds, .int m_done, .int m_feelings, .int m_tries, .int m_leftOver, .int m_playDoor, .int m_playRing, .int m_isOpen, .int m_isOver, .int m_wasTried, .int m_hasPlayed, .ref a_feltNow, .ref a_last, .ref a_kept, .int m_hasSeconds, .int m_hasTurned, .int m_hasRound, .ref a_hasFeels, .ref a_isOn, .int m_firstAct, .long v_627, .long v_628, .ref a_order, .int m_rowMany, .int m_newSteps])), (a_c, .inl (cA.1 0, 1825, .inl g_c)), (a_there, .inl (cA.1 0, 10, .inl g_there))] H → va_D A [(h0, .inr (12, [.int m_status, .int m_thrown, .long m_above, .long m_under, .ref a_traySort, .ref a_trayMany, .ref a_numbers, .ref a_tape, .int m_taped, .int m_textEnd, .int m_faultKind, .int m_faultAt, .int m_bad, .int m_badAt, .int m_token, .int m_at, .int m_behind, .int m_number, .int m_letters, .long m_word, .ref a_c, .ref a_words, .int m_markMany, .ref a_there, .ref a_tried, .ref a_best, .ref a_found, .int m_thereMany, .int m_foundMany, .int m_orderHow, .int m_orderRing, .int m_orderMany, .int m_hasBest, .long m_bestTop, .long m_bestBy, .ref a_weights, .ref a_shared, .int m_random, .int m_truePlace, .int m_trueWay, .int m_seconds, .int m_done, .int m_feelings, .int m_tries, .int m_leftOver, .int m_playDoor, .int m_playRing, .int m_isOpen, .int m_isOver, .int m_wasTried, .int m_hasPlayed, .ref a_feltNow, .ref a_last, .ref a_kept, .int m_hasSeconds, .int m_hasTurned, .int m_hasRound, .ref a_hasFeels, .ref a_isOn, .int m_firstAct, .long v_627, .long v_628, .ref a_order, .int m_rowMany, .int m_newSteps])), (a_c, .inl (cA.1 0, 1825, .inl g_c)), (a_there, .inl (cA.1 0, 10, .inl g_there))] → va_S A s.heap H locs → lv_has ls 6 [(0, .ref h0), (1, .long v_624), (3, .long v_625), (5, .int v_626)] → W p l e ({ frames := 3, cells := 0, slots := 0, locals := 72 }) s m args below meth c H locs 0 0 Q (F0 m 7 ls []) := by
    intro n_L7a
    induction n_L7a with
    | zero =>
      intro v_624 v_625 v_626 v_627 v_628 H locs ls hmu_hlp_687 hr_v_625 hr_v_626 hi_656 hF_L7a hP hD hS hl
      exact absurd hmu_hlp_687 (Nat.not_lt_zero _)
    | succ n_L7a ih_688 =>
      intro v_624 v_625 v_626 v_627 v_628 H locs ls hmu_hlp_687 hr_v_625 hr_v_626 hi_656 hF_L7a hP hD hS hl
      refine lv_iload hx hb dX12_meanAnywhere_7 (lv_at hl 3 rfl) ?_
      refine lv_iconst (v := 2) hx hb dX12_meanAnywhere_9 (by decide) ?_
      refine lv_aload_n hx hb dX12_meanAnywhere_10 rfl (lv_at hl 0 rfl) ?_
      refine va_get (D := G) (ci := 12) (v := .int m_thereMany) (C := RX12) (T := TX12) (N := 65) hx hb hts inT12 hown hK hP 0 rfl rfl 27 (by decide) (hts _ tw_1912) (fun _ h9 => h9) rfl dX12_meanAnywhere_11 ?_
      refine lv_imul hx hb dX12_meanAnywhere_14 ?_
      refine lv_topi (fun x_689 he_x_689 => ?_)
      have hq_x_689 := z_mulq he_x_689 hk_2 (rfl : m_thereMany.toInt = _) (by omega) (by omega)
      refine lv_icmp_ge (tgt := 77) hx hb dX12_meanAnywhere_15 (by decide) (fun c_690 => ?_) (fun c_690 => ?_)
      · have b_691 := z_fgeT c_690
        refine lv_aload_n hx hb dX12_meanAnywhere_77 rfl (lv_at hl 0 rfl) ?_
        refine lv_lload_n hx hb dX12_meanAnywhere_78 rfl (lv_at hl 1 rfl) ?_
        refine va_put (D := G) (ci := 12) (v := .long v_624) (ty := .long) (C := RX12) (T := TX12) (N := 65) hx hb hts inT12 tyX12 tyX12_ok nmX12 hown hK hP hD hS 0 rfl rfl 60 (by decide) (hts _ tw_1943) (fun _ h9 => h9) rfl (tyX12_ok 60 (by decide)) rfl rfl (Nat.le_of_ble_eq_true rfl) dX12_meanAnywhere_79 (fun H locs hP hD hS => ?_)
        refine lv_aload_n hx hb dX12_meanAnywhere_82 rfl (lv_at hl 0 rfl) ?_
        refine lv_lload_n hx hb dX12_meanAnywhere_83 rfl (lv_at hl 2 rfl) ?_
        refine lv_ldc2 (v := 16) hx hb hown (hts _ tw_2470) dX12_meanAnywhere_84 ?_
        refine lv_lmul hx hb dX12_meanAnywhere_87 ?_
        refine lv_topl (fun x_692 he_x_692 => ?_)
        have hq_x_692 := z_mulql he_x_692 (rfl : v_625.toInt = _) hkl_16 (by omega) (by omega)
        refine lv_aload_n hx hb dX12_meanAnywhere_88 rfl (lv_at hl 0 rfl) ?_
        refine va_get (D := G) (ci := 12) (v := .int m_thereMany) (C := RX12) (T := TX12) (N := 65) hx hb hts inT12 hown hK hP 0 rfl rfl 27 (by decide) (hts _ tw_1912) (fun _ h9 => h9) rfl dX12_meanAnywhere_89 ?_
        refine lv_i2l (v := (m_thereMany).toInt64) hx hb dX12_meanAnywhere_92 rfl ?_
        refine lv_topl (fun x_693 he_x_693 => ?_)
        have hq_x_693 := z_i2l he_x_693
        refine lv_lmul hx hb dX12_meanAnywhere_93 ?_
        refine lv_topl (fun x_694 he_x_694 => ?_)
        have hr_x_694 := z_mulrl he_x_694 (M := 7920) (N := 10) (by omega) (by omega) (by decide)
        have hm_x_694 := z_mulpl he_x_694 (M := 7920) (N := 10) (by omega) (by omega) (by decide)
        refine va_put (D := G) (ci := 12) (v := .long x_694) (ty := .long) (C := RX12) (T := TX12) (N := 65) hx hb hts inT12 tyX12 tyX12_ok nmX12 hown hK hP hD hS 0 rfl rfl 61 (by decide) (hts _ tw_1944) (fun _ h9 => h9) rfl (tyX12_ok 61 (by decide)) rfl rfl (Nat.le_of_ble_eq_true rfl) dX12_meanAnywhere_94 (fun H locs hP hD hS => ?_)
        have hpost : (0 ≤ x_694.toInt ∧ x_694.toInt ≤ 79200) ∧ (zMB g_c g_there m_thereMany.toInt → 1 ≤ x_694.toInt) := ⟨(by omega), (fun h1 => by have h2 := zMB_pos h1; rcases hi_656 with h | h | h <;> first | omega | exact absurd h1 h.2)⟩
        have hX_695 : F_r_meanAnywhere m_thereMany m_meanTop m_meanBy g_c g_there = ((v_624, x_694) : Int64 × Int64) := by
          refine hF_L7a.trans ?_
          refine (F_r_meanAnywhere_L7a_s ..).trans ?_
          try (extract_lets -merge -useContext +onlyGivenNames y9; have e9 : x_689 = y9 := (by first | exact he_x_689 | exact he_x_689.symm); clear_value y9; subst e9)
          refine (if_pos c_690).trans ?_
          try (extract_lets -merge -useContext +onlyGivenNames y9; have e9 : x_692 = y9 := (by first | exact he_x_692 | exact he_x_692.symm); clear_value y9; subst e9)
          try (extract_lets -merge -useContext +onlyGivenNames y9; have e9 : x_693 = y9 := (by first | exact he_x_693 | exact he_x_693.symm); clear_value y9; subst e9)
          try (extract_lets -merge -useContext +onlyGivenNames y9; have e9 : x_694 = y9 := (by first | exact he_x_694 | exact he_x_694.symm); clear_value y9; subst e9)
          exact rfl
        exact hret _ _ _ _ _ (v_624, x_694) [0, 1, 2] hP hD hS rfl (by decide) dX12_meanAnywhere_97 ⟨(congrArg (fun z9 => z9.1) hX_695).symm, (congrArg (fun z9 => z9.2) hX_695).symm, hpost⟩
      · have b_696 := z_fltF c_690
        refine lv_aload_n hx hb dX12_meanAnywhere_18 rfl (lv_at hl 0 rfl) ?_
        refine lv_iload hx hb dX12_meanAnywhere_19 (lv_at hl 3 rfl) ?_
        refine lv_iconst (v := 2) hx hb dX12_meanAnywhere_21 (by decide) ?_
        refine lv_idiv hx hb dX12_meanAnywhere_22 (by decide +kernel) ?_
        refine lv_topi (fun x_697 he_x_697 => ?_)
        have hq_x_697 := z_divq he_x_697 (rfl : v_626.toInt = _) hk_2 (by omega) (by decide)
        refine lv_iload hx hb dX12_meanAnywhere_23 (lv_at hl 3 rfl) ?_
        refine lv_iconst (v := 2) hx hb dX12_meanAnywhere_25 (by decide) ?_
        refine lv_irem hx hb dX12_meanAnywhere_26 (by decide +kernel) ?_
        refine lv_topi (fun x_698 he_x_698 => ?_)
        have hq_x_698 := z_remq he_x_698 (rfl : v_626.toInt = _) hk_2 (by omega) (by decide)
        refine z_callVv (As := [.int x_697, .int x_698]) (rest := []) (wr := []) ⟨hx, hb, hml, hown, hts⟩ hK hE hT hP hD hS hA (r_meanFrom l G cA h0 m_status m_thrown m_above m_under a_traySort a_trayMany a_numbers a_tape m_taped m_textEnd m_faultKind m_faultAt m_bad m_badAt m_token m_at m_behind m_number m_letters m_word a_c a_words m_markMany a_there a_tried a_best a_found m_thereMany m_foundMany m_orderHow m_orderRing m_orderMany m_hasBest m_bestTop m_bestBy a_weights a_shared m_random m_truePlace m_trueWay m_seconds m_done m_feelings m_tries m_leftOver m_playDoor m_playRing m_isOpen m_isOver m_wasTried m_hasPlayed a_feltNow a_last a_kept m_hasSeconds m_hasTurned m_hasRound a_hasFeels a_isOn m_firstAct v_627 v_628 a_order m_rowMany m_newSteps g_c g_there x_697 x_698 (by omega) (by omega) hr_m_thereMany hC_g_c hC_g_there (by omega)) lk_RX12_396 ⟨rfl, rfl⟩ ⟨Nat.le_of_ble_eq_true rfl, Nat.le_of_ble_eq_true rfl⟩ 12 rfl rfl rfl [0, 1, 2] [] rfl rfl (by decide) rfl hl.1 rfl (lv_room (Nat.le_of_ble_eq_true rfl)) dX12_meanAnywhere_27 ⟨Nat.le_of_ble_eq_true rfl, Nat.le_of_ble_eq_true rfl⟩ (fun u_702 H locs hw hP hD hS => ?_)
        obtain ⟨n_699, n_700⟩ := u_702
        try dsimp only at hw
        obtain ⟨he_n_699, he_n_700, hw⟩ := hw
        obtain ⟨hr_n_700, hf_704⟩ := hw
        refine lv_lload_n hx hb dX12_meanAnywhere_30 rfl (lv_at hl 1 rfl) ?_
        refine lv_iload hx hb dX12_meanAnywhere_31 (lv_at hl 3 rfl) ?_
        refine lv_iconst (v := 2) hx hb dX12_meanAnywhere_33 (by decide) ?_
        refine lv_irem hx hb dX12_meanAnywhere_34 (by decide +kernel) ?_
        refine lv_topi (fun x_705 he_x_705 => ?_)
        have hq_x_705 := z_remq he_x_705 (rfl : v_626.toInt = _) hk_2 (by omega) (by decide)
        refine lv_if_ne (tgt := 51) hx hb dX12_meanAnywhere_35 (by decide) (fun c_706 => ?_) (fun c_706 => ?_)
        · have b_707 := z_fneT c_706
          refine lv_aload_n hx hb dX12_meanAnywhere_51 rfl (lv_at hl 0 rfl) ?_
          refine va_get (D := G) (ci := 12) (v := .ref a_c) (C := RX12) (T := TX12) (N := 65) hx hb hts inT12 hown hK hP 0 rfl rfl 20 (by decide) (hts _ tw_1905) (fun _ h9 => h9) rfl dX12_meanAnywhere_52 ?_
          refine lv_bipush (v := 9) hx hb dX12_meanAnywhere_55 (by decide) ?_
          refine va_iald hx hb hK hP 1 0 rfl rfl (z_in (i := 9) (n := 1825) (by decide +kernel) (by decide +kernel)) dX12_meanAnywhere_57 ?_
          refine lv_topi (fun x_708 he_x_708 => ?_)
          have hr_x_708 := z_ctk hC_g_c he_x_708 (k := 9) (lo := 0) (hi := 16) (by decide +kernel) (by decide +kernel) (by decide +kernel)
          refine lv_i2l (v := (x_708).toInt64) hx hb dX12_meanAnywhere_58 rfl ?_
          refine lv_topl (fun x_709 he_x_709 => ?_)
          have hq_x_709 := z_i2l he_x_709
          refine lv_aload_n hx hb dX12_meanAnywhere_59 rfl (lv_at hl 0 rfl) ?_
          refine va_get (D := G) (ci := 12) (v := .long n_699) (C := RX12) (T := TX12) (N := 65) hx hb hts inT12 hown hK hP 0 rfl rfl 60 (by decide) (hts _ tw_1943) (fun _ h9 => h9) rfl dX12_meanAnywhere_60 ?_
          refine lv_lmul hx hb dX12_meanAnywhere_63 ?_
          have hL_n_699 := z_fulll n_699
          refine lv_topl (fun x_710 he_x_710 => ?_)
          refine lv_ladd hx hb dX12_meanAnywhere_64 ?_
          have hL_v_624 := z_fulll v_624
          have hL_x_710 := z_fulll x_710
          refine lv_topl (fun x_711 he_x_711 => ?_)
          refine lv_lstore_n (lv' := [(1, .long x_711), (0, .ref h0), (3, .long v_625), (5, .int v_626)]) hx hb dX12_meanAnywhere_65 rfl hl (by decide) rfl (fun ls hl => ?_)
          refine lv_aload_n hx hb dX12_meanAnywhere_66 rfl (lv_at hl 1 rfl) ?_
          refine va_get (D := G) (ci := 12) (v := .long n_700) (C := RX12) (T := TX12) (N := 65) hx hb hts inT12 hown hK hP 0 rfl rfl 61 (by decide) (hts _ tw_1944) (fun _ h9 => h9) rfl dX12_meanAnywhere_67 ?_
          refine lv_lstore_n (lv' := [(3, .long n_700), (1, .long x_711), (0, .ref h0), (5, .int v_626)]) hx hb dX12_meanAnywhere_70 rfl hl (by decide) rfl (fun ls hl => ?_)
          obtain ⟨x_712, he_x_712⟩ : ∃ z : Int32, z = v_626 + 1 := ⟨_, rfl⟩
          have hq_x_712 := z_addq he_x_712 (rfl : v_626.toInt = _) hk_1 (by omega) (by omega)
          refine lv_iinc (v := x_712) (lv' := [(5, .int x_712), (3, .long n_700), (1, .long x_711), (0, .ref h0)]) hx hb dX12_meanAnywhere_71 hl (k := 3) rfl ((z_ofi (by decide +kernel)).trans he_x_712.symm) (by decide) rfl (fun ls hl => ?_)
          refine lv_goto (tgt := 7) hx hb dX12_meanAnywhere_74 (by decide) ?_
          have hX_713 : F_r_meanAnywhere m_thereMany m_meanTop m_meanBy g_c g_there = F_r_meanAnywhere_L7a m_thereMany g_c g_there n_L7a x_711 n_700 x_712 n_699 n_700 := by
            refine hF_L7a.trans ?_
            refine (F_r_meanAnywhere_L7a_s ..).trans ?_
            try (extract_lets -merge -useContext +onlyGivenNames y9; have e9 : x_689 = y9 := (by first | exact he_x_689 | exact he_x_689.symm); clear_value y9; subst e9)
            refine (if_neg c_690).trans ?_
            try (extract_lets -merge -useContext +onlyGivenNames y9; have e9 : x_697 = y9 := (by first | exact he_x_697 | exact he_x_697.symm); clear_value y9; subst e9)
            try (extract_lets -merge -useContext +onlyGivenNames y9; have e9 : x_698 = y9 := (by first | exact he_x_698 | exact he_x_698.symm); clear_value y9; subst e9)
            extract_lets -merge -useContext +onlyGivenNames w9 y4_0 y4_1; have e9 : (n_699, n_700) = w9 := ((z_tS he_n_699 he_n_700.symm)).symm; clear_value w9; subst e9
            try (extract_lets -merge -useContext +onlyGivenNames y9; have e9 : x_705 = y9 := (by first | exact he_x_705 | exact he_x_705.symm); clear_value y9; subst e9)
            refine (if_neg c_706).trans ?_
            try (extract_lets -merge -useContext +onlyGivenNames y9; have e9 : x_708 = y9 := (by first | exact he_x_708 | exact he_x_708.symm); clear_value y9; subst e9)
            try (extract_lets -merge -useContext +onlyGivenNames y9; have e9 : x_709 = y9 := (by first | exact he_x_709 | exact he_x_709.symm); clear_value y9; subst e9)
            try (extract_lets -merge -useContext +onlyGivenNames y9; have e9 : x_710 = y9 := (by first | exact he_x_710 | exact he_x_710.symm); clear_value y9; subst e9)
            try (extract_lets -merge -useContext +onlyGivenNames y9; have e9 : x_711 = y9 := (by first | exact he_x_711 | exact he_x_711.symm); clear_value y9; subst e9)
            try (extract_lets -merge -useContext +onlyGivenNames y9; have e9 : x_712 = y9 := (by first | exact he_x_712 | exact he_x_712.symm); clear_value y9; subst e9)
            exact rfl
          exact ih_688 x_711 n_700 x_712 n_699 n_700 H locs ls (by omega) hr_n_700 (by omega) (Or.inr hf_704) hX_713 hP hD hS (lv_sub hl [3, 2, 1, 0] rfl)
        · have b_714 := z_feqF c_706
          refine lv_bipush (v := 16) hx hb dX12_meanAnywhere_38 (by decide) ?_
          refine lv_aload_n hx hb dX12_meanAnywhere_40 rfl (lv_at hl 0 rfl) ?_
          refine va_get (D := G) (ci := 12) (v := .ref a_c) (C := RX12) (T := TX12) (N := 65) hx hb hts inT12 hown hK hP 0 rfl rfl 20 (by decide) (hts _ tw_1905) (fun _ h9 => h9) rfl dX12_meanAnywhere_41 ?_
          refine lv_bipush (v := 9) hx hb dX12_meanAnywhere_44 (by decide) ?_
          refine va_iald hx hb hK hP 1 0 rfl rfl (z_in (i := 9) (n := 1825) (by decide +kernel) (by decide +kernel)) dX12_meanAnywhere_46 ?_
          refine lv_topi (fun x_715 he_x_715 => ?_)
          have hr_x_715 := z_ctk hC_g_c he_x_715 (k := 9) (lo := 0) (hi := 16) (by decide +kernel) (by decide +kernel) (by decide +kernel)
          refine lv_isub hx hb dX12_meanAnywhere_47 ?_
          refine lv_topi (fun x_716 he_x_716 => ?_)
          have hq_x_716 := z_subq he_x_716 hk_16 (rfl : x_715.toInt = _) (by omega) (by omega)
          refine lv_goto (tgt := 58) hx hb dX12_meanAnywhere_48 (by decide) ?_
          refine lv_i2l (v := (x_716).toInt64) hx hb dX12_meanAnywhere_58 rfl ?_
          refine lv_topl (fun x_717 he_x_717 => ?_)
          have hq_x_717 := z_i2l he_x_717
          refine lv_aload_n hx hb dX12_meanAnywhere_59 rfl (lv_at hl 0 rfl) ?_
          refine va_get (D := G) (ci := 12) (v := .long n_699) (C := RX12) (T := TX12) (N := 65) hx hb hts inT12 hown hK hP 0 rfl rfl 60 (by decide) (hts _ tw_1943) (fun _ h9 => h9) rfl dX12_meanAnywhere_60 ?_
          refine lv_lmul hx hb dX12_meanAnywhere_63 ?_
          have hL_n_699 := z_fulll n_699
          refine lv_topl (fun x_718 he_x_718 => ?_)
          refine lv_ladd hx hb dX12_meanAnywhere_64 ?_
          have hL_v_624 := z_fulll v_624
          have hL_x_718 := z_fulll x_718
          refine lv_topl (fun x_719 he_x_719 => ?_)
          refine lv_lstore_n (lv' := [(1, .long x_719), (0, .ref h0), (3, .long v_625), (5, .int v_626)]) hx hb dX12_meanAnywhere_65 rfl hl (by decide) rfl (fun ls hl => ?_)
          refine lv_aload_n hx hb dX12_meanAnywhere_66 rfl (lv_at hl 1 rfl) ?_
          refine va_get (D := G) (ci := 12) (v := .long n_700) (C := RX12) (T := TX12) (N := 65) hx hb hts inT12 hown hK hP 0 rfl rfl 61 (by decide) (hts _ tw_1944) (fun _ h9 => h9) rfl dX12_meanAnywhere_67 ?_
          refine lv_lstore_n (lv' := [(3, .long n_700), (1, .long x_719), (0, .ref h0), (5, .int v_626)]) hx hb dX12_meanAnywhere_70 rfl hl (by decide) rfl (fun ls hl => ?_)
          obtain ⟨x_720, he_x_720⟩ : ∃ z : Int32, z = v_626 + 1 := ⟨_, rfl⟩
          have hq_x_720 := z_addq he_x_720 (rfl : v_626.toInt = _) hk_1 (by omega) (by omega)
          refine lv_iinc (v := x_720) (lv' := [(5, .int x_720), (3, .long n_700), (1, .long x_719), (0, .ref h0)]) hx hb dX12_meanAnywhere_71 hl (k := 3) rfl ((z_ofi (by decide +kernel)).trans he_x_720.symm) (by decide) rfl (fun ls hl => ?_)
          refine lv_goto (tgt := 7) hx hb dX12_meanAnywhere_74 (by decide) ?_
          have hX_721 : F_r_meanAnywhere m_thereMany m_meanTop m_meanBy g_c g_there = F_r_meanAnywhere_L7a m_thereMany g_c g_there n_L7a x_719 n_700 x_720 n_699 n_700 := by
            refine hF_L7a.trans ?_
            refine (F_r_meanAnywhere_L7a_s ..).trans ?_
            try (extract_lets -merge -useContext +onlyGivenNames y9; have e9 : x_689 = y9 := (by first | exact he_x_689 | exact he_x_689.symm); clear_value y9; subst e9)
            refine (if_neg c_690).trans ?_
            try (extract_lets -merge -useContext +onlyGivenNames y9; have e9 : x_697 = y9 := (by first | exact he_x_697 | exact he_x_697.symm); clear_value y9; subst e9)
            try (extract_lets -merge -useContext +onlyGivenNames y9; have e9 : x_698 = y9 := (by first | exact he_x_698 | exact he_x_698.symm); clear_value y9; subst e9)
            extract_lets -merge -useContext +onlyGivenNames w9 y4_0 y4_1; have e9 : (n_699, n_700) = w9 := ((z_tS he_n_699 he_n_700.symm)).symm; clear_value w9; subst e9
            try (extract_lets -merge -useContext +onlyGivenNames y9; have e9 : x_705 = y9 := (by first | exact he_x_705 | exact he_x_705.symm); clear_value y9; subst e9)
            refine (if_pos c_706).trans ?_
            try (extract_lets -merge -useContext +onlyGivenNames y9; have e9 : x_715 = y9 := (by first | exact he_x_715 | exact he_x_715.symm); clear_value y9; subst e9)
            try (extract_lets -merge -useContext +onlyGivenNames y9; have e9 : x_716 = y9 := (by first | exact he_x_716 | exact he_x_716.symm); clear_value y9; subst e9)
            try (extract_lets -merge -useContext +onlyGivenNames y9; have e9 : x_717 = y9 := (by first | exact he_x_717 | exact he_x_717.symm); clear_value y9; subst e9)
            try (extract_lets -merge -useContext +onlyGivenNames y9; have e9 : x_718 = y9 := (by first | exact he_x_718 | exact he_x_718.symm); clear_value y9; subst e9)
            try (extract_lets -merge -useContext +onlyGivenNames y9; have e9 : x_719 = y9 := (by first | exact he_x_719 | exact he_x_719.symm); clear_value y9; subst e9)
            try (extract_lets -merge -useContext +onlyGivenNames y9; have e9 : x_720 = y9 := (by first | exact he_x_720 | exact he_x_720.symm); clear_value y9; subst e9)
            exact rfl
          exact ih_688 x_719 n_700 x_720 n_699 n_700 H locs ls (by omega) hr_n_700 (by omega) (Or.inr hf_704) hX_721 hP hD hS (lv_sub hl [3, 2, 1, 0] rfl)
  have hX_722 : F_r_meanAnywhere m_thereMany m_meanTop m_meanBy g_c g_there = F_r_meanAnywhere_L7a m_thereMany g_c g_there ((2147483647 - (0 : Int32).toInt).toNat + 1) (0 : Int64) (0 : Int64) (0 : Int32) m_meanTop m_meanBy := by
    refine (F_r_meanAnywhere_s ..).trans ?_
    exact rfl
  exact hlp_687 ((2147483647 - (0 : Int32).toInt).toNat + 1) 0 0 0 m_meanTop m_meanBy _ _ _ (Nat.lt_succ_self _) (by decide +kernel) (by decide +kernel) (Or.inl (by omega)) hX_722 hP hD hS (lv_sub hl [3, 2, 1, 0] rfl)
set_option maxHeartbeats 40000000 in
set_option maxRecDepth 100000 in
theorem r_from (l : Launch) (G : va_G) (cA : zCA) (h0 : Nat) (m_status : Int32) (m_thrown : Int32) (m_above : Int64) (m_under : Int64) (a_traySort : Nat) (a_trayMany : Nat) (a_numbers : Nat) (a_tape : Nat) (m_taped : Int32) (m_textEnd : Int32) (m_faultKind : Int32) (m_faultAt : Int32) (m_bad : Int32) (m_badAt : Int32) (m_token : Int32) (m_at : Int32) (m_behind : Int32) (m_number : Int32) (m_letters : Int32) (m_word : Int64) (a_c : Nat) (a_words : Nat) (m_markMany : Int32) (a_there : Nat) (a_tried : Nat) (a_best : Nat) (a_found : Nat) (m_thereMany : Int32) (m_foundMany : Int32) (m_orderHow : Int32) (m_orderRing : Int32) (m_orderMany : Int32) (m_hasBest : Int32) (m_bestTop : Int64) (m_bestBy : Int64) (a_weights : Nat) (a_shared : Nat) (m_random : Int32) (m_truePlace : Int32) (m_trueWay : Int32) (m_seconds : Int32) (m_done : Int32) (m_feelings : Int32) (m_tries : Int32) (m_leftOver : Int32) (m_playDoor : Int32) (m_playRing : Int32) (m_isOpen : Int32) (m_isOver : Int32) (m_wasTried : Int32) (m_hasPlayed : Int32) (a_feltNow : Nat) (a_last : Nat) (a_kept : Nat) (m_hasSeconds : Int32) (m_hasTurned : Int32) (m_hasRound : Int32) (a_hasFeels : Nat) (a_isOn : Nat) (m_firstAct : Int32) (m_meanTop : Int64) (m_meanBy : Int64) (a_order : Nat) (m_rowMany : Int32) (m_newSteps : Int32) (g_c : Nat → Int32) (g_there : Nat → Int32) (r : Int32) (pp : Int32) (w : Int32) (hr_m_thereMany : 0 ≤ m_thereMany.toInt ∧ m_thereMany.toInt ≤ 10) (hC_g_c : zC g_c) (hC_g_there : zRg 10 0 9 g_there) : zCi l yX12_from cX12_from 4 (some .boolean) ({ frames := 3, cells := 0, slots := 0, locals := 72 }) G cA [.ref h0, .int r, .int pp, .int w] [(h0, .inr (12, [.int m_status, .int m_thrown, .long m_above, .long m_under, .ref a_traySort, .ref a_trayMany, .ref a_numbers, .ref a_tape, .int m_taped, .int m_textEnd, .int m_faultKind, .int m_faultAt, .int m_bad, .int m_badAt, .int m_token, .int m_at, .int m_behind, .int m_number, .int m_letters, .long m_word, .ref a_c, .ref a_words, .int m_markMany, .ref a_there, .ref a_tried, .ref a_best, .ref a_found, .int m_thereMany, .int m_foundMany, .int m_orderHow, .int m_orderRing, .int m_orderMany, .int m_hasBest, .long m_bestTop, .long m_bestBy, .ref a_weights, .ref a_shared, .int m_random, .int m_truePlace, .int m_trueWay, .int m_seconds, .int m_done, .int m_feelings, .int m_tries, .int m_leftOver, .int m_playDoor, .int m_playRing, .int m_isOpen, .int m_isOver, .int m_wasTried, .int m_hasPlayed, .ref a_feltNow, .ref a_last, .ref a_kept, .int m_hasSeconds, .int m_hasTurned, .int m_hasRound, .ref a_hasFeels, .ref a_isOn, .int m_firstAct, .long m_meanTop, .long m_meanBy, .ref a_order, .int m_rowMany, .int m_newSteps])), (a_c, .inl (cA.1 0, 1825, .inl g_c)), (a_there, .inl (cA.1 0, 10, .inl g_there))] (S := Int32 × Int32 × Int32 × (Nat → Int32) × Int64 × Int64 × Int64 × Int64) (fun (r_0 : Int32) (u : Int32 × Int32 × Int32 × (Nat → Int32) × Int64 × Int64 × Int64 × Int64) => (r_0 = (F_r_from g_c g_there r pp w)) ∧ ((r_0 = 0 ∧ (0 ≤ u.2.1.toInt ∧ u.2.1.toInt ≤ 0) ∧ (0 ≤ u.2.2.1.toInt ∧ u.2.2.1.toInt ≤ 10) ∧ (zRg 10 0 9 u.2.2.2.1)) ∨ (r_0 = 1 ∧ (0 ≤ u.1.toInt ∧ u.1.toInt ≤ 0) ∧ (0 ≤ u.2.1.toInt ∧ u.2.1.toInt ≤ 0) ∧ (0 ≤ u.2.2.1.toInt ∧ u.2.2.1.toInt ≤ 10) ∧ (zRg 10 0 9 u.2.2.2.1) ∧ (1 ≤ u.2.2.2.2.2.2.2.toInt ∧ u.2.2.2.2.2.2.2.toInt ≤ 495)))) (fun (u : Int32 × Int32 × Int32 × (Nat → Int32) × Int64 × Int64 × Int64 × Int64) => [(h0, .inr (12, [.int u.1, .int u.2.1, .long u.2.2.2.2.1, .long u.2.2.2.2.2.1, .ref a_traySort, .ref a_trayMany, .ref a_numbers, .ref a_tape, .int m_taped, .int m_textEnd, .int m_faultKind, .int m_faultAt, .int m_bad, .int m_badAt, .int m_token, .int m_at, .int m_behind, .int m_number, .int m_letters, .long m_word, .ref a_c, .ref a_words, .int m_markMany, .ref a_there, .ref a_tried, .ref a_best, .ref a_found, .int u.2.2.1, .int m_foundMany, .int m_orderHow, .int m_orderRing, .int m_orderMany, .int m_hasBest, .long m_bestTop, .long m_bestBy, .ref a_weights, .ref a_shared, .int m_random, .int m_truePlace, .int m_trueWay, .int m_seconds, .int m_done, .int m_feelings, .int m_tries, .int m_leftOver, .int m_playDoor, .int m_playRing, .int m_isOpen, .int m_isOver, .int m_wasTried, .int m_hasPlayed, .ref a_feltNow, .ref a_last, .ref a_kept, .int m_hasSeconds, .int m_hasTurned, .int m_hasRound, .ref a_hasFeels, .ref a_isOn, .int m_firstAct, .long u.2.2.2.2.2.2.1, .long u.2.2.2.2.2.2.2, .ref a_order, .int m_rowMany, .int m_newSteps])), (a_c, .inl (cA.1 0, 1825, .inl g_c)), (a_there, .inl (cA.1 0, 10, .inl u.2.2.2.1))]) 0 0 := by
  have hk_1 : (1 : Int32).toInt = 1 := by decide +kernel
  have hk_2 : (2 : Int32).toInt = 2 := by decide +kernel
  have hk_5 : (5 : Int32).toInt = 5 := by decide +kernel
  have hk_8 : (8 : Int32).toInt = 8 := by decide +kernel
  have hkl_0 : (0 : Int64).toInt = 0 := by decide +kernel
  have hkl_1 : (1 : Int64).toInt = 1 := by decide +kernel
  refine z_start2z (own := RX12) (by decide) (Nat.le_of_ble_eq_true rfl) rfl ?_
  intro p e s m args below meth c A ls Q hx hb hml hts hown hK hE hT hP hD hS hA hl hret
  have hl : lv_has ls 4 [(0, .ref h0), (1, .int r), (2, .int pp), (3, .int w)] := hl
  refine lv_aload_n hx hb dX12_from_0 rfl (lv_at hl 0 rfl) ?_
  refine lv_iconst (v := 0) hx hb dX12_from_1 (by decide) ?_
  refine va_put (D := G) (ci := 12) (v := .int 0) (ty := .int) (C := RX12) (T := TX12) (N := 65) hx hb hts inT12 tyX12 tyX12_ok nmX12 hown hK hP hD hS 0 rfl rfl 1 (by decide) (hts _ tw_1886) (fun _ h9 => h9) rfl (tyX12_ok 1 (by decide)) rfl rfl (Nat.le_of_ble_eq_true rfl) dX12_from_2 (fun H locs hP hD hS => ?_)
  refine lv_aload_n hx hb dX12_from_5 rfl (lv_at hl 0 rfl) ?_
  refine lv_iconst (v := 0) hx hb dX12_from_6 (by decide) ?_
  refine va_put (D := G) (ci := 12) (v := .int 0) (ty := .int) (C := RX12) (T := TX12) (N := 65) hx hb hts inT12 tyX12 tyX12_ok nmX12 hown hK hP hD hS 0 rfl rfl 0 (by decide) (hts _ tw_1885) (fun _ h9 => h9) rfl (tyX12_ok 0 (by decide)) rfl rfl (Nat.le_of_ble_eq_true rfl) dX12_from_7 (fun H locs hP hD hS => ?_)
  refine lv_aload_n hx hb dX12_from_10 rfl (lv_at hl 0 rfl) ?_
  refine lv_iload_n hx hb dX12_from_11 rfl (lv_at hl 1 rfl) ?_
  refine z_callVi (As := [.int r]) (rest := []) (wr := [(a_there, .inl (cA.1 0, 10, .inl g_there))]) ⟨hx, hb, hml, hown, hts⟩ hK hE hT hP hD hS hA (r_isRing l G cA h0 0 0 m_above m_under a_traySort a_trayMany a_numbers a_tape m_taped m_textEnd m_faultKind m_faultAt m_bad m_badAt m_token m_at m_behind m_number m_letters m_word a_c a_words m_markMany a_there a_tried a_best a_found m_thereMany m_foundMany m_orderHow m_orderRing m_orderMany m_hasBest m_bestTop m_bestBy a_weights a_shared m_random m_truePlace m_trueWay m_seconds m_done m_feelings m_tries m_leftOver m_playDoor m_playRing m_isOpen m_isOver m_wasTried m_hasPlayed a_feltNow a_last a_kept m_hasSeconds m_hasTurned m_hasRound a_hasFeels a_isOn m_firstAct m_meanTop m_meanBy a_order m_rowMany m_newSteps g_c r hC_g_c) lk_RX12_289 ⟨rfl, rfl⟩ ⟨Nat.le_of_ble_eq_true rfl, Nat.le_of_ble_eq_true rfl⟩ 12 rfl rfl rfl [0, 1] [2] rfl rfl (by decide) rfl hl.1 rfl (lv_room (Nat.le_of_ble_eq_true rfl)) dX12_from_12 ⟨Nat.le_of_ble_eq_true rfl, Nat.le_of_ble_eq_true rfl⟩ (fun r_1 u_2 H locs hw hP hD hS => ?_)
  obtain ⟨he_r_1, hw⟩ := hw
  rcases hw with ⟨rfl, -⟩ | ⟨rfl, hf_4, hf_5⟩
  · skip
    refine lv_if_ne (tgt := 24) hx hb dX12_from_15 (by decide) (fun h9 => absurd (by decide +kernel) h9) (fun _ => ?_)
    refine lv_aload_n hx hb dX12_from_18 rfl (lv_at hl 0 rfl) ?_
    refine lv_iconst (v := 2) hx hb dX12_from_19 (by decide) ?_
    refine z_callVi (As := [.int 2]) (rest := []) (wr := [(a_there, .inl (cA.1 0, 10, .inl g_there)), (a_c, .inl (cA.1 0, 1825, .inl g_c))]) ⟨hx, hb, hml, hown, hts⟩ hK hE hT hP hD hS hA (r_no l G cA h0 0 0 m_above m_under a_traySort a_trayMany a_numbers a_tape m_taped m_textEnd m_faultKind m_faultAt m_bad m_badAt m_token m_at m_behind m_number m_letters m_word a_c a_words m_markMany a_there a_tried a_best a_found m_thereMany m_foundMany m_orderHow m_orderRing m_orderMany m_hasBest m_bestTop m_bestBy a_weights a_shared m_random m_truePlace m_trueWay m_seconds m_done m_feelings m_tries m_leftOver m_playDoor m_playRing m_isOpen m_isOver m_wasTried m_hasPlayed a_feltNow a_last a_kept m_hasSeconds m_hasTurned m_hasRound a_hasFeels a_isOn m_firstAct m_meanTop m_meanBy a_order m_rowMany m_newSteps 2) lk_RX12_97 ⟨rfl, rfl⟩ ⟨Nat.le_of_ble_eq_true rfl, Nat.le_of_ble_eq_true rfl⟩ 12 rfl rfl rfl [1] [0, 2] rfl rfl (by decide) rfl hl.1 rfl (lv_room (Nat.le_of_ble_eq_true rfl)) dX12_from_20 ⟨Nat.le_of_ble_eq_true rfl, Nat.le_of_ble_eq_true rfl⟩ (fun r_7 u_8 H locs hw hP hD hS => ?_)
    obtain ⟨n_6, rfl⟩ : ∃ z, z = u_8 := ⟨_, rfl⟩
    obtain ⟨he_r_7, he_n_6, hw⟩ := hw
    obtain ⟨rfl, -⟩ := hw
    have hpost : ((0 : Int32) = 0 ∧ (0 ≤ (0 : Int32).toInt ∧ (0 : Int32).toInt ≤ 0) ∧ (0 ≤ m_thereMany.toInt ∧ m_thereMany.toInt ≤ 10) ∧ (zRg 10 0 9 g_there)) ∨ ((0 : Int32) = 1 ∧ (0 ≤ n_6.toInt ∧ n_6.toInt ≤ 0) ∧ (0 ≤ (0 : Int32).toInt ∧ (0 : Int32).toInt ≤ 0) ∧ (0 ≤ m_thereMany.toInt ∧ m_thereMany.toInt ≤ 10) ∧ (zRg 10 0 9 g_there) ∧ (1 ≤ m_meanBy.toInt ∧ m_meanBy.toInt ≤ 495)) := (Or.inl ⟨rfl, ⟨(by decide +kernel), hr_m_thereMany, hC_g_there⟩⟩)
    have hX_10 : F_r_from g_c g_there r pp w = ((0 : Int32) : Int32) := by
      refine (F_r_from_s ..).trans ?_
      extract_lets -merge -useContext +onlyGivenNames w9 y9; have e9 : (0 : Int32) = w9 := he_r_1; clear_value w9; subst e9
      refine (if_pos rfl).trans ?_
      extract_lets -merge -useContext +onlyGivenNames w9 y2_0 y2_1; have e9 : ((0 : Int32), n_6) = w9 := ((z_tS he_r_7 he_n_6.symm)).symm; clear_value w9; subst e9
      exact rfl
    exact hret _ _ _ _ _ _ (n_6, 0, m_thereMany, g_there, m_above, m_under, m_meanTop, m_meanBy) [2, 1, 0] hP hD hS rfl (by decide) dX12_from_23 (Or.inl rfl) ⟨(congrArg (fun z9 => z9) hX_10).symm, hpost⟩
  · skip
    refine lv_if_ne (tgt := 24) hx hb dX12_from_15 (by decide) (fun _ => ?_) (fun h9 => absurd h9 (by decide +kernel))
    refine lv_aload_n hx hb dX12_from_24 rfl (lv_at hl 0 rfl) ?_
    refine lv_iload_n hx hb dX12_from_25 rfl (lv_at hl 1 rfl) ?_
    refine z_callVv (As := [.int r]) (rest := []) (wr := []) ⟨hx, hb, hml, hown, hts⟩ hK hE hT hP hD hS hA (r_gather l G cA h0 0 0 m_above m_under a_traySort a_trayMany a_numbers a_tape m_taped m_textEnd m_faultKind m_faultAt m_bad m_badAt m_token m_at m_behind m_number m_letters m_word a_c a_words m_markMany a_there a_tried a_best a_found m_thereMany m_foundMany m_orderHow m_orderRing m_orderMany m_hasBest m_bestTop m_bestBy a_weights a_shared m_random m_truePlace m_trueWay m_seconds m_done m_feelings m_tries m_leftOver m_playDoor m_playRing m_isOpen m_isOver m_wasTried m_hasPlayed a_feltNow a_last a_kept m_hasSeconds m_hasTurned m_hasRound a_hasFeels a_isOn m_firstAct m_meanTop m_meanBy a_order m_rowMany m_newSteps g_c g_there r (by omega) hr_m_thereMany hC_g_c hC_g_there) lk_RX12_292 ⟨rfl, rfl⟩ ⟨Nat.le_of_ble_eq_true rfl, Nat.le_of_ble_eq_true rfl⟩ 12 rfl rfl rfl [1, 2, 0] [] rfl rfl (by decide) rfl hl.1 rfl (lv_room (Nat.le_of_ble_eq_true rfl)) dX12_from_26 ⟨Nat.le_of_ble_eq_true rfl, Nat.le_of_ble_eq_true rfl⟩ (fun u_14 H locs hw hP hD hS => ?_)
    obtain ⟨n_11, n_12⟩ := u_14
    try dsimp only at hw
    obtain ⟨he_n_11, he_n_12, hw⟩ := hw
    obtain ⟨hr_n_11, hC_n_12, hf_16, hf_17⟩ := hw
    refine lv_iload_n hx hb dX12_from_29 rfl (lv_at hl 2 rfl) ?_
    refine lv_i2l (v := (pp).toInt64) hx hb dX12_from_30 rfl ?_
    refine lv_topl (fun x_18 he_x_18 => ?_)
    have hq_x_18 := z_i2l he_x_18
    have hL_pp := z_full pp
    refine lv_lconst (v := 0) hx hb dX12_from_31 (by decide) ?_
    refine lv_aload_n hx hb dX12_from_32 rfl (lv_at hl 0 rfl) ?_
    refine va_get (D := G) (ci := 12) (v := .int n_11) (C := RX12) (T := TX12) (N := 65) hx hb hts inT12 hown hK hP 0 rfl rfl 27 (by decide) (hts _ tw_1912) (fun _ h9 => h9) rfl dX12_from_33 ?_
    refine lv_iconst (v := 1) hx hb dX12_from_36 (by decide) ?_
    refine lv_isub hx hb dX12_from_37 ?_
    refine lv_topi (fun x_19 he_x_19 => ?_)
    have hq_x_19 := z_subq he_x_19 (rfl : n_11.toInt = _) hk_1 (by omega) (by omega)
    refine lv_i2l (v := (x_19).toInt64) hx hb dX12_from_38 rfl ?_
    refine lv_topl (fun x_20 he_x_20 => ?_)
    have hq_x_20 := z_i2l he_x_20
    refine z_callSi (As := [.long x_18, .long 0, .long x_20]) (rest := []) (wr := [(h0, .inr (12, [.int 0, .int 0, .long m_above, .long m_under, .ref a_traySort, .ref a_trayMany, .ref a_numbers, .ref a_tape, .int m_taped, .int m_textEnd, .int m_faultKind, .int m_faultAt, .int m_bad, .int m_badAt, .int m_token, .int m_at, .int m_behind, .int m_number, .int m_letters, .long m_word, .ref a_c, .ref a_words, .int m_markMany, .ref a_there, .ref a_tried, .ref a_best, .ref a_found, .int n_11, .int m_foundMany, .int m_orderHow, .int m_orderRing, .int m_orderMany, .int m_hasBest, .long m_bestTop, .long m_bestBy, .ref a_weights, .ref a_shared, .int m_random, .int m_truePlace, .int m_trueWay, .int m_seconds, .int m_done, .int m_feelings, .int m_tries, .int m_leftOver, .int m_playDoor, .int m_playRing, .int m_isOpen, .int m_isOver, .int m_wasTried, .int m_hasPlayed, .ref a_feltNow, .ref a_last, .ref a_kept, .int m_hasSeconds, .int m_hasTurned, .int m_hasRound, .ref a_hasFeels, .ref a_isOn, .int m_firstAct, .long m_meanTop, .long m_meanBy, .ref a_order, .int m_rowMany, .int m_newSteps])), (a_c, .inl (cA.1 0, 1825, .inl g_c)), (a_there, .inl (cA.1 0, 10, .inl n_12))]) ⟨hx, hb, hml, hown, hts⟩ hK hE hT hP hD hS hA (r_isIn l G cA x_18 0 x_20) lk_RX12_117 ⟨rfl, rfl⟩ ⟨Nat.le_of_ble_eq_true rfl, Nat.le_of_ble_eq_true rfl⟩ [] [0, 1, 2] rfl rfl (by decide) rfl hl.1 rfl (lv_room (Nat.le_of_ble_eq_true rfl)) dX12_from_39 ⟨Nat.le_of_ble_eq_true rfl, Nat.le_of_ble_eq_true rfl⟩ (fun r_21 u_22 H locs hw hP hD hS => ?_)
    obtain ⟨he_r_21, hw⟩ := hw
    rcases hw with ⟨rfl, hf_24⟩ | ⟨rfl, hf_25⟩
    · skip
      refine lv_if_eq (tgt := 55) hx hb dX12_from_42 (by decide) (fun _ => ?_) (fun h9 => absurd (by decide +kernel) h9)
      refine lv_aload_n hx hb dX12_from_55 rfl (lv_at hl 0 rfl) ?_
      refine lv_iconst (v := 5) hx hb dX12_from_56 (by decide) ?_
      refine z_callVi (As := [.int 5]) (rest := []) (wr := [(a_c, .inl (cA.1 0, 1825, .inl g_c)), (a_there, .inl (cA.1 0, 10, .inl n_12))]) ⟨hx, hb, hml, hown, hts⟩ hK hE hT hP hD hS hA (r_no l G cA h0 0 0 m_above m_under a_traySort a_trayMany a_numbers a_tape m_taped m_textEnd m_faultKind m_faultAt m_bad m_badAt m_token m_at m_behind m_number m_letters m_word a_c a_words m_markMany a_there a_tried a_best a_found n_11 m_foundMany m_orderHow m_orderRing m_orderMany m_hasBest m_bestTop m_bestBy a_weights a_shared m_random m_truePlace m_trueWay m_seconds m_done m_feelings m_tries m_leftOver m_playDoor m_playRing m_isOpen m_isOver m_wasTried m_hasPlayed a_feltNow a_last a_kept m_hasSeconds m_hasTurned m_hasRound a_hasFeels a_isOn m_firstAct m_meanTop m_meanBy a_order m_rowMany m_newSteps 5) lk_RX12_97 ⟨rfl, rfl⟩ ⟨Nat.le_of_ble_eq_true rfl, Nat.le_of_ble_eq_true rfl⟩ 12 rfl rfl rfl [0] [1, 2] rfl rfl (by decide) rfl hl.1 rfl (lv_room (Nat.le_of_ble_eq_true rfl)) dX12_from_57 ⟨Nat.le_of_ble_eq_true rfl, Nat.le_of_ble_eq_true rfl⟩ (fun r_27 u_28 H locs hw hP hD hS => ?_)
      obtain ⟨n_26, rfl⟩ : ∃ z, z = u_28 := ⟨_, rfl⟩
      obtain ⟨he_r_27, he_n_26, hw⟩ := hw
      obtain ⟨rfl, -⟩ := hw
      have hpost : ((0 : Int32) = 0 ∧ (0 ≤ (0 : Int32).toInt ∧ (0 : Int32).toInt ≤ 0) ∧ (0 ≤ n_11.toInt ∧ n_11.toInt ≤ 10) ∧ (zRg 10 0 9 n_12)) ∨ ((0 : Int32) = 1 ∧ (0 ≤ n_26.toInt ∧ n_26.toInt ≤ 0) ∧ (0 ≤ (0 : Int32).toInt ∧ (0 : Int32).toInt ≤ 0) ∧ (0 ≤ n_11.toInt ∧ n_11.toInt ≤ 10) ∧ (zRg 10 0 9 n_12) ∧ (1 ≤ m_meanBy.toInt ∧ m_meanBy.toInt ≤ 495)) := (Or.inl ⟨rfl, ⟨(by decide +kernel), hr_n_11, hC_n_12⟩⟩)
      have hX_30 : F_r_from g_c g_there r pp w = ((0 : Int32) : Int32) := by
        refine (F_r_from_s ..).trans ?_
        extract_lets -merge -useContext +onlyGivenNames w9 y9; have e9 : (1 : Int32) = w9 := he_r_1; clear_value w9; subst e9
        refine (if_neg (show ¬ (1 : Int32) = 0 by decide)).trans ?_
        extract_lets -merge -useContext +onlyGivenNames w9 y2_0 y2_1; have e9 : (n_11, n_12) = w9 := ((z_tS he_n_11 he_n_12.symm)).symm; clear_value w9; subst e9
        try (extract_lets -merge -useContext +onlyGivenNames y9; have e9 : x_18 = y9 := (by first | exact he_x_18 | exact he_x_18.symm); clear_value y9; subst e9)
        try (extract_lets -merge -useContext +onlyGivenNames y9; have e9 : x_19 = y9 := (by first | exact he_x_19 | exact he_x_19.symm); clear_value y9; subst e9)
        try (extract_lets -merge -useContext +onlyGivenNames y9; have e9 : x_20 = y9 := (by first | exact he_x_20 | exact he_x_20.symm); clear_value y9; subst e9)
        extract_lets -merge -useContext +onlyGivenNames w9 y9; have e9 : (0 : Int32) = w9 := he_r_21; clear_value w9; subst e9
        refine (if_pos rfl).trans ?_
        extract_lets -merge -useContext +onlyGivenNames w9 y8_0 y8_1; have e9 : ((0 : Int32), n_26) = w9 := ((z_tS he_r_27 he_n_26.symm)).symm; clear_value w9; subst e9
        exact rfl
      exact hret _ _ _ _ _ _ (n_26, 0, n_11, n_12, m_above, m_under, m_meanTop, m_meanBy) [2, 0, 1] hP hD hS rfl (by decide) dX12_from_60 (Or.inl rfl) ⟨(congrArg (fun z9 => z9) hX_30).symm, hpost⟩
    · skip
      refine lv_if_eq (tgt := 55) hx hb dX12_from_42 (by decide) (fun h9 => absurd h9 (by decide +kernel)) (fun _ => ?_)
      refine lv_iload_n hx hb dX12_from_45 rfl (lv_at hl 3 rfl) ?_
      refine lv_i2l (v := (w).toInt64) hx hb dX12_from_46 rfl ?_
      refine lv_topl (fun x_31 he_x_31 => ?_)
      have hq_x_31 := z_i2l he_x_31
      have hL_w := z_full w
      refine lv_lconst (v := 0) hx hb dX12_from_47 (by decide) ?_
      refine lv_lconst (v := 1) hx hb dX12_from_48 (by decide) ?_
      refine z_callSi (As := [.long x_31, .long 0, .long 1]) (rest := []) (wr := [(h0, .inr (12, [.int 0, .int 0, .long m_above, .long m_under, .ref a_traySort, .ref a_trayMany, .ref a_numbers, .ref a_tape, .int m_taped, .int m_textEnd, .int m_faultKind, .int m_faultAt, .int m_bad, .int m_badAt, .int m_token, .int m_at, .int m_behind, .int m_number, .int m_letters, .long m_word, .ref a_c, .ref a_words, .int m_markMany, .ref a_there, .ref a_tried, .ref a_best, .ref a_found, .int n_11, .int m_foundMany, .int m_orderHow, .int m_orderRing, .int m_orderMany, .int m_hasBest, .long m_bestTop, .long m_bestBy, .ref a_weights, .ref a_shared, .int m_random, .int m_truePlace, .int m_trueWay, .int m_seconds, .int m_done, .int m_feelings, .int m_tries, .int m_leftOver, .int m_playDoor, .int m_playRing, .int m_isOpen, .int m_isOver, .int m_wasTried, .int m_hasPlayed, .ref a_feltNow, .ref a_last, .ref a_kept, .int m_hasSeconds, .int m_hasTurned, .int m_hasRound, .ref a_hasFeels, .ref a_isOn, .int m_firstAct, .long m_meanTop, .long m_meanBy, .ref a_order, .int m_rowMany, .int m_newSteps])), (a_c, .inl (cA.1 0, 1825, .inl g_c)), (a_there, .inl (cA.1 0, 10, .inl n_12))]) ⟨hx, hb, hml, hown, hts⟩ hK hE hT hP hD hS hA (r_isIn l G cA x_31 0 1) lk_RX12_117 ⟨rfl, rfl⟩ ⟨Nat.le_of_ble_eq_true rfl, Nat.le_of_ble_eq_true rfl⟩ [] [0, 1, 2] rfl rfl (by decide) rfl hl.1 rfl (lv_room (Nat.le_of_ble_eq_true rfl)) dX12_from_49 ⟨Nat.le_of_ble_eq_true rfl, Nat.le_of_ble_eq_true rfl⟩ (fun r_32 u_33 H locs hw hP hD hS => ?_)
      obtain ⟨he_r_32, hw⟩ := hw
      rcases hw with ⟨rfl, hf_35⟩ | ⟨rfl, hf_36⟩
      · skip
        refine lv_if_ne (tgt := 61) hx hb dX12_from_52 (by decide) (fun h9 => absurd (by decide +kernel) h9) (fun _ => ?_)
        refine lv_aload_n hx hb dX12_from_55 rfl (lv_at hl 0 rfl) ?_
        refine lv_iconst (v := 5) hx hb dX12_from_56 (by decide) ?_
        refine z_callVi (As := [.int 5]) (rest := []) (wr := [(a_c, .inl (cA.1 0, 1825, .inl g_c)), (a_there, .inl (cA.1 0, 10, .inl n_12))]) ⟨hx, hb, hml, hown, hts⟩ hK hE hT hP hD hS hA (r_no l G cA h0 0 0 m_above m_under a_traySort a_trayMany a_numbers a_tape m_taped m_textEnd m_faultKind m_faultAt m_bad m_badAt m_token m_at m_behind m_number m_letters m_word a_c a_words m_markMany a_there a_tried a_best a_found n_11 m_foundMany m_orderHow m_orderRing m_orderMany m_hasBest m_bestTop m_bestBy a_weights a_shared m_random m_truePlace m_trueWay m_seconds m_done m_feelings m_tries m_leftOver m_playDoor m_playRing m_isOpen m_isOver m_wasTried m_hasPlayed a_feltNow a_last a_kept m_hasSeconds m_hasTurned m_hasRound a_hasFeels a_isOn m_firstAct m_meanTop m_meanBy a_order m_rowMany m_newSteps 5) lk_RX12_97 ⟨rfl, rfl⟩ ⟨Nat.le_of_ble_eq_true rfl, Nat.le_of_ble_eq_true rfl⟩ 12 rfl rfl rfl [0] [1, 2] rfl rfl (by decide) rfl hl.1 rfl (lv_room (Nat.le_of_ble_eq_true rfl)) dX12_from_57 ⟨Nat.le_of_ble_eq_true rfl, Nat.le_of_ble_eq_true rfl⟩ (fun r_38 u_39 H locs hw hP hD hS => ?_)
        obtain ⟨n_37, rfl⟩ : ∃ z, z = u_39 := ⟨_, rfl⟩
        obtain ⟨he_r_38, he_n_37, hw⟩ := hw
        obtain ⟨rfl, -⟩ := hw
        have hpost : ((0 : Int32) = 0 ∧ (0 ≤ (0 : Int32).toInt ∧ (0 : Int32).toInt ≤ 0) ∧ (0 ≤ n_11.toInt ∧ n_11.toInt ≤ 10) ∧ (zRg 10 0 9 n_12)) ∨ ((0 : Int32) = 1 ∧ (0 ≤ n_37.toInt ∧ n_37.toInt ≤ 0) ∧ (0 ≤ (0 : Int32).toInt ∧ (0 : Int32).toInt ≤ 0) ∧ (0 ≤ n_11.toInt ∧ n_11.toInt ≤ 10) ∧ (zRg 10 0 9 n_12) ∧ (1 ≤ m_meanBy.toInt ∧ m_meanBy.toInt ≤ 495)) := (Or.inl ⟨rfl, ⟨(by decide +kernel), hr_n_11, hC_n_12⟩⟩)
        have hX_41 : F_r_from g_c g_there r pp w = ((0 : Int32) : Int32) := by
          refine (F_r_from_s ..).trans ?_
          extract_lets -merge -useContext +onlyGivenNames w9 y9; have e9 : (1 : Int32) = w9 := he_r_1; clear_value w9; subst e9
          refine (if_neg (show ¬ (1 : Int32) = 0 by decide)).trans ?_
          extract_lets -merge -useContext +onlyGivenNames w9 y2_0 y2_1; have e9 : (n_11, n_12) = w9 := ((z_tS he_n_11 he_n_12.symm)).symm; clear_value w9; subst e9
          try (extract_lets -merge -useContext +onlyGivenNames y9; have e9 : x_18 = y9 := (by first | exact he_x_18 | exact he_x_18.symm); clear_value y9; subst e9)
          try (extract_lets -merge -useContext +onlyGivenNames y9; have e9 : x_19 = y9 := (by first | exact he_x_19 | exact he_x_19.symm); clear_value y9; subst e9)
          try (extract_lets -merge -useContext +onlyGivenNames y9; have e9 : x_20 = y9 := (by first | exact he_x_20 | exact he_x_20.symm); clear_value y9; subst e9)
          extract_lets -merge -useContext +onlyGivenNames w9 y9; have e9 : (1 : Int32) = w9 := he_r_21; clear_value w9; subst e9
          refine (if_neg (show ¬ (1 : Int32) = 0 by decide)).trans ?_
          try (extract_lets -merge -useContext +onlyGivenNames y9; have e9 : x_31 = y9 := (by first | exact he_x_31 | exact he_x_31.symm); clear_value y9; subst e9)
          extract_lets -merge -useContext +onlyGivenNames w9 y9; have e9 : (0 : Int32) = w9 := he_r_32; clear_value w9; subst e9
          refine (if_pos rfl).trans ?_
          extract_lets -merge -useContext +onlyGivenNames w9 y11_0 y11_1; have e9 : ((0 : Int32), n_37) = w9 := ((z_tS he_r_38 he_n_37.symm)).symm; clear_value w9; subst e9
          exact rfl
        exact hret _ _ _ _ _ _ (n_37, 0, n_11, n_12, m_above, m_under, m_meanTop, m_meanBy) [2, 0, 1] hP hD hS rfl (by decide) dX12_from_60 (Or.inl rfl) ⟨(congrArg (fun z9 => z9) hX_41).symm, hpost⟩
      · skip
        refine lv_if_ne (tgt := 61) hx hb dX12_from_52 (by decide) (fun _ => ?_) (fun h9 => absurd h9 (by decide +kernel))
        refine lv_aload_n hx hb dX12_from_61 rfl (lv_at hl 0 rfl) ?_
        refine lv_iload_n hx hb dX12_from_62 rfl (lv_at hl 2 rfl) ?_
        refine lv_iload_n hx hb dX12_from_63 rfl (lv_at hl 3 rfl) ?_
        refine z_callVv (As := [.int pp, .int w]) (rest := []) (wr := []) ⟨hx, hb, hml, hown, hts⟩ hK hE hT hP hD hS hA (r_meanFrom l G cA h0 0 0 m_above m_under a_traySort a_trayMany a_numbers a_tape m_taped m_textEnd m_faultKind m_faultAt m_bad m_badAt m_token m_at m_behind m_number m_letters m_word a_c a_words m_markMany a_there a_tried a_best a_found n_11 m_foundMany m_orderHow m_orderRing m_orderMany m_hasBest m_bestTop m_bestBy a_weights a_shared m_random m_truePlace m_trueWay m_seconds m_done m_feelings m_tries m_leftOver m_playDoor m_playRing m_isOpen m_isOver m_wasTried m_hasPlayed a_feltNow a_last a_kept m_hasSeconds m_hasTurned m_hasRound a_hasFeels a_isOn m_firstAct m_meanTop m_meanBy a_order m_rowMany m_newSteps g_c n_12 pp w (by omega) (by omega) hr_n_11 hC_g_c hC_n_12 (by omega)) lk_RX12_396 ⟨rfl, rfl⟩ ⟨Nat.le_of_ble_eq_true rfl, Nat.le_of_ble_eq_true rfl⟩ 12 rfl rfl rfl [0, 1, 2] [] rfl rfl (by decide) rfl hl.1 rfl (lv_room (Nat.le_of_ble_eq_true rfl)) dX12_from_64 ⟨Nat.le_of_ble_eq_true rfl, Nat.le_of_ble_eq_true rfl⟩ (fun u_45 H locs hw hP hD hS => ?_)
        obtain ⟨n_42, n_43⟩ := u_45
        try dsimp only at hw
        obtain ⟨he_n_42, he_n_43, hw⟩ := hw
        obtain ⟨hr_n_43, hf_47⟩ := hw
        refine lv_aload_n hx hb dX12_from_67 rfl (lv_at hl 0 rfl) ?_
        refine va_get (D := G) (ci := 12) (v := .long n_43) (C := RX12) (T := TX12) (N := 65) hx hb hts inT12 hown hK hP 0 rfl rfl 61 (by decide) (hts _ tw_1944) (fun _ h9 => h9) rfl dX12_from_68 ?_
        refine lv_lconst (v := 0) hx hb dX12_from_71 (by decide) ?_
        refine W.lcmp hx hb dX12_from_72 ?_
        refine lv_if_ne (tgt := 85) hx hb dX12_from_73 (by decide) (fun c_48 => ?_) (fun c_48 => ?_)
        · have b_49 := z_fneTl c_48
          refine lv_aload_n hx hb dX12_from_85 rfl (lv_at hl 0 rfl) ?_
          refine lv_aload_n hx hb dX12_from_86 rfl (lv_at hl 0 rfl) ?_
          refine va_get (D := G) (ci := 12) (v := .long n_42) (C := RX12) (T := TX12) (N := 65) hx hb hts inT12 hown hK hP 0 rfl rfl 60 (by decide) (hts _ tw_1943) (fun _ h9 => h9) rfl dX12_from_87 ?_
          refine lv_aload_n hx hb dX12_from_90 rfl (lv_at hl 0 rfl) ?_
          refine va_get (D := G) (ci := 12) (v := .long n_43) (C := RX12) (T := TX12) (N := 65) hx hb hts inT12 hown hK hP 0 rfl rfl 61 (by decide) (hts _ tw_1944) (fun _ h9 => h9) rfl dX12_from_91 ?_
          refine z_callVi (As := [.long n_42, .long n_43]) (rest := []) (wr := [(a_c, .inl (cA.1 0, 1825, .inl g_c)), (a_there, .inl (cA.1 0, 10, .inl n_12))]) ⟨hx, hb, hml, hown, hts⟩ hK hE hT hP hD hS hA (r_fraction l G cA h0 0 0 m_above m_under a_traySort a_trayMany a_numbers a_tape m_taped m_textEnd m_faultKind m_faultAt m_bad m_badAt m_token m_at m_behind m_number m_letters m_word a_c a_words m_markMany a_there a_tried a_best a_found n_11 m_foundMany m_orderHow m_orderRing m_orderMany m_hasBest m_bestTop m_bestBy a_weights a_shared m_random m_truePlace m_trueWay m_seconds m_done m_feelings m_tries m_leftOver m_playDoor m_playRing m_isOpen m_isOver m_wasTried m_hasPlayed a_feltNow a_last a_kept m_hasSeconds m_hasTurned m_hasRound a_hasFeels a_isOn m_firstAct n_42 n_43 a_order m_rowMany m_newSteps n_42 n_43 (by omega)) lk_RX12_352 ⟨rfl, rfl⟩ ⟨Nat.le_of_ble_eq_true rfl, Nat.le_of_ble_eq_true rfl⟩ 12 rfl rfl rfl [0] [1, 2] rfl rfl (by decide) rfl hl.1 rfl (lv_room (Nat.le_of_ble_eq_true rfl)) dX12_from_94 ⟨Nat.le_of_ble_eq_true rfl, Nat.le_of_ble_eq_true rfl⟩ (fun r_52 u_53 H locs hw hP hD hS => ?_)
          obtain ⟨n_50, n_51⟩ := u_53
          try dsimp only at hw
          obtain ⟨rfl, -⟩ := hw
          have hpost : ((1 : Int32) = 0 ∧ (0 ≤ (0 : Int32).toInt ∧ (0 : Int32).toInt ≤ 0) ∧ (0 ≤ n_11.toInt ∧ n_11.toInt ≤ 10) ∧ (zRg 10 0 9 n_12)) ∨ ((1 : Int32) = 1 ∧ (0 ≤ (0 : Int32).toInt ∧ (0 : Int32).toInt ≤ 0) ∧ (0 ≤ (0 : Int32).toInt ∧ (0 : Int32).toInt ≤ 0) ∧ (0 ≤ n_11.toInt ∧ n_11.toInt ≤ 10) ∧ (zRg 10 0 9 n_12) ∧ (1 ≤ n_43.toInt ∧ n_43.toInt ≤ 495)) := (Or.inr ⟨rfl, ⟨(by decide +kernel), (by decide +kernel), hr_n_11, hC_n_12, (by omega)⟩⟩)
          have hX_54 : F_r_from g_c g_there r pp w = ((1 : Int32) : Int32) := by
            refine (F_r_from_s ..).trans ?_
            extract_lets -merge -useContext +onlyGivenNames w9 y9; have e9 : (1 : Int32) = w9 := he_r_1; clear_value w9; subst e9
            refine (if_neg (show ¬ (1 : Int32) = 0 by decide)).trans ?_
            extract_lets -merge -useContext +onlyGivenNames w9 y2_0 y2_1; have e9 : (n_11, n_12) = w9 := ((z_tS he_n_11 he_n_12.symm)).symm; clear_value w9; subst e9
            try (extract_lets -merge -useContext +onlyGivenNames y9; have e9 : x_18 = y9 := (by first | exact he_x_18 | exact he_x_18.symm); clear_value y9; subst e9)
            try (extract_lets -merge -useContext +onlyGivenNames y9; have e9 : x_19 = y9 := (by first | exact he_x_19 | exact he_x_19.symm); clear_value y9; subst e9)
            try (extract_lets -merge -useContext +onlyGivenNames y9; have e9 : x_20 = y9 := (by first | exact he_x_20 | exact he_x_20.symm); clear_value y9; subst e9)
            extract_lets -merge -useContext +onlyGivenNames w9 y9; have e9 : (1 : Int32) = w9 := he_r_21; clear_value w9; subst e9
            refine (if_neg (show ¬ (1 : Int32) = 0 by decide)).trans ?_
            try (extract_lets -merge -useContext +onlyGivenNames y9; have e9 : x_31 = y9 := (by first | exact he_x_31 | exact he_x_31.symm); clear_value y9; subst e9)
            extract_lets -merge -useContext +onlyGivenNames w9 y9; have e9 : (1 : Int32) = w9 := he_r_32; clear_value w9; subst e9
            refine (if_neg (show ¬ (1 : Int32) = 0 by decide)).trans ?_
            extract_lets -merge -useContext +onlyGivenNames w9 y11_0 y11_1; have e9 : (n_42, n_43) = w9 := ((z_tS he_n_42 he_n_43.symm)).symm; clear_value w9; subst e9
            refine (if_neg c_48).trans ?_
            exact rfl
          exact hret _ _ _ _ _ _ (0, 0, n_11, n_12, n_50, n_51, n_42, n_43) [2, 0, 1] hP hD hS rfl (by decide) dX12_from_97 (Or.inr rfl) ⟨(congrArg (fun z9 => z9) hX_54).symm, hpost⟩
        · have b_55 := z_feqFl c_48
          refine lv_aload_n hx hb dX12_from_76 rfl (lv_at hl 0 rfl) ?_
          refine lv_bipush (v := 8) hx hb dX12_from_77 (by decide) ?_
          refine z_callVi (As := [.int 8]) (rest := []) (wr := [(a_c, .inl (cA.1 0, 1825, .inl g_c)), (a_there, .inl (cA.1 0, 10, .inl n_12))]) ⟨hx, hb, hml, hown, hts⟩ hK hE hT hP hD hS hA (r_no l G cA h0 0 0 m_above m_under a_traySort a_trayMany a_numbers a_tape m_taped m_textEnd m_faultKind m_faultAt m_bad m_badAt m_token m_at m_behind m_number m_letters m_word a_c a_words m_markMany a_there a_tried a_best a_found n_11 m_foundMany m_orderHow m_orderRing m_orderMany m_hasBest m_bestTop m_bestBy a_weights a_shared m_random m_truePlace m_trueWay m_seconds m_done m_feelings m_tries m_leftOver m_playDoor m_playRing m_isOpen m_isOver m_wasTried m_hasPlayed a_feltNow a_last a_kept m_hasSeconds m_hasTurned m_hasRound a_hasFeels a_isOn m_firstAct n_42 n_43 a_order m_rowMany m_newSteps 8) lk_RX12_97 ⟨rfl, rfl⟩ ⟨Nat.le_of_ble_eq_true rfl, Nat.le_of_ble_eq_true rfl⟩ 12 rfl rfl rfl [0] [1, 2] rfl rfl (by decide) rfl hl.1 rfl (lv_room (Nat.le_of_ble_eq_true rfl)) dX12_from_79 ⟨Nat.le_of_ble_eq_true rfl, Nat.le_of_ble_eq_true rfl⟩ (fun r_57 u_58 H locs hw hP hD hS => ?_)
          obtain ⟨n_56, rfl⟩ : ∃ z, z = u_58 := ⟨_, rfl⟩
          obtain ⟨he_r_57, he_n_56, hw⟩ := hw
          obtain ⟨rfl, -⟩ := hw
          refine lv_goto (tgt := 97) hx hb dX12_from_82 (by decide) ?_
          have hpost : ((0 : Int32) = 0 ∧ (0 ≤ (0 : Int32).toInt ∧ (0 : Int32).toInt ≤ 0) ∧ (0 ≤ n_11.toInt ∧ n_11.toInt ≤ 10) ∧ (zRg 10 0 9 n_12)) ∨ ((0 : Int32) = 1 ∧ (0 ≤ n_56.toInt ∧ n_56.toInt ≤ 0) ∧ (0 ≤ (0 : Int32).toInt ∧ (0 : Int32).toInt ≤ 0) ∧ (0 ≤ n_11.toInt ∧ n_11.toInt ≤ 10) ∧ (zRg 10 0 9 n_12) ∧ (1 ≤ n_43.toInt ∧ n_43.toInt ≤ 495)) := (Or.inl ⟨rfl, ⟨(by decide +kernel), hr_n_11, hC_n_12⟩⟩)
          have hX_60 : F_r_from g_c g_there r pp w = ((0 : Int32) : Int32) := by
            refine (F_r_from_s ..).trans ?_
            extract_lets -merge -useContext +onlyGivenNames w9 y9; have e9 : (1 : Int32) = w9 := he_r_1; clear_value w9; subst e9
            refine (if_neg (show ¬ (1 : Int32) = 0 by decide)).trans ?_
            extract_lets -merge -useContext +onlyGivenNames w9 y2_0 y2_1; have e9 : (n_11, n_12) = w9 := ((z_tS he_n_11 he_n_12.symm)).symm; clear_value w9; subst e9
            try (extract_lets -merge -useContext +onlyGivenNames y9; have e9 : x_18 = y9 := (by first | exact he_x_18 | exact he_x_18.symm); clear_value y9; subst e9)
            try (extract_lets -merge -useContext +onlyGivenNames y9; have e9 : x_19 = y9 := (by first | exact he_x_19 | exact he_x_19.symm); clear_value y9; subst e9)
            try (extract_lets -merge -useContext +onlyGivenNames y9; have e9 : x_20 = y9 := (by first | exact he_x_20 | exact he_x_20.symm); clear_value y9; subst e9)
            extract_lets -merge -useContext +onlyGivenNames w9 y9; have e9 : (1 : Int32) = w9 := he_r_21; clear_value w9; subst e9
            refine (if_neg (show ¬ (1 : Int32) = 0 by decide)).trans ?_
            try (extract_lets -merge -useContext +onlyGivenNames y9; have e9 : x_31 = y9 := (by first | exact he_x_31 | exact he_x_31.symm); clear_value y9; subst e9)
            extract_lets -merge -useContext +onlyGivenNames w9 y9; have e9 : (1 : Int32) = w9 := he_r_32; clear_value w9; subst e9
            refine (if_neg (show ¬ (1 : Int32) = 0 by decide)).trans ?_
            extract_lets -merge -useContext +onlyGivenNames w9 y11_0 y11_1; have e9 : (n_42, n_43) = w9 := ((z_tS he_n_42 he_n_43.symm)).symm; clear_value w9; subst e9
            refine (if_pos c_48).trans ?_
            extract_lets -merge -useContext +onlyGivenNames w9 y13_0 y13_1; have e9 : ((0 : Int32), n_56) = w9 := ((z_tS he_r_57 he_n_56.symm)).symm; clear_value w9; subst e9
            exact rfl
          exact hret _ _ _ _ _ _ (n_56, 0, n_11, n_12, m_above, m_under, n_42, n_43) [2, 0, 1] hP hD hS rfl (by decide) dX12_from_97 (Or.inl rfl) ⟨(congrArg (fun z9 => z9) hX_60).symm, hpost⟩
set_option maxHeartbeats 40000000 in
set_option maxRecDepth 100000 in
theorem r_anywhere (l : Launch) (G : va_G) (cA : zCA) (h0 : Nat) (m_status : Int32) (m_thrown : Int32) (m_above : Int64) (m_under : Int64) (a_traySort : Nat) (a_trayMany : Nat) (a_numbers : Nat) (a_tape : Nat) (m_taped : Int32) (m_textEnd : Int32) (m_faultKind : Int32) (m_faultAt : Int32) (m_bad : Int32) (m_badAt : Int32) (m_token : Int32) (m_at : Int32) (m_behind : Int32) (m_number : Int32) (m_letters : Int32) (m_word : Int64) (a_c : Nat) (a_words : Nat) (m_markMany : Int32) (a_there : Nat) (a_tried : Nat) (a_best : Nat) (a_found : Nat) (m_thereMany : Int32) (m_foundMany : Int32) (m_orderHow : Int32) (m_orderRing : Int32) (m_orderMany : Int32) (m_hasBest : Int32) (m_bestTop : Int64) (m_bestBy : Int64) (a_weights : Nat) (a_shared : Nat) (m_random : Int32) (m_truePlace : Int32) (m_trueWay : Int32) (m_seconds : Int32) (m_done : Int32) (m_feelings : Int32) (m_tries : Int32) (m_leftOver : Int32) (m_playDoor : Int32) (m_playRing : Int32) (m_isOpen : Int32) (m_isOver : Int32) (m_wasTried : Int32) (m_hasPlayed : Int32) (a_feltNow : Nat) (a_last : Nat) (a_kept : Nat) (m_hasSeconds : Int32) (m_hasTurned : Int32) (m_hasRound : Int32) (a_hasFeels : Nat) (a_isOn : Nat) (m_firstAct : Int32) (m_meanTop : Int64) (m_meanBy : Int64) (a_order : Nat) (m_rowMany : Int32) (m_newSteps : Int32) (g_c : Nat → Int32) (g_there : Nat → Int32) (r : Int32) (hr_m_thereMany : 0 ≤ m_thereMany.toInt ∧ m_thereMany.toInt ≤ 10) (hC_g_c : zC g_c) (hC_g_there : zRg 10 0 9 g_there) : zCi l yX12_anywhere cX12_anywhere 2 (some .boolean) ({ frames := 4, cells := 0, slots := 0, locals := 97 }) G cA [.ref h0, .int r] [(h0, .inr (12, [.int m_status, .int m_thrown, .long m_above, .long m_under, .ref a_traySort, .ref a_trayMany, .ref a_numbers, .ref a_tape, .int m_taped, .int m_textEnd, .int m_faultKind, .int m_faultAt, .int m_bad, .int m_badAt, .int m_token, .int m_at, .int m_behind, .int m_number, .int m_letters, .long m_word, .ref a_c, .ref a_words, .int m_markMany, .ref a_there, .ref a_tried, .ref a_best, .ref a_found, .int m_thereMany, .int m_foundMany, .int m_orderHow, .int m_orderRing, .int m_orderMany, .int m_hasBest, .long m_bestTop, .long m_bestBy, .ref a_weights, .ref a_shared, .int m_random, .int m_truePlace, .int m_trueWay, .int m_seconds, .int m_done, .int m_feelings, .int m_tries, .int m_leftOver, .int m_playDoor, .int m_playRing, .int m_isOpen, .int m_isOver, .int m_wasTried, .int m_hasPlayed, .ref a_feltNow, .ref a_last, .ref a_kept, .int m_hasSeconds, .int m_hasTurned, .int m_hasRound, .ref a_hasFeels, .ref a_isOn, .int m_firstAct, .long m_meanTop, .long m_meanBy, .ref a_order, .int m_rowMany, .int m_newSteps])), (a_c, .inl (cA.1 0, 1825, .inl g_c)), (a_there, .inl (cA.1 0, 10, .inl g_there))] (S := Int32 × Int32 × Int64 × Int64 × Int32 × Int64 × Int64 × (Nat → Int32)) (fun (r_0 : Int32) (u : Int32 × Int32 × Int64 × Int64 × Int32 × Int64 × Int64 × (Nat → Int32)) => (r_0 = (F_r_anywhere m_meanTop m_meanBy g_c g_there r)) ∧ ((r_0 = 0 ∧ (0 ≤ u.2.1.toInt ∧ u.2.1.toInt ≤ 0) ∧ (0 ≤ u.2.2.2.2.1.toInt ∧ u.2.2.2.2.1.toInt ≤ 10) ∧ (zRg 10 0 9 u.2.2.2.2.2.2.2)) ∨ (r_0 = 1 ∧ (0 ≤ u.1.toInt ∧ u.1.toInt ≤ 0) ∧ (0 ≤ u.2.1.toInt ∧ u.2.1.toInt ≤ 0) ∧ (0 ≤ u.2.2.2.2.1.toInt ∧ u.2.2.2.2.1.toInt ≤ 10) ∧ (1 ≤ u.2.2.2.2.2.2.1.toInt ∧ u.2.2.2.2.2.2.1.toInt ≤ 79200) ∧ (zRg 10 0 9 u.2.2.2.2.2.2.2)))) (fun (u : Int32 × Int32 × Int64 × Int64 × Int32 × Int64 × Int64 × (Nat → Int32)) => [(h0, .inr (12, [.int u.1, .int u.2.1, .long u.2.2.1, .long u.2.2.2.1, .ref a_traySort, .ref a_trayMany, .ref a_numbers, .ref a_tape, .int m_taped, .int m_textEnd, .int m_faultKind, .int m_faultAt, .int m_bad, .int m_badAt, .int m_token, .int m_at, .int m_behind, .int m_number, .int m_letters, .long m_word, .ref a_c, .ref a_words, .int m_markMany, .ref a_there, .ref a_tried, .ref a_best, .ref a_found, .int u.2.2.2.2.1, .int m_foundMany, .int m_orderHow, .int m_orderRing, .int m_orderMany, .int m_hasBest, .long m_bestTop, .long m_bestBy, .ref a_weights, .ref a_shared, .int m_random, .int m_truePlace, .int m_trueWay, .int m_seconds, .int m_done, .int m_feelings, .int m_tries, .int m_leftOver, .int m_playDoor, .int m_playRing, .int m_isOpen, .int m_isOver, .int m_wasTried, .int m_hasPlayed, .ref a_feltNow, .ref a_last, .ref a_kept, .int m_hasSeconds, .int m_hasTurned, .int m_hasRound, .ref a_hasFeels, .ref a_isOn, .int m_firstAct, .long u.2.2.2.2.2.1, .long u.2.2.2.2.2.2.1, .ref a_order, .int m_rowMany, .int m_newSteps])), (a_c, .inl (cA.1 0, 1825, .inl g_c)), (a_there, .inl (cA.1 0, 10, .inl u.2.2.2.2.2.2.2))]) 0 0 := by
  have hk_2 : (2 : Int32).toInt = 2 := by decide +kernel
  have hk_8 : (8 : Int32).toInt = 8 := by decide +kernel
  have hkl_0 : (0 : Int64).toInt = 0 := by decide +kernel
  refine z_start2z (own := RX12) (by decide) (Nat.le_of_ble_eq_true rfl) rfl ?_
  intro p e s m args below meth c A ls Q hx hb hml hts hown hK hE hT hP hD hS hA hl hret
  have hl : lv_has ls 2 [(0, .ref h0), (1, .int r)] := hl
  refine lv_aload_n hx hb dX12_anywhere_0 rfl (lv_at hl 0 rfl) ?_
  refine lv_iconst (v := 0) hx hb dX12_anywhere_1 (by decide) ?_
  refine va_put (D := G) (ci := 12) (v := .int 0) (ty := .int) (C := RX12) (T := TX12) (N := 65) hx hb hts inT12 tyX12 tyX12_ok nmX12 hown hK hP hD hS 0 rfl rfl 1 (by decide) (hts _ tw_1886) (fun _ h9 => h9) rfl (tyX12_ok 1 (by decide)) rfl rfl (Nat.le_of_ble_eq_true rfl) dX12_anywhere_2 (fun H locs hP hD hS => ?_)
  refine lv_aload_n hx hb dX12_anywhere_5 rfl (lv_at hl 0 rfl) ?_
  refine lv_iconst (v := 0) hx hb dX12_anywhere_6 (by decide) ?_
  refine va_put (D := G) (ci := 12) (v := .int 0) (ty := .int) (C := RX12) (T := TX12) (N := 65) hx hb hts inT12 tyX12 tyX12_ok nmX12 hown hK hP hD hS 0 rfl rfl 0 (by decide) (hts _ tw_1885) (fun _ h9 => h9) rfl (tyX12_ok 0 (by decide)) rfl rfl (Nat.le_of_ble_eq_true rfl) dX12_anywhere_7 (fun H locs hP hD hS => ?_)
  refine lv_aload_n hx hb dX12_anywhere_10 rfl (lv_at hl 0 rfl) ?_
  refine lv_iload_n hx hb dX12_anywhere_11 rfl (lv_at hl 1 rfl) ?_
  refine z_callVi (As := [.int r]) (rest := []) (wr := [(a_there, .inl (cA.1 0, 10, .inl g_there))]) ⟨hx, hb, hml, hown, hts⟩ hK hE hT hP hD hS hA (r_isRing l G cA h0 0 0 m_above m_under a_traySort a_trayMany a_numbers a_tape m_taped m_textEnd m_faultKind m_faultAt m_bad m_badAt m_token m_at m_behind m_number m_letters m_word a_c a_words m_markMany a_there a_tried a_best a_found m_thereMany m_foundMany m_orderHow m_orderRing m_orderMany m_hasBest m_bestTop m_bestBy a_weights a_shared m_random m_truePlace m_trueWay m_seconds m_done m_feelings m_tries m_leftOver m_playDoor m_playRing m_isOpen m_isOver m_wasTried m_hasPlayed a_feltNow a_last a_kept m_hasSeconds m_hasTurned m_hasRound a_hasFeels a_isOn m_firstAct m_meanTop m_meanBy a_order m_rowMany m_newSteps g_c r hC_g_c) lk_RX12_289 ⟨rfl, rfl⟩ ⟨Nat.le_of_ble_eq_true rfl, Nat.le_of_ble_eq_true rfl⟩ 12 rfl rfl rfl [0, 1] [2] rfl rfl (by decide) rfl hl.1 rfl (lv_room (Nat.le_of_ble_eq_true rfl)) dX12_anywhere_12 ⟨Nat.le_of_ble_eq_true rfl, Nat.le_of_ble_eq_true rfl⟩ (fun r_1 u_2 H locs hw hP hD hS => ?_)
  obtain ⟨he_r_1, hw⟩ := hw
  rcases hw with ⟨rfl, -⟩ | ⟨rfl, hf_4, hf_5⟩
  · skip
    refine lv_if_ne (tgt := 24) hx hb dX12_anywhere_15 (by decide) (fun h9 => absurd (by decide +kernel) h9) (fun _ => ?_)
    refine lv_aload_n hx hb dX12_anywhere_18 rfl (lv_at hl 0 rfl) ?_
    refine lv_iconst (v := 2) hx hb dX12_anywhere_19 (by decide) ?_
    refine z_callVi (As := [.int 2]) (rest := []) (wr := [(a_there, .inl (cA.1 0, 10, .inl g_there)), (a_c, .inl (cA.1 0, 1825, .inl g_c))]) ⟨hx, hb, hml, hown, hts⟩ hK hE hT hP hD hS hA (r_no l G cA h0 0 0 m_above m_under a_traySort a_trayMany a_numbers a_tape m_taped m_textEnd m_faultKind m_faultAt m_bad m_badAt m_token m_at m_behind m_number m_letters m_word a_c a_words m_markMany a_there a_tried a_best a_found m_thereMany m_foundMany m_orderHow m_orderRing m_orderMany m_hasBest m_bestTop m_bestBy a_weights a_shared m_random m_truePlace m_trueWay m_seconds m_done m_feelings m_tries m_leftOver m_playDoor m_playRing m_isOpen m_isOver m_wasTried m_hasPlayed a_feltNow a_last a_kept m_hasSeconds m_hasTurned m_hasRound a_hasFeels a_isOn m_firstAct m_meanTop m_meanBy a_order m_rowMany m_newSteps 2) lk_RX12_97 ⟨rfl, rfl⟩ ⟨Nat.le_of_ble_eq_true rfl, Nat.le_of_ble_eq_true rfl⟩ 12 rfl rfl rfl [1] [0, 2] rfl rfl (by decide) rfl hl.1 rfl (lv_room (Nat.le_of_ble_eq_true rfl)) dX12_anywhere_20 ⟨Nat.le_of_ble_eq_true rfl, Nat.le_of_ble_eq_true rfl⟩ (fun r_7 u_8 H locs hw hP hD hS => ?_)
    obtain ⟨n_6, rfl⟩ : ∃ z, z = u_8 := ⟨_, rfl⟩
    obtain ⟨he_r_7, he_n_6, hw⟩ := hw
    obtain ⟨rfl, -⟩ := hw
    have hpost : ((0 : Int32) = 0 ∧ (0 ≤ (0 : Int32).toInt ∧ (0 : Int32).toInt ≤ 0) ∧ (0 ≤ m_thereMany.toInt ∧ m_thereMany.toInt ≤ 10) ∧ (zRg 10 0 9 g_there)) ∨ ((0 : Int32) = 1 ∧ (0 ≤ n_6.toInt ∧ n_6.toInt ≤ 0) ∧ (0 ≤ (0 : Int32).toInt ∧ (0 : Int32).toInt ≤ 0) ∧ (0 ≤ m_thereMany.toInt ∧ m_thereMany.toInt ≤ 10) ∧ (1 ≤ m_meanBy.toInt ∧ m_meanBy.toInt ≤ 79200) ∧ (zRg 10 0 9 g_there)) := (Or.inl ⟨rfl, ⟨(by decide +kernel), hr_m_thereMany, hC_g_there⟩⟩)
    have hX_10 : F_r_anywhere m_meanTop m_meanBy g_c g_there r = ((0 : Int32) : Int32) := by
      refine (F_r_anywhere_s ..).trans ?_
      extract_lets -merge -useContext +onlyGivenNames w9 y9; have e9 : (0 : Int32) = w9 := he_r_1; clear_value w9; subst e9
      refine (if_pos rfl).trans ?_
      extract_lets -merge -useContext +onlyGivenNames w9 y2_0 y2_1; have e9 : ((0 : Int32), n_6) = w9 := ((z_tS he_r_7 he_n_6.symm)).symm; clear_value w9; subst e9
      exact rfl
    exact hret _ _ _ _ _ _ (n_6, 0, m_above, m_under, m_thereMany, m_meanTop, m_meanBy, g_there) [2, 1, 0] hP hD hS rfl (by decide) dX12_anywhere_23 (Or.inl rfl) ⟨(congrArg (fun z9 => z9) hX_10).symm, hpost⟩
  · skip
    refine lv_if_ne (tgt := 24) hx hb dX12_anywhere_15 (by decide) (fun _ => ?_) (fun h9 => absurd h9 (by decide +kernel))
    refine lv_aload_n hx hb dX12_anywhere_24 rfl (lv_at hl 0 rfl) ?_
    refine lv_iload_n hx hb dX12_anywhere_25 rfl (lv_at hl 1 rfl) ?_
    refine z_callVv (As := [.int r]) (rest := []) (wr := []) ⟨hx, hb, hml, hown, hts⟩ hK hE hT hP hD hS hA (r_gather l G cA h0 0 0 m_above m_under a_traySort a_trayMany a_numbers a_tape m_taped m_textEnd m_faultKind m_faultAt m_bad m_badAt m_token m_at m_behind m_number m_letters m_word a_c a_words m_markMany a_there a_tried a_best a_found m_thereMany m_foundMany m_orderHow m_orderRing m_orderMany m_hasBest m_bestTop m_bestBy a_weights a_shared m_random m_truePlace m_trueWay m_seconds m_done m_feelings m_tries m_leftOver m_playDoor m_playRing m_isOpen m_isOver m_wasTried m_hasPlayed a_feltNow a_last a_kept m_hasSeconds m_hasTurned m_hasRound a_hasFeels a_isOn m_firstAct m_meanTop m_meanBy a_order m_rowMany m_newSteps g_c g_there r (by omega) hr_m_thereMany hC_g_c hC_g_there) lk_RX12_292 ⟨rfl, rfl⟩ ⟨Nat.le_of_ble_eq_true rfl, Nat.le_of_ble_eq_true rfl⟩ 12 rfl rfl rfl [1, 2, 0] [] rfl rfl (by decide) rfl hl.1 rfl (lv_room (Nat.le_of_ble_eq_true rfl)) dX12_anywhere_26 ⟨Nat.le_of_ble_eq_true rfl, Nat.le_of_ble_eq_true rfl⟩ (fun u_14 H locs hw hP hD hS => ?_)
    obtain ⟨n_11, n_12⟩ := u_14
    try dsimp only at hw
    obtain ⟨he_n_11, he_n_12, hw⟩ := hw
    obtain ⟨hr_n_11, hC_n_12, hf_16, hf_17⟩ := hw
    refine lv_aload_n hx hb dX12_anywhere_29 rfl (lv_at hl 0 rfl) ?_
    refine z_callVv (As := []) (rest := []) (wr := []) ⟨hx, hb, hml, hown, hts⟩ hK hE hT hP hD hS hA (r_meanAnywhere l G cA h0 0 0 m_above m_under a_traySort a_trayMany a_numbers a_tape m_taped m_textEnd m_faultKind m_faultAt m_bad m_badAt m_token m_at m_behind m_number m_letters m_word a_c a_words m_markMany a_there a_tried a_best a_found n_11 m_foundMany m_orderHow m_orderRing m_orderMany m_hasBest m_bestTop m_bestBy a_weights a_shared m_random m_truePlace m_trueWay m_seconds m_done m_feelings m_tries m_leftOver m_playDoor m_playRing m_isOpen m_isOver m_wasTried m_hasPlayed a_feltNow a_last a_kept m_hasSeconds m_hasTurned m_hasRound a_hasFeels a_isOn m_firstAct m_meanTop m_meanBy a_order m_rowMany m_newSteps g_c n_12 hr_n_11 hC_g_c hC_n_12) lk_RX12_399 ⟨rfl, rfl⟩ ⟨Nat.le_of_ble_eq_true rfl, Nat.le_of_ble_eq_true rfl⟩ 12 rfl rfl rfl [0, 1, 2] [] rfl rfl (by decide) rfl hl.1 rfl (lv_room (Nat.le_of_ble_eq_true rfl)) dX12_anywhere_30 ⟨Nat.le_of_ble_eq_true rfl, Nat.le_of_ble_eq_true rfl⟩ (fun u_21 H locs hw hP hD hS => ?_)
    obtain ⟨n_18, n_19⟩ := u_21
    try dsimp only at hw
    obtain ⟨he_n_18, he_n_19, hw⟩ := hw
    obtain ⟨hr_n_19, hf_23⟩ := hw
    refine lv_aload_n hx hb dX12_anywhere_33 rfl (lv_at hl 0 rfl) ?_
    refine va_get (D := G) (ci := 12) (v := .long n_19) (C := RX12) (T := TX12) (N := 65) hx hb hts inT12 hown hK hP 0 rfl rfl 61 (by decide) (hts _ tw_1944) (fun _ h9 => h9) rfl dX12_anywhere_34 ?_
    refine lv_lconst (v := 0) hx hb dX12_anywhere_37 (by decide) ?_
    refine W.lcmp hx hb dX12_anywhere_38 ?_
    refine lv_if_ne (tgt := 51) hx hb dX12_anywhere_39 (by decide) (fun c_24 => ?_) (fun c_24 => ?_)
    · have b_25 := z_fneTl c_24
      refine lv_aload_n hx hb dX12_anywhere_51 rfl (lv_at hl 0 rfl) ?_
      refine lv_aload_n hx hb dX12_anywhere_52 rfl (lv_at hl 0 rfl) ?_
      refine va_get (D := G) (ci := 12) (v := .long n_18) (C := RX12) (T := TX12) (N := 65) hx hb hts inT12 hown hK hP 0 rfl rfl 60 (by decide) (hts _ tw_1943) (fun _ h9 => h9) rfl dX12_anywhere_53 ?_
      refine lv_aload_n hx hb dX12_anywhere_56 rfl (lv_at hl 0 rfl) ?_
      refine va_get (D := G) (ci := 12) (v := .long n_19) (C := RX12) (T := TX12) (N := 65) hx hb hts inT12 hown hK hP 0 rfl rfl 61 (by decide) (hts _ tw_1944) (fun _ h9 => h9) rfl dX12_anywhere_57 ?_
      refine z_callVi (As := [.long n_18, .long n_19]) (rest := []) (wr := [(a_c, .inl (cA.1 0, 1825, .inl g_c)), (a_there, .inl (cA.1 0, 10, .inl n_12))]) ⟨hx, hb, hml, hown, hts⟩ hK hE hT hP hD hS hA (r_fraction l G cA h0 0 0 m_above m_under a_traySort a_trayMany a_numbers a_tape m_taped m_textEnd m_faultKind m_faultAt m_bad m_badAt m_token m_at m_behind m_number m_letters m_word a_c a_words m_markMany a_there a_tried a_best a_found n_11 m_foundMany m_orderHow m_orderRing m_orderMany m_hasBest m_bestTop m_bestBy a_weights a_shared m_random m_truePlace m_trueWay m_seconds m_done m_feelings m_tries m_leftOver m_playDoor m_playRing m_isOpen m_isOver m_wasTried m_hasPlayed a_feltNow a_last a_kept m_hasSeconds m_hasTurned m_hasRound a_hasFeels a_isOn m_firstAct n_18 n_19 a_order m_rowMany m_newSteps n_18 n_19 (by omega)) lk_RX12_352 ⟨rfl, rfl⟩ ⟨Nat.le_of_ble_eq_true rfl, Nat.le_of_ble_eq_true rfl⟩ 12 rfl rfl rfl [0] [1, 2] rfl rfl (by decide) rfl hl.1 rfl (lv_room (Nat.le_of_ble_eq_true rfl)) dX12_anywhere_60 ⟨Nat.le_of_ble_eq_true rfl, Nat.le_of_ble_eq_true rfl⟩ (fun r_28 u_29 H locs hw hP hD hS => ?_)
      obtain ⟨n_26, n_27⟩ := u_29
      try dsimp only at hw
      obtain ⟨rfl, -⟩ := hw
      have hpost : ((1 : Int32) = 0 ∧ (0 ≤ (0 : Int32).toInt ∧ (0 : Int32).toInt ≤ 0) ∧ (0 ≤ n_11.toInt ∧ n_11.toInt ≤ 10) ∧ (zRg 10 0 9 n_12)) ∨ ((1 : Int32) = 1 ∧ (0 ≤ (0 : Int32).toInt ∧ (0 : Int32).toInt ≤ 0) ∧ (0 ≤ (0 : Int32).toInt ∧ (0 : Int32).toInt ≤ 0) ∧ (0 ≤ n_11.toInt ∧ n_11.toInt ≤ 10) ∧ (1 ≤ n_19.toInt ∧ n_19.toInt ≤ 79200) ∧ (zRg 10 0 9 n_12)) := (Or.inr ⟨rfl, ⟨(by decide +kernel), (by decide +kernel), hr_n_11, (by omega), hC_n_12⟩⟩)
      have hX_30 : F_r_anywhere m_meanTop m_meanBy g_c g_there r = ((1 : Int32) : Int32) := by
        refine (F_r_anywhere_s ..).trans ?_
        extract_lets -merge -useContext +onlyGivenNames w9 y9; have e9 : (1 : Int32) = w9 := he_r_1; clear_value w9; subst e9
        refine (if_neg (show ¬ (1 : Int32) = 0 by decide)).trans ?_
        extract_lets -merge -useContext +onlyGivenNames w9 y2_0 y2_1; have e9 : (n_11, n_12) = w9 := ((z_tS he_n_11 he_n_12.symm)).symm; clear_value w9; subst e9
        extract_lets -merge -useContext +onlyGivenNames w9 y3_0 y3_1; have e9 : (n_18, n_19) = w9 := ((z_tS he_n_18 he_n_19.symm)).symm; clear_value w9; subst e9
        refine (if_neg c_24).trans ?_
        exact rfl
      exact hret _ _ _ _ _ _ (0, 0, n_26, n_27, n_11, n_18, n_19, n_12) [2, 0, 1] hP hD hS rfl (by decide) dX12_anywhere_63 (Or.inr rfl) ⟨(congrArg (fun z9 => z9) hX_30).symm, hpost⟩
    · have b_31 := z_feqFl c_24
      refine lv_aload_n hx hb dX12_anywhere_42 rfl (lv_at hl 0 rfl) ?_
      refine lv_bipush (v := 8) hx hb dX12_anywhere_43 (by decide) ?_
      refine z_callVi (As := [.int 8]) (rest := []) (wr := [(a_c, .inl (cA.1 0, 1825, .inl g_c)), (a_there, .inl (cA.1 0, 10, .inl n_12))]) ⟨hx, hb, hml, hown, hts⟩ hK hE hT hP hD hS hA (r_no l G cA h0 0 0 m_above m_under a_traySort a_trayMany a_numbers a_tape m_taped m_textEnd m_faultKind m_faultAt m_bad m_badAt m_token m_at m_behind m_number m_letters m_word a_c a_words m_markMany a_there a_tried a_best a_found n_11 m_foundMany m_orderHow m_orderRing m_orderMany m_hasBest m_bestTop m_bestBy a_weights a_shared m_random m_truePlace m_trueWay m_seconds m_done m_feelings m_tries m_leftOver m_playDoor m_playRing m_isOpen m_isOver m_wasTried m_hasPlayed a_feltNow a_last a_kept m_hasSeconds m_hasTurned m_hasRound a_hasFeels a_isOn m_firstAct n_18 n_19 a_order m_rowMany m_newSteps 8) lk_RX12_97 ⟨rfl, rfl⟩ ⟨Nat.le_of_ble_eq_true rfl, Nat.le_of_ble_eq_true rfl⟩ 12 rfl rfl rfl [0] [1, 2] rfl rfl (by decide) rfl hl.1 rfl (lv_room (Nat.le_of_ble_eq_true rfl)) dX12_anywhere_45 ⟨Nat.le_of_ble_eq_true rfl, Nat.le_of_ble_eq_true rfl⟩ (fun r_33 u_34 H locs hw hP hD hS => ?_)
      obtain ⟨n_32, rfl⟩ : ∃ z, z = u_34 := ⟨_, rfl⟩
      obtain ⟨he_r_33, he_n_32, hw⟩ := hw
      obtain ⟨rfl, -⟩ := hw
      refine lv_goto (tgt := 63) hx hb dX12_anywhere_48 (by decide) ?_
      have hpost : ((0 : Int32) = 0 ∧ (0 ≤ (0 : Int32).toInt ∧ (0 : Int32).toInt ≤ 0) ∧ (0 ≤ n_11.toInt ∧ n_11.toInt ≤ 10) ∧ (zRg 10 0 9 n_12)) ∨ ((0 : Int32) = 1 ∧ (0 ≤ n_32.toInt ∧ n_32.toInt ≤ 0) ∧ (0 ≤ (0 : Int32).toInt ∧ (0 : Int32).toInt ≤ 0) ∧ (0 ≤ n_11.toInt ∧ n_11.toInt ≤ 10) ∧ (1 ≤ n_19.toInt ∧ n_19.toInt ≤ 79200) ∧ (zRg 10 0 9 n_12)) := (Or.inl ⟨rfl, ⟨(by decide +kernel), hr_n_11, hC_n_12⟩⟩)
      have hX_36 : F_r_anywhere m_meanTop m_meanBy g_c g_there r = ((0 : Int32) : Int32) := by
        refine (F_r_anywhere_s ..).trans ?_
        extract_lets -merge -useContext +onlyGivenNames w9 y9; have e9 : (1 : Int32) = w9 := he_r_1; clear_value w9; subst e9
        refine (if_neg (show ¬ (1 : Int32) = 0 by decide)).trans ?_
        extract_lets -merge -useContext +onlyGivenNames w9 y2_0 y2_1; have e9 : (n_11, n_12) = w9 := ((z_tS he_n_11 he_n_12.symm)).symm; clear_value w9; subst e9
        extract_lets -merge -useContext +onlyGivenNames w9 y3_0 y3_1; have e9 : (n_18, n_19) = w9 := ((z_tS he_n_18 he_n_19.symm)).symm; clear_value w9; subst e9
        refine (if_pos c_24).trans ?_
        extract_lets -merge -useContext +onlyGivenNames w9 y5_0 y5_1; have e9 : ((0 : Int32), n_32) = w9 := ((z_tS he_r_33 he_n_32.symm)).symm; clear_value w9; subst e9
        exact rfl
      exact hret _ _ _ _ _ _ (n_32, 0, m_above, m_under, n_11, n_18, n_19, n_12) [2, 0, 1] hP hD hS rfl (by decide) dX12_anywhere_63 (Or.inl rfl) ⟨(congrArg (fun z9 => z9) hX_36).symm, hpost⟩
set_option maxHeartbeats 40000000 in
set_option maxRecDepth 100000 in
theorem r_walk (l : Launch) (G : va_G) (cA : zCA) (h0 : Nat) (m_status : Int32) (m_thrown : Int32) (m_above : Int64) (m_under : Int64) (a_traySort : Nat) (a_trayMany : Nat) (a_numbers : Nat) (a_tape : Nat) (m_taped : Int32) (m_textEnd : Int32) (m_faultKind : Int32) (m_faultAt : Int32) (m_bad : Int32) (m_badAt : Int32) (m_token : Int32) (m_at : Int32) (m_behind : Int32) (m_number : Int32) (m_letters : Int32) (m_word : Int64) (a_c : Nat) (a_words : Nat) (m_markMany : Int32) (a_there : Nat) (a_tried : Nat) (a_best : Nat) (a_found : Nat) (m_thereMany : Int32) (m_foundMany : Int32) (m_orderHow : Int32) (m_orderRing : Int32) (m_orderMany : Int32) (m_hasBest : Int32) (m_bestTop : Int64) (m_bestBy : Int64) (a_weights : Nat) (a_shared : Nat) (m_random : Int32) (m_truePlace : Int32) (m_trueWay : Int32) (m_seconds : Int32) (m_done : Int32) (m_feelings : Int32) (m_tries : Int32) (m_leftOver : Int32) (m_playDoor : Int32) (m_playRing : Int32) (m_isOpen : Int32) (m_isOver : Int32) (m_wasTried : Int32) (m_hasPlayed : Int32) (a_feltNow : Nat) (a_last : Nat) (a_kept : Nat) (m_hasSeconds : Int32) (m_hasTurned : Int32) (m_hasRound : Int32) (a_hasFeels : Nat) (a_isOn : Nat) (m_firstAct : Int32) (m_meanTop : Int64) (m_meanBy : Int64) (a_order : Nat) (m_rowMany : Int32) (m_newSteps : Int32) (g_c : Nat → Int32) (g_there : Nat → Int32) (hr_m_thereMany : 0 ≤ m_thereMany.toInt ∧ m_thereMany.toInt ≤ 10) (hC_g_c : zC g_c) (hC_g_there : zRg 10 0 9 g_there) : zCi l yX12_walk cX12_walk 8 (some .int) ({ frames := 1, cells := 0, slots := 0, locals := 22 }) G cA [.ref h0] [(h0, .inr (12, [.int m_status, .int m_thrown, .long m_above, .long m_under, .ref a_traySort, .ref a_trayMany, .ref a_numbers, .ref a_tape, .int m_taped, .int m_textEnd, .int m_faultKind, .int m_faultAt, .int m_bad, .int m_badAt, .int m_token, .int m_at, .int m_behind, .int m_number, .int m_letters, .long m_word, .ref a_c, .ref a_words, .int m_markMany, .ref a_there, .ref a_tried, .ref a_best, .ref a_found, .int m_thereMany, .int m_foundMany, .int m_orderHow, .int m_orderRing, .int m_orderMany, .int m_hasBest, .long m_bestTop, .long m_bestBy, .ref a_weights, .ref a_shared, .int m_random, .int m_truePlace, .int m_trueWay, .int m_seconds, .int m_done, .int m_feelings, .int m_tries, .int m_leftOver, .int m_playDoor, .int m_playRing, .int m_isOpen, .int m_isOver, .int m_wasTried, .int m_hasPlayed, .ref a_feltNow, .ref a_last, .ref a_kept, .int m_hasSeconds, .int m_hasTurned, .int m_hasRound, .ref a_hasFeels, .ref a_isOn, .int m_firstAct, .long m_meanTop, .long m_meanBy, .ref a_order, .int m_rowMany, .int m_newSteps])), (a_c, .inl (cA.1 0, 1825, .inl g_c)), (a_there, .inl (cA.1 0, 10, .inl g_there))] (S := Unit) (fun (r : Int32) (u : Unit) => (r = (F_r_walk m_thereMany g_c g_there)) ∧ (True)) (fun (u : Unit) => [(h0, .inr (12, [.int m_status, .int m_thrown, .long m_above, .long m_under, .ref a_traySort, .ref a_trayMany, .ref a_numbers, .ref a_tape, .int m_taped, .int m_textEnd, .int m_faultKind, .int m_faultAt, .int m_bad, .int m_badAt, .int m_token, .int m_at, .int m_behind, .int m_number, .int m_letters, .long m_word, .ref a_c, .ref a_words, .int m_markMany, .ref a_there, .ref a_tried, .ref a_best, .ref a_found, .int m_thereMany, .int m_foundMany, .int m_orderHow, .int m_orderRing, .int m_orderMany, .int m_hasBest, .long m_bestTop, .long m_bestBy, .ref a_weights, .ref a_shared, .int m_random, .int m_truePlace, .int m_trueWay, .int m_seconds, .int m_done, .int m_feelings, .int m_tries, .int m_leftOver, .int m_playDoor, .int m_playRing, .int m_isOpen, .int m_isOver, .int m_wasTried, .int m_hasPlayed, .ref a_feltNow, .ref a_last, .ref a_kept, .int m_hasSeconds, .int m_hasTurned, .int m_hasRound, .ref a_hasFeels, .ref a_isOn, .int m_firstAct, .long m_meanTop, .long m_meanBy, .ref a_order, .int m_rowMany, .int m_newSteps])), (a_c, .inl (cA.1 0, 1825, .inl g_c)), (a_there, .inl (cA.1 0, 10, .inl g_there))]) 0 0 := by
  have hk_0 : (0 : Int32).toInt = 0 := by decide +kernel
  have hk_1 : (1 : Int32).toInt = 1 := by decide +kernel
  have hk_138 : (138 : Int32).toInt = 138 := by decide +kernel
  refine z_start2i (own := RX12) (by decide) (Nat.le_of_ble_eq_true rfl) rfl ?_
  intro p e s m args below meth c A ls Q hx hb hml hts hown hK hE hT hP hD hS hA hl hret
  have hl : lv_has ls 8 [(0, .ref h0)] := hl
  refine lv_iconst (v := 0) hx hb dX12_walk_0 (by decide) ?_
  refine lv_istore_n (lv' := [(1, .int 0), (0, .ref h0)]) hx hb dX12_walk_1 rfl hl (by decide) rfl (fun ls hl => ?_)
  refine lv_iconst (v := 0) hx hb dX12_walk_2 (by decide) ?_
  refine lv_istore_n (lv' := [(2, .int 0), (1, .int 0), (0, .ref h0)]) hx hb dX12_walk_3 rfl hl (by decide) rfl (fun ls hl => ?_)
  refine lv_iconst (v := 0) hx hb dX12_walk_4 (by decide) ?_
  refine lv_istore_n (lv' := [(3, .int 0), (2, .int 0), (1, .int 0), (0, .ref h0)]) hx hb dX12_walk_5 rfl hl (by decide) rfl (fun ls hl => ?_)
  have hlp_6650 : ∀ (n_L6a : Nat) (v_5728 : Int32) (v_5729 : Int32) (v_5730 : Int32) (H : Heap) (locs : List Loc) (ls : Array Slot), (2147483647 - v_5730.toInt).toNat < n_L6a → (0 ≤ v_5728.toInt ∧ v_5728.toInt ≤ 9) → (0 ≤ v_5730.toInt ∧ v_5730.toInt ≤ 12) → (F_r_walk m_thereMany g_c g_there = F_r_walk_L6a m_thereMany g_c g_there n_L6a v_5728 v_5729 v_5730) → va_P G vwCl [(h0, .inr (12, [.int m_status, .int m_thrown, .long m_above, .long m_under, .ref a_traySort, .ref a_trayMany, .ref a_numbers, .ref a_tape, .int m_taped, .int m_textEnd, .int m_faultKind, .int m_faultAt, .int m_bad, .int m_badAt, .int m_token, .int m_at, .int m_behind, .int m_number, .int m_letters, .long m_word, .ref a_c, .ref a_words, .int m_markMany, .ref a_there, .ref a_tried, .ref a_best, .ref a_found, .int m_thereMany, .int m_foundMany, .int m_orderHow, .int m_orderRing, .int m_orderMany, .int m_hasBest, .long m_bestTop, .long m_bestBy, .ref a_weights, .ref a_shared, .int m_random, .int m_truePlace, .int m_trueWay, .int m_seconds, .int m_done, .int m_feelings, .int m_tries, .int m_leftOver, .int m_playDoor, .int m_playRing, .int m_isOpen, .int m_isOver, .int m_wasTried, .int m_hasPlayed, .ref a_feltNow, .ref a_last, .ref a_kept, .int m_hasSeconds, .int m_hasTurned, .int m_hasRound, .ref a_hasFeels, .ref a_isOn, .int m_firstAct, .long m_meanTop, .long m_meanBy, .ref a_order, .int m_rowMany, .int m_newSteps])), (a_c, .inl (cA.1 0, 1825, .inl g_c)), (a_there, .inl (cA.1 0, 10, .inl g_there))] H → va_D A [(h0, .inr (12, [.int m_status, .int m_thrown, .long m_above, .long m_under, .ref a_traySort, .ref a_trayMany, .ref a_numbers, .ref a_tape, .int m_taped, .int m_textEnd, .int m_faultKind, .int m_faultAt, .int m_bad, .int m_badAt, .int m_token, .int m_at, .int m_behind, .int m_number, .int m_letters, .long m_word, .ref a_c, .ref a_words, .int m_markMany, .ref a_there, .ref a_tried, .ref a_best, .ref a_found, .int m_thereMany, .int m_foundMany, .int m_orderHow, .int m_orderRing, .int m_orderMany, .int m_hasBest, .long m_bestTop, .long m_bestBy, .ref a_weights, .ref a_shared, .int m_random, .int m_truePlace, .int m_trueWay, .int m_seconds, .int m_done, .int m_feelings, .int m_tries, .int m_leftOver, .int m_playDoor, .int m_playRing, .int m_isOpen, .int m_isOver, .int m_wasTried, .int m_hasPlayed, .ref a_feltNow, .ref a_last, .ref a_kept, .int m_hasSeconds, .int m_hasTurned, .int m_hasRound, .ref a_hasFeels, .ref a_isOn, .int m_firstAct, .long m_meanTop, .long m_meanBy, .ref a_order, .int m_rowMany, .int m_newSteps])), (a_c, .inl (cA.1 0, 1825, .inl g_c)), (a_there, .inl (cA.1 0, 10, .inl g_there))] → va_S A s.heap H locs → lv_has ls 8 [(0, .ref h0), (1, .int v_5728), (2, .int v_5729), (3, .int v_5730)] → W p l e ({ frames := 1, cells := 0, slots := 0, locals := 22 }) s m args below meth c H locs 0 0 Q (F0 m 6 ls []) := by
    intro n_L6a
    induction n_L6a with
    | zero =>
      intro v_5728 v_5729 v_5730 H locs ls hmu_hlp_6650 hr_v_5728 hr_v_5730 hF_L6a hP hD hS hl
      exact absurd hmu_hlp_6650 (Nat.not_lt_zero _)
    | succ n_L6a ih_6651 =>
      intro v_5728 v_5729 v_5730 H locs ls hmu_hlp_6650 hr_v_5728 hr_v_5730 hF_L6a hP hD hS hl
      refine lv_iload_n hx hb dX12_walk_6 rfl (lv_at hl 3 rfl) ?_
      refine lv_aload_n hx hb dX12_walk_7 rfl (lv_at hl 0 rfl) ?_
      refine va_get (D := G) (ci := 12) (v := .ref a_c) (C := RX12) (T := TX12) (N := 65) hx hb hts inT12 hown hK hP 0 rfl rfl 20 (by decide) (hts _ tw_1905) (fun _ h9 => h9) rfl dX12_walk_8 ?_
      refine lv_iconst (v := 4) hx hb dX12_walk_11 (by decide) ?_
      refine va_iald hx hb hK hP 1 0 rfl rfl (z_in (i := 4) (n := 1825) (by decide +kernel) (by decide +kernel)) dX12_walk_12 ?_
      refine lv_topi (fun x_6652 he_x_6652 => ?_)
      have hr_x_6652 := z_ctk hC_g_c he_x_6652 (k := 4) (lo := 0) (hi := 12) (by decide +kernel) (by decide +kernel) (by decide +kernel)
      refine lv_icmp_ge (tgt := 152) hx hb dX12_walk_13 (by decide) (fun c_6653 => ?_) (fun c_6653 => ?_)
      · have b_6654 := z_fgeT c_6653
        refine lv_iload_n hx hb dX12_walk_152 rfl (lv_at hl 2 rfl) ?_
        have hX_6655 : F_r_walk m_thereMany g_c g_there = (v_5729 : Int32) := by
          refine hF_L6a.trans ?_
          refine (F_r_walk_L6a_s ..).trans ?_
          try (extract_lets -merge -useContext +onlyGivenNames y9; have e9 : x_6652 = y9 := (by first | exact he_x_6652 | exact he_x_6652.symm); clear_value y9; subst e9)
          refine (if_pos c_6653).trans ?_
          exact rfl
        exact hret _ _ _ _ _ _ () [0, 1, 2] hP hD hS rfl (by decide) dX12_walk_153 ⟨(congrArg (fun z9 => z9) hX_6655).symm, trivial⟩
      · have b_6656 := z_fltF c_6653
        refine lv_iconst (v := (-1)) hx hb dX12_walk_16 (by decide) ?_
        refine lv_istore (lv' := [(4, .int (-1)), (0, .ref h0), (1, .int v_5728), (2, .int v_5729), (3, .int v_5730)]) hx hb dX12_walk_17 hl (by decide) rfl (fun ls hl => ?_)
        refine lv_iconst (v := 0) hx hb dX12_walk_19 (by decide) ?_
        refine lv_istore (lv' := [(5, .int 0), (4, .int (-1)), (0, .ref h0), (1, .int v_5728), (2, .int v_5729), (3, .int v_5730)]) hx hb dX12_walk_20 hl (by decide) rfl (fun ls hl => ?_)
        refine lv_iconst (v := 0) hx hb dX12_walk_22 (by decide) ?_
        refine lv_istore (lv' := [(6, .int 0), (5, .int 0), (4, .int (-1)), (0, .ref h0), (1, .int v_5728), (2, .int v_5729), (3, .int v_5730)]) hx hb dX12_walk_23 hl (by decide) rfl (fun ls hl => ?_)
        have hlp_7090 : ∀ (n_L25a : Nat) (v_7016 : Int32) (v_7017 : Int32) (v_7018 : Int32) (H : Heap) (locs : List Loc) (ls : Array Slot), (2147483647 - v_7018.toInt).toNat < n_L25a → ((-1) ≤ v_7016.toInt ∧ v_7016.toInt ≤ 9) → (0 ≤ v_7018.toInt ∧ v_7018.toInt ≤ 10) → (F_r_walk m_thereMany g_c g_there = F_r_walk_L25a m_thereMany g_c g_there v_5728 v_5729 v_5730 (F_r_walk_L6a m_thereMany g_c g_there n_L6a) n_L25a v_7016 v_7017 v_7018) → va_P G vwCl [(h0, .inr (12, [.int m_status, .int m_thrown, .long m_above, .long m_under, .ref a_traySort, .ref a_trayMany, .ref a_numbers, .ref a_tape, .int m_taped, .int m_textEnd, .int m_faultKind, .int m_faultAt, .int m_bad, .int m_badAt, .int m_token, .int m_at, .int m_behind, .int m_number, .int m_letters, .long m_word, .ref a_c, .ref a_words, .int m_markMany, .ref a_there, .ref a_tried, .ref a_best, .ref a_found, .int m_thereMany, .int m_foundMany, .int m_orderHow, .int m_orderRing, .int m_orderMany, .int m_hasBest, .long m_bestTop, .long m_bestBy, .ref a_weights, .ref a_shared, .int m_random, .int m_truePlace, .int m_trueWay, .int m_seconds, .int m_done, .int m_feelings, .int m_tries, .int m_leftOver, .int m_playDoor, .int m_playRing, .int m_isOpen, .int m_isOver, .int m_wasTried, .int m_hasPlayed, .ref a_feltNow, .ref a_last, .ref a_kept, .int m_hasSeconds, .int m_hasTurned, .int m_hasRound, .ref a_hasFeels, .ref a_isOn, .int m_firstAct, .long m_meanTop, .long m_meanBy, .ref a_order, .int m_rowMany, .int m_newSteps])), (a_c, .inl (cA.1 0, 1825, .inl g_c)), (a_there, .inl (cA.1 0, 10, .inl g_there))] H → va_D A [(h0, .inr (12, [.int m_status, .int m_thrown, .long m_above, .long m_under, .ref a_traySort, .ref a_trayMany, .ref a_numbers, .ref a_tape, .int m_taped, .int m_textEnd, .int m_faultKind, .int m_faultAt, .int m_bad, .int m_badAt, .int m_token, .int m_at, .int m_behind, .int m_number, .int m_letters, .long m_word, .ref a_c, .ref a_words, .int m_markMany, .ref a_there, .ref a_tried, .ref a_best, .ref a_found, .int m_thereMany, .int m_foundMany, .int m_orderHow, .int m_orderRing, .int m_orderMany, .int m_hasBest, .long m_bestTop, .long m_bestBy, .ref a_weights, .ref a_shared, .int m_random, .int m_truePlace, .int m_trueWay, .int m_seconds, .int m_done, .int m_feelings, .int m_tries, .int m_leftOver, .int m_playDoor, .int m_playRing, .int m_isOpen, .int m_isOver, .int m_wasTried, .int m_hasPlayed, .ref a_feltNow, .ref a_last, .ref a_kept, .int m_hasSeconds, .int m_hasTurned, .int m_hasRound, .ref a_hasFeels, .ref a_isOn, .int m_firstAct, .long m_meanTop, .long m_meanBy, .ref a_order, .int m_rowMany, .int m_newSteps])), (a_c, .inl (cA.1 0, 1825, .inl g_c)), (a_there, .inl (cA.1 0, 10, .inl g_there))] → va_S A s.heap H locs → lv_has ls 8 [(0, .ref h0), (1, .int v_5728), (2, .int v_5729), (3, .int v_5730), (4, .int v_7016), (5, .int v_7017), (6, .int v_7018)] → W p l e ({ frames := 1, cells := 0, slots := 0, locals := 22 }) s m args below meth c H locs 0 0 Q (F0 m 25 ls []) := by
          intro n_L25a
          induction n_L25a with
          | zero =>
            intro v_7016 v_7017 v_7018 H locs ls hmu_hlp_7090 hr_v_7016 hr_v_7018 hF_L25a hP hD hS hl
            exact absurd hmu_hlp_7090 (Nat.not_lt_zero _)
          | succ n_L25a ih_7091 =>
            intro v_7016 v_7017 v_7018 H locs ls hmu_hlp_7090 hr_v_7016 hr_v_7018 hF_L25a hP hD hS hl
            refine lv_iload hx hb dX12_walk_25 (lv_at hl 6 rfl) ?_
            refine lv_aload_n hx hb dX12_walk_27 rfl (lv_at hl 0 rfl) ?_
            refine va_get (D := G) (ci := 12) (v := .int m_thereMany) (C := RX12) (T := TX12) (N := 65) hx hb hts inT12 hown hK hP 0 rfl rfl 27 (by decide) (hts _ tw_1912) (fun _ h9 => h9) rfl dX12_walk_28 ?_
            refine lv_icmp_ge (tgt := 115) hx hb dX12_walk_31 (by decide) (fun c_7092 => ?_) (fun c_7092 => ?_)
            · have b_7093 := z_fgeT c_7092
              refine lv_iload hx hb dX12_walk_115 (lv_at hl 4 rfl) ?_
              refine lv_if_ge (tgt := 122) hx hb dX12_walk_117 (by decide) (fun c_7094 => ?_) (fun c_7094 => ?_)
              · have b_7095 := z_fgeT c_7094
                refine lv_iload_n hx hb dX12_walk_122 rfl (lv_at hl 2 rfl) ?_
                refine lv_iload hx hb dX12_walk_123 (lv_at hl 5 rfl) ?_
                refine lv_aload_n hx hb dX12_walk_125 rfl (lv_at hl 0 rfl) ?_
                refine va_get (D := G) (ci := 12) (v := .ref a_c) (C := RX12) (T := TX12) (N := 65) hx hb hts inT12 hown hK hP 0 rfl rfl 20 (by decide) (hts _ tw_1905) (fun _ h9 => h9) rfl dX12_walk_126 ?_
                refine lv_bipush (v := 7) hx hb dX12_walk_129 (by decide) ?_
                refine va_iald hx hb hK hP 1 0 rfl rfl (z_in (i := 7) (n := 1825) (by decide +kernel) (by decide +kernel)) dX12_walk_131 ?_
                refine lv_topi (fun x_7096 he_x_7096 => ?_)
                have hr_x_7096 := z_ctk hC_g_c he_x_7096 (k := 7) (lo := 0) (hi := 99) (by decide +kernel) (by decide +kernel) (by decide +kernel)
                refine lv_imul hx hb dX12_walk_132 ?_
                have hL_v_7017 := z_full v_7017
                refine lv_topi (fun x_7097 he_x_7097 => ?_)
                refine lv_aload_n hx hb dX12_walk_133 rfl (lv_at hl 0 rfl) ?_
                refine va_get (D := G) (ci := 12) (v := .ref a_c) (C := RX12) (T := TX12) (N := 65) hx hb hts inT12 hown hK hP 0 rfl rfl 20 (by decide) (hts _ tw_1905) (fun _ h9 => h9) rfl dX12_walk_134 ?_
                refine lv_bipush (v := 6) hx hb dX12_walk_137 (by decide) ?_
                refine va_iald hx hb hK hP 1 0 rfl rfl (z_in (i := 6) (n := 1825) (by decide +kernel) (by decide +kernel)) dX12_walk_139 ?_
                refine lv_topi (fun x_7098 he_x_7098 => ?_)
                have hr_x_7098 := z_ctk hC_g_c he_x_7098 (k := 6) (lo := 0) (hi := 99) (by decide +kernel) (by decide +kernel) (by decide +kernel)
                refine lv_iadd hx hb dX12_walk_140 ?_
                have hL_x_7097 := z_full x_7097
                refine lv_topi (fun x_7099 he_x_7099 => ?_)
                refine lv_iadd hx hb dX12_walk_141 ?_
                have hL_v_5729 := z_full v_5729
                have hL_x_7099 := z_full x_7099
                refine lv_topi (fun x_7100 he_x_7100 => ?_)
                refine lv_istore_n (lv' := [(2, .int x_7100), (0, .ref h0), (1, .int v_5728), (3, .int v_5730), (4, .int v_7016), (5, .int v_7017), (6, .int v_7018)]) hx hb dX12_walk_142 rfl hl (by decide) rfl (fun ls hl => ?_)
                refine lv_iload hx hb dX12_walk_143 (lv_at hl 4 rfl) ?_
                refine lv_istore_n (lv' := [(1, .int v_7016), (2, .int x_7100), (0, .ref h0), (3, .int v_5730), (4, .int v_7016), (5, .int v_7017), (6, .int v_7018)]) hx hb dX12_walk_145 rfl hl (by decide) rfl (fun ls hl => ?_)
                obtain ⟨x_7101, he_x_7101⟩ : ∃ z : Int32, z = v_5730 + 1 := ⟨_, rfl⟩
                have hq_x_7101 := z_addq he_x_7101 (rfl : v_5730.toInt = _) hk_1 (by omega) (by omega)
                refine lv_iinc (v := x_7101) (lv' := [(3, .int x_7101), (1, .int v_7016), (2, .int x_7100), (0, .ref h0), (4, .int v_7016), (5, .int v_7017), (6, .int v_7018)]) hx hb dX12_walk_146 hl (k := 3) rfl ((z_ofi (by decide +kernel)).trans he_x_7101.symm) (by decide) rfl (fun ls hl => ?_)
                refine lv_goto (tgt := 6) hx hb dX12_walk_149 (by decide) ?_
                have hX_7102 : F_r_walk m_thereMany g_c g_there = F_r_walk_L6a m_thereMany g_c g_there n_L6a v_7016 x_7100 x_7101 := by
                  refine hF_L25a.trans ?_
                  refine (F_r_walk_L25a_s ..).trans ?_
                  refine (if_pos c_7092).trans ?_
                  refine (if_pos c_7094).trans ?_
                  try (extract_lets -merge -useContext +onlyGivenNames y9; have e9 : x_7096 = y9 := (by first | exact he_x_7096 | exact he_x_7096.symm); clear_value y9; subst e9)
                  try (extract_lets -merge -useContext +onlyGivenNames y9; have e9 : x_7097 = y9 := (by first | exact he_x_7097 | exact he_x_7097.symm); clear_value y9; subst e9)
                  try (extract_lets -merge -useContext +onlyGivenNames y9; have e9 : x_7098 = y9 := (by first | exact he_x_7098 | exact he_x_7098.symm); clear_value y9; subst e9)
                  try (extract_lets -merge -useContext +onlyGivenNames y9; have e9 : x_7099 = y9 := (by first | exact he_x_7099 | exact he_x_7099.symm); clear_value y9; subst e9)
                  try (extract_lets -merge -useContext +onlyGivenNames y9; have e9 : x_7100 = y9 := (by first | exact he_x_7100 | exact he_x_7100.symm); clear_value y9; subst e9)
                  try (extract_lets -merge -useContext +onlyGivenNames y9; have e9 : x_7101 = y9 := (by first | exact he_x_7101 | exact he_x_7101.symm); clear_value y9; subst e9)
                  exact rfl
                exact ih_6651 v_7016 x_7100 x_7101 H locs ls (by omega) (by omega) (by omega) hX_7102 hP hD hS (lv_sub hl [3, 1, 2, 0] rfl)
              · have b_7103 := z_fltF c_7094
                refine lv_iconst (v := (-1)) hx hb dX12_walk_120 (by decide) ?_
                have hX_7104 : F_r_walk m_thereMany g_c g_there = ((-1 : Int32) : Int32) := by
                  refine hF_L25a.trans ?_
                  refine (F_r_walk_L25a_s ..).trans ?_
                  refine (if_pos c_7092).trans ?_
                  refine (if_neg c_7094).trans ?_
                  exact rfl
                exact hret _ _ _ _ _ _ () [0, 1, 2] hP hD hS rfl (by decide) dX12_walk_121 ⟨(congrArg (fun z9 => z9) hX_7104).symm, trivial⟩
            · have b_7105 := z_fltF c_7092
              refine lv_iload hx hb dX12_walk_34 (lv_at hl 6 rfl) ?_
              refine lv_aload_n hx hb dX12_walk_36 rfl (lv_at hl 0 rfl) ?_
              refine va_get (D := G) (ci := 12) (v := .int m_thereMany) (C := RX12) (T := TX12) (N := 65) hx hb hts inT12 hown hK hP 0 rfl rfl 27 (by decide) (hts _ tw_1912) (fun _ h9 => h9) rfl dX12_walk_37 ?_
              refine lv_iload hx hb dX12_walk_40 (lv_at hl 6 rfl) ?_
              refine lv_isub hx hb dX12_walk_42 ?_
              refine lv_topi (fun x_7106 he_x_7106 => ?_)
              have hq_x_7106 := z_subq he_x_7106 (rfl : m_thereMany.toInt = _) (rfl : v_7018.toInt = _) (by omega) (by omega)
              refine z_callSi (As := [.int v_7018, .int x_7106]) (rest := []) (wr := [(h0, .inr (12, [.int m_status, .int m_thrown, .long m_above, .long m_under, .ref a_traySort, .ref a_trayMany, .ref a_numbers, .ref a_tape, .int m_taped, .int m_textEnd, .int m_faultKind, .int m_faultAt, .int m_bad, .int m_badAt, .int m_token, .int m_at, .int m_behind, .int m_number, .int m_letters, .long m_word, .ref a_c, .ref a_words, .int m_markMany, .ref a_there, .ref a_tried, .ref a_best, .ref a_found, .int m_thereMany, .int m_foundMany, .int m_orderHow, .int m_orderRing, .int m_orderMany, .int m_hasBest, .long m_bestTop, .long m_bestBy, .ref a_weights, .ref a_shared, .int m_random, .int m_truePlace, .int m_trueWay, .int m_seconds, .int m_done, .int m_feelings, .int m_tries, .int m_leftOver, .int m_playDoor, .int m_playRing, .int m_isOpen, .int m_isOver, .int m_wasTried, .int m_hasPlayed, .ref a_feltNow, .ref a_last, .ref a_kept, .int m_hasSeconds, .int m_hasTurned, .int m_hasRound, .ref a_hasFeels, .ref a_isOn, .int m_firstAct, .long m_meanTop, .long m_meanBy, .ref a_order, .int m_rowMany, .int m_newSteps])), (a_c, .inl (cA.1 0, 1825, .inl g_c)), (a_there, .inl (cA.1 0, 10, .inl g_there))]) ⟨hx, hb, hml, hown, hts⟩ hK hE hT hP hD hS hA (r_Ma_min l G cA v_7018 x_7106) lk_RX12_450 ⟨rfl, rfl⟩ ⟨Nat.le_of_ble_eq_true rfl, Nat.le_of_ble_eq_true rfl⟩ [] [0, 1, 2] rfl rfl (by decide) rfl hl.1 rfl (lv_room (Nat.le_of_ble_eq_true rfl)) dX12_walk_43 ⟨Nat.le_of_ble_eq_true rfl, Nat.le_of_ble_eq_true rfl⟩ (fun r_7107 u_7108 H locs hw hP hD hS => ?_)
              obtain ⟨he_r_7107, hw⟩ := hw
              refine lv_istore (lv' := [(7, .int r_7107), (0, .ref h0), (1, .int v_5728), (2, .int v_5729), (3, .int v_5730), (4, .int v_7016), (5, .int v_7017), (6, .int v_7018)]) hx hb dX12_walk_46 hl (by decide) rfl (fun ls hl => ?_)
              refine lv_aload_n hx hb dX12_walk_48 rfl (lv_at hl 1 rfl) ?_
              refine lv_aload_n hx hb dX12_walk_49 rfl (lv_at hl 1 rfl) ?_
              refine va_get (D := G) (ci := 12) (v := .ref a_there) (C := RX12) (T := TX12) (N := 65) hx hb hts inT12 hown hK hP 0 rfl rfl 23 (by decide) (hts _ tw_1908) (fun _ h9 => h9) rfl dX12_walk_50 ?_
              refine lv_iload_n hx hb dX12_walk_53 rfl (lv_at hl 2 rfl) ?_
              refine lv_iload hx hb dX12_walk_54 (lv_at hl 7 rfl) ?_
              refine lv_iadd hx hb dX12_walk_56 ?_
              refine lv_topi (fun x_7110 he_x_7110 => ?_)
              have hq_x_7110 := z_addq he_x_7110 (rfl : v_5728.toInt = _) (rfl : v_7018.toInt = _) (by omega) (by omega)
              refine lv_aload_n hx hb dX12_walk_57 rfl (lv_at hl 1 rfl) ?_
              refine va_get (D := G) (ci := 12) (v := .int m_thereMany) (C := RX12) (T := TX12) (N := 65) hx hb hts inT12 hown hK hP 0 rfl rfl 27 (by decide) (hts _ tw_1912) (fun _ h9 => h9) rfl dX12_walk_58 ?_
              refine lv_irem hx hb dX12_walk_61 (z_nz (by omega)) ?_
              refine lv_topi (fun x_7111 he_x_7111 => ?_)
              have hr_x_7111 := z_remr he_x_7111 (by omega) (by omega)
              refine va_iald hx hb hK hP 2 0 rfl rfl (z_inN (by omega) (by omega)) dX12_walk_62 ?_
              refine lv_topi (fun x_7112 he_x_7112 => ?_)
              have hr_x_7112 := z_rg hC_g_there he_x_7112 (by omega) (by omega)
              refine lv_aload_n hx hb dX12_walk_63 rfl (lv_at hl 1 rfl) ?_
              refine va_get (D := G) (ci := 12) (v := .ref a_c) (C := RX12) (T := TX12) (N := 65) hx hb hts inT12 hown hK hP 0 rfl rfl 20 (by decide) (hts _ tw_1905) (fun _ h9 => h9) rfl dX12_walk_64 ?_
              refine lv_sipush (v := 138) hx hb dX12_walk_67 (by decide) ?_
              refine lv_iload_n hx hb dX12_walk_70 rfl (lv_at hl 4 rfl) ?_
              refine lv_iadd hx hb dX12_walk_71 ?_
              refine lv_topi (fun x_7113 he_x_7113 => ?_)
              have hq_x_7113 := z_addq he_x_7113 hk_138 (rfl : v_5730.toInt = _) (by omega) (by omega)
              refine va_iald hx hb hK hP 1 0 rfl rfl (z_inN (by omega) (by omega)) dX12_walk_72 ?_
              refine lv_topi (fun x_7114 he_x_7114 => ?_)
              have hr_x_7114 := z_ct hC_g_c he_x_7114 (a := 138) (b := 149) (lo := 0) (hi := 4) (by decide +kernel) (by decide) (by omega) (by omega)
              refine z_callVi (As := [.int x_7112, .int x_7114]) (rest := []) (wr := [(a_there, .inl (cA.1 0, 10, .inl g_there))]) ⟨hx, hb, hml, hown, hts⟩ hK hE hT hP hD hS hA (r_canOpen l G cA h0 m_status m_thrown m_above m_under a_traySort a_trayMany a_numbers a_tape m_taped m_textEnd m_faultKind m_faultAt m_bad m_badAt m_token m_at m_behind m_number m_letters m_word a_c a_words m_markMany a_there a_tried a_best a_found m_thereMany m_foundMany m_orderHow m_orderRing m_orderMany m_hasBest m_bestTop m_bestBy a_weights a_shared m_random m_truePlace m_trueWay m_seconds m_done m_feelings m_tries m_leftOver m_playDoor m_playRing m_isOpen m_isOver m_wasTried m_hasPlayed a_feltNow a_last a_kept m_hasSeconds m_hasTurned m_hasRound a_hasFeels a_isOn m_firstAct m_meanTop m_meanBy a_order m_rowMany m_newSteps g_c x_7112 x_7114 hr_x_7112 hr_x_7114 hC_g_c) lk_RX12_345 ⟨rfl, rfl⟩ ⟨Nat.le_of_ble_eq_true rfl, Nat.le_of_ble_eq_true rfl⟩ 12 rfl rfl rfl [0, 1] [2] rfl rfl (by decide) rfl hl.1 rfl (lv_room (Nat.le_of_ble_eq_true rfl)) dX12_walk_73 ⟨Nat.le_of_ble_eq_true rfl, Nat.le_of_ble_eq_true rfl⟩ (fun r_7115 u_7116 H locs hw hP hD hS => ?_)
              obtain ⟨he_r_7115, hw⟩ := hw
              rcases hw with ⟨rfl, hf_7118⟩ | ⟨rfl, hf_7119⟩
              · skip
                refine lv_if_eq (tgt := 109) hx hb dX12_walk_76 (by decide) (fun _ => ?_) (fun h9 => absurd (by decide +kernel) h9)
                obtain ⟨x_7120, he_x_7120⟩ : ∃ z : Int32, z = v_7018 + 1 := ⟨_, rfl⟩
                have hq_x_7120 := z_addq he_x_7120 (rfl : v_7018.toInt = _) hk_1 (by omega) (by omega)
                refine lv_iinc (v := x_7120) (lv' := [(6, .int x_7120), (7, .int r_7107), (0, .ref h0), (1, .int v_5728), (2, .int v_5729), (3, .int v_5730), (4, .int v_7016), (5, .int v_7017)]) hx hb dX12_walk_109 hl (k := 7) rfl ((z_ofi (by decide +kernel)).trans he_x_7120.symm) (by decide) rfl (fun ls hl => ?_)
                refine lv_goto (tgt := 25) hx hb dX12_walk_112 (by decide) ?_
                have hX_7121 : F_r_walk m_thereMany g_c g_there = F_r_walk_L25a m_thereMany g_c g_there v_5728 v_5729 v_5730 (F_r_walk_L6a m_thereMany g_c g_there n_L6a) n_L25a v_7016 v_7017 x_7120 := by
                  refine hF_L25a.trans ?_
                  refine (F_r_walk_L25a_s ..).trans ?_
                  refine (if_neg c_7092).trans ?_
                  try (extract_lets -merge -useContext +onlyGivenNames y9; have e9 : x_7106 = y9 := (by first | exact he_x_7106 | exact he_x_7106.symm); clear_value y9; subst e9)
                  extract_lets -merge -useContext +onlyGivenNames w9 y9; have e9 : r_7107 = w9 := he_r_7107; clear_value w9; subst e9
                  try (extract_lets -merge -useContext +onlyGivenNames y9; have e9 : x_7110 = y9 := (by first | exact he_x_7110 | exact he_x_7110.symm); clear_value y9; subst e9)
                  try (extract_lets -merge -useContext +onlyGivenNames y9; have e9 : x_7111 = y9 := (by first | exact he_x_7111 | exact he_x_7111.symm); clear_value y9; subst e9)
                  try (extract_lets -merge -useContext +onlyGivenNames y9; have e9 : x_7112 = y9 := (by first | exact he_x_7112 | exact he_x_7112.symm); clear_value y9; subst e9)
                  try (extract_lets -merge -useContext +onlyGivenNames y9; have e9 : x_7113 = y9 := (by first | exact he_x_7113 | exact he_x_7113.symm); clear_value y9; subst e9)
                  try (extract_lets -merge -useContext +onlyGivenNames y9; have e9 : x_7114 = y9 := (by first | exact he_x_7114 | exact he_x_7114.symm); clear_value y9; subst e9)
                  extract_lets -merge -useContext +onlyGivenNames w9 y9; have e9 : (0 : Int32) = w9 := he_r_7115; clear_value w9; subst e9
                  refine (if_pos rfl).trans ?_
                  try (extract_lets -merge -useContext +onlyGivenNames y9; have e9 : x_7120 = y9 := (by first | exact he_x_7120 | exact he_x_7120.symm); clear_value y9; subst e9)
                  exact rfl
                have hP := hP.sub (ws' := [(h0, .inr (12, [.int m_status, .int m_thrown, .long m_above, .long m_under, .ref a_traySort, .ref a_trayMany, .ref a_numbers, .ref a_tape, .int m_taped, .int m_textEnd, .int m_faultKind, .int m_faultAt, .int m_bad, .int m_badAt, .int m_token, .int m_at, .int m_behind, .int m_number, .int m_letters, .long m_word, .ref a_c, .ref a_words, .int m_markMany, .ref a_there, .ref a_tried, .ref a_best, .ref a_found, .int m_thereMany, .int m_foundMany, .int m_orderHow, .int m_orderRing, .int m_orderMany, .int m_hasBest, .long m_bestTop, .long m_bestBy, .ref a_weights, .ref a_shared, .int m_random, .int m_truePlace, .int m_trueWay, .int m_seconds, .int m_done, .int m_feelings, .int m_tries, .int m_leftOver, .int m_playDoor, .int m_playRing, .int m_isOpen, .int m_isOver, .int m_wasTried, .int m_hasPlayed, .ref a_feltNow, .ref a_last, .ref a_kept, .int m_hasSeconds, .int m_hasTurned, .int m_hasRound, .ref a_hasFeels, .ref a_isOn, .int m_firstAct, .long m_meanTop, .long m_meanBy, .ref a_order, .int m_rowMany, .int m_newSteps])), (a_c, .inl (cA.1 0, 1825, .inl g_c)), (a_there, .inl (cA.1 0, 10, .inl g_there))]) [1, 2, 0] rfl
                have hD := hD.sub (ws' := [(h0, .inr (12, [.int m_status, .int m_thrown, .long m_above, .long m_under, .ref a_traySort, .ref a_trayMany, .ref a_numbers, .ref a_tape, .int m_taped, .int m_textEnd, .int m_faultKind, .int m_faultAt, .int m_bad, .int m_badAt, .int m_token, .int m_at, .int m_behind, .int m_number, .int m_letters, .long m_word, .ref a_c, .ref a_words, .int m_markMany, .ref a_there, .ref a_tried, .ref a_best, .ref a_found, .int m_thereMany, .int m_foundMany, .int m_orderHow, .int m_orderRing, .int m_orderMany, .int m_hasBest, .long m_bestTop, .long m_bestBy, .ref a_weights, .ref a_shared, .int m_random, .int m_truePlace, .int m_trueWay, .int m_seconds, .int m_done, .int m_feelings, .int m_tries, .int m_leftOver, .int m_playDoor, .int m_playRing, .int m_isOpen, .int m_isOver, .int m_wasTried, .int m_hasPlayed, .ref a_feltNow, .ref a_last, .ref a_kept, .int m_hasSeconds, .int m_hasTurned, .int m_hasRound, .ref a_hasFeels, .ref a_isOn, .int m_firstAct, .long m_meanTop, .long m_meanBy, .ref a_order, .int m_rowMany, .int m_newSteps])), (a_c, .inl (cA.1 0, 1825, .inl g_c)), (a_there, .inl (cA.1 0, 10, .inl g_there))]) [1, 2, 0] (by decide) rfl
                exact ih_7091 v_7016 v_7017 x_7120 H locs ls (by omega) hr_v_7016 (by omega) hX_7121 hP hD hS (lv_sub hl [2, 3, 4, 5, 6, 7, 0] rfl)
              · skip
                refine lv_if_eq (tgt := 109) hx hb dX12_walk_76 (by decide) (fun h9 => absurd h9 (by decide +kernel)) (fun _ => ?_)
                refine lv_iload hx hb dX12_walk_79 (lv_at hl 5 rfl) ?_
                refine lv_if_lt (tgt := 94) hx hb dX12_walk_81 (by decide) (fun c_7122 => ?_) (fun c_7122 => ?_)
                · have b_7123 := z_fltT c_7122
                  refine lv_iload_n hx hb dX12_walk_94 rfl (lv_at hl 2 rfl) ?_
                  refine lv_iload hx hb dX12_walk_95 (lv_at hl 7 rfl) ?_
                  refine lv_iadd hx hb dX12_walk_97 ?_
                  refine lv_topi (fun x_7124 he_x_7124 => ?_)
                  have hq_x_7124 := z_addq he_x_7124 (rfl : v_5728.toInt = _) (rfl : v_7018.toInt = _) (by omega) (by omega)
                  refine lv_aload_n hx hb dX12_walk_98 rfl (lv_at hl 1 rfl) ?_
                  refine va_get (D := G) (ci := 12) (v := .int m_thereMany) (C := RX12) (T := TX12) (N := 65) hx hb hts inT12 hown hK hP 1 rfl rfl 27 (by decide) (hts _ tw_1912) (fun _ h9 => h9) rfl dX12_walk_99 ?_
                  refine lv_irem hx hb dX12_walk_102 (z_nz (by omega)) ?_
                  refine lv_topi (fun x_7125 he_x_7125 => ?_)
                  have hr_x_7125 := z_remr he_x_7125 (by omega) (by omega)
                  refine lv_istore (lv' := [(4, .int x_7125), (7, .int r_7107), (0, .ref h0), (1, .int v_5728), (2, .int v_5729), (3, .int v_5730), (5, .int v_7017), (6, .int v_7018)]) hx hb dX12_walk_103 hl (by decide) rfl (fun ls hl => ?_)
                  refine lv_iload hx hb dX12_walk_105 (lv_at hl 1 rfl) ?_
                  refine lv_istore (lv' := [(5, .int r_7107), (4, .int x_7125), (7, .int r_7107), (0, .ref h0), (1, .int v_5728), (2, .int v_5729), (3, .int v_5730), (6, .int v_7018)]) hx hb dX12_walk_107 hl (by decide) rfl (fun ls hl => ?_)
                  obtain ⟨x_7126, he_x_7126⟩ : ∃ z : Int32, z = v_7018 + 1 := ⟨_, rfl⟩
                  have hq_x_7126 := z_addq he_x_7126 (rfl : v_7018.toInt = _) hk_1 (by omega) (by omega)
                  refine lv_iinc (v := x_7126) (lv' := [(6, .int x_7126), (5, .int r_7107), (4, .int x_7125), (7, .int r_7107), (0, .ref h0), (1, .int v_5728), (2, .int v_5729), (3, .int v_5730)]) hx hb dX12_walk_109 hl (k := 7) rfl ((z_ofi (by decide +kernel)).trans he_x_7126.symm) (by decide) rfl (fun ls hl => ?_)
                  refine lv_goto (tgt := 25) hx hb dX12_walk_112 (by decide) ?_
                  have hX_7127 : F_r_walk m_thereMany g_c g_there = F_r_walk_L25a m_thereMany g_c g_there v_5728 v_5729 v_5730 (F_r_walk_L6a m_thereMany g_c g_there n_L6a) n_L25a x_7125 r_7107 x_7126 := by
                    refine hF_L25a.trans ?_
                    refine (F_r_walk_L25a_s ..).trans ?_
                    refine (if_neg c_7092).trans ?_
                    try (extract_lets -merge -useContext +onlyGivenNames y9; have e9 : x_7106 = y9 := (by first | exact he_x_7106 | exact he_x_7106.symm); clear_value y9; subst e9)
                    extract_lets -merge -useContext +onlyGivenNames w9 y9; have e9 : r_7107 = w9 := he_r_7107; clear_value w9; subst e9
                    try (extract_lets -merge -useContext +onlyGivenNames y9; have e9 : x_7110 = y9 := (by first | exact he_x_7110 | exact he_x_7110.symm); clear_value y9; subst e9)
                    try (extract_lets -merge -useContext +onlyGivenNames y9; have e9 : x_7111 = y9 := (by first | exact he_x_7111 | exact he_x_7111.symm); clear_value y9; subst e9)
                    try (extract_lets -merge -useContext +onlyGivenNames y9; have e9 : x_7112 = y9 := (by first | exact he_x_7112 | exact he_x_7112.symm); clear_value y9; subst e9)
                    try (extract_lets -merge -useContext +onlyGivenNames y9; have e9 : x_7113 = y9 := (by first | exact he_x_7113 | exact he_x_7113.symm); clear_value y9; subst e9)
                    try (extract_lets -merge -useContext +onlyGivenNames y9; have e9 : x_7114 = y9 := (by first | exact he_x_7114 | exact he_x_7114.symm); clear_value y9; subst e9)
                    extract_lets -merge -useContext +onlyGivenNames w9 y9; have e9 : (1 : Int32) = w9 := he_r_7115; clear_value w9; subst e9
                    refine (if_neg (show ¬ (1 : Int32) = 0 by decide)).trans ?_
                    refine (if_pos c_7122).trans ?_
                    try (extract_lets -merge -useContext +onlyGivenNames y9; have e9 : x_7124 = y9 := (by first | exact he_x_7124 | exact he_x_7124.symm); clear_value y9; subst e9)
                    try (extract_lets -merge -useContext +onlyGivenNames y9; have e9 : x_7125 = y9 := (by first | exact he_x_7125 | exact he_x_7125.symm); clear_value y9; subst e9)
                    try (extract_lets -merge -useContext +onlyGivenNames y9; have e9 : x_7126 = y9 := (by first | exact he_x_7126 | exact he_x_7126.symm); clear_value y9; subst e9)
                    exact rfl
                  have hP := hP.sub (ws' := [(h0, .inr (12, [.int m_status, .int m_thrown, .long m_above, .long m_under, .ref a_traySort, .ref a_trayMany, .ref a_numbers, .ref a_tape, .int m_taped, .int m_textEnd, .int m_faultKind, .int m_faultAt, .int m_bad, .int m_badAt, .int m_token, .int m_at, .int m_behind, .int m_number, .int m_letters, .long m_word, .ref a_c, .ref a_words, .int m_markMany, .ref a_there, .ref a_tried, .ref a_best, .ref a_found, .int m_thereMany, .int m_foundMany, .int m_orderHow, .int m_orderRing, .int m_orderMany, .int m_hasBest, .long m_bestTop, .long m_bestBy, .ref a_weights, .ref a_shared, .int m_random, .int m_truePlace, .int m_trueWay, .int m_seconds, .int m_done, .int m_feelings, .int m_tries, .int m_leftOver, .int m_playDoor, .int m_playRing, .int m_isOpen, .int m_isOver, .int m_wasTried, .int m_hasPlayed, .ref a_feltNow, .ref a_last, .ref a_kept, .int m_hasSeconds, .int m_hasTurned, .int m_hasRound, .ref a_hasFeels, .ref a_isOn, .int m_firstAct, .long m_meanTop, .long m_meanBy, .ref a_order, .int m_rowMany, .int m_newSteps])), (a_c, .inl (cA.1 0, 1825, .inl g_c)), (a_there, .inl (cA.1 0, 10, .inl g_there))]) [1, 2, 0] rfl
                  have hD := hD.sub (ws' := [(h0, .inr (12, [.int m_status, .int m_thrown, .long m_above, .long m_under, .ref a_traySort, .ref a_trayMany, .ref a_numbers, .ref a_tape, .int m_taped, .int m_textEnd, .int m_faultKind, .int m_faultAt, .int m_bad, .int m_badAt, .int m_token, .int m_at, .int m_behind, .int m_number, .int m_letters, .long m_word, .ref a_c, .ref a_words, .int m_markMany, .ref a_there, .ref a_tried, .ref a_best, .ref a_found, .int m_thereMany, .int m_foundMany, .int m_orderHow, .int m_orderRing, .int m_orderMany, .int m_hasBest, .long m_bestTop, .long m_bestBy, .ref a_weights, .ref a_shared, .int m_random, .int m_truePlace, .int m_trueWay, .int m_seconds, .int m_done, .int m_feelings, .int m_tries, .int m_leftOver, .int m_playDoor, .int m_playRing, .int m_isOpen, .int m_isOver, .int m_wasTried, .int m_hasPlayed, .ref a_feltNow, .ref a_last, .ref a_kept, .int m_hasSeconds, .int m_hasTurned, .int m_hasRound, .ref a_hasFeels, .ref a_isOn, .int m_firstAct, .long m_meanTop, .long m_meanBy, .ref a_order, .int m_rowMany, .int m_newSteps])), (a_c, .inl (cA.1 0, 1825, .inl g_c)), (a_there, .inl (cA.1 0, 10, .inl g_there))]) [1, 2, 0] (by decide) rfl
                  exact ih_7091 x_7125 r_7107 x_7126 H locs ls (by omega) (by omega) (by omega) hX_7127 hP hD hS (lv_sub hl [4, 5, 6, 7, 2, 1, 0] rfl)
                · have b_7128 := z_fgeF c_7122
                  refine lv_iload hx hb dX12_walk_84 (lv_at hl 0 rfl) ?_
                  refine lv_iload hx hb dX12_walk_86 (lv_at hl 6 rfl) ?_
                  refine lv_icmp_lt (tgt := 94) hx hb dX12_walk_88 (by decide) (fun c_7129 => ?_) (fun c_7129 => ?_)
                  · have b_7130 := z_fltT c_7129
                    refine lv_iload_n hx hb dX12_walk_94 rfl (lv_at hl 2 rfl) ?_
                    refine lv_iload hx hb dX12_walk_95 (lv_at hl 7 rfl) ?_
                    refine lv_iadd hx hb dX12_walk_97 ?_
                    refine lv_topi (fun x_7131 he_x_7131 => ?_)
                    have hq_x_7131 := z_addq he_x_7131 (rfl : v_5728.toInt = _) (rfl : v_7018.toInt = _) (by omega) (by omega)
                    refine lv_aload_n hx hb dX12_walk_98 rfl (lv_at hl 1 rfl) ?_
                    refine va_get (D := G) (ci := 12) (v := .int m_thereMany) (C := RX12) (T := TX12) (N := 65) hx hb hts inT12 hown hK hP 1 rfl rfl 27 (by decide) (hts _ tw_1912) (fun _ h9 => h9) rfl dX12_walk_99 ?_
                    refine lv_irem hx hb dX12_walk_102 (z_nz (by omega)) ?_
                    refine lv_topi (fun x_7132 he_x_7132 => ?_)
                    have hr_x_7132 := z_remr he_x_7132 (by omega) (by omega)
                    refine lv_istore (lv' := [(4, .int x_7132), (7, .int r_7107), (0, .ref h0), (1, .int v_5728), (2, .int v_5729), (3, .int v_5730), (5, .int v_7017), (6, .int v_7018)]) hx hb dX12_walk_103 hl (by decide) rfl (fun ls hl => ?_)
                    refine lv_iload hx hb dX12_walk_105 (lv_at hl 1 rfl) ?_
                    refine lv_istore (lv' := [(5, .int r_7107), (4, .int x_7132), (7, .int r_7107), (0, .ref h0), (1, .int v_5728), (2, .int v_5729), (3, .int v_5730), (6, .int v_7018)]) hx hb dX12_walk_107 hl (by decide) rfl (fun ls hl => ?_)
                    obtain ⟨x_7133, he_x_7133⟩ : ∃ z : Int32, z = v_7018 + 1 := ⟨_, rfl⟩
                    have hq_x_7133 := z_addq he_x_7133 (rfl : v_7018.toInt = _) hk_1 (by omega) (by omega)
                    refine lv_iinc (v := x_7133) (lv' := [(6, .int x_7133), (5, .int r_7107), (4, .int x_7132), (7, .int r_7107), (0, .ref h0), (1, .int v_5728), (2, .int v_5729), (3, .int v_5730)]) hx hb dX12_walk_109 hl (k := 7) rfl ((z_ofi (by decide +kernel)).trans he_x_7133.symm) (by decide) rfl (fun ls hl => ?_)
                    refine lv_goto (tgt := 25) hx hb dX12_walk_112 (by decide) ?_
                    have hX_7134 : F_r_walk m_thereMany g_c g_there = F_r_walk_L25a m_thereMany g_c g_there v_5728 v_5729 v_5730 (F_r_walk_L6a m_thereMany g_c g_there n_L6a) n_L25a x_7132 r_7107 x_7133 := by
                      refine hF_L25a.trans ?_
                      refine (F_r_walk_L25a_s ..).trans ?_
                      refine (if_neg c_7092).trans ?_
                      try (extract_lets -merge -useContext +onlyGivenNames y9; have e9 : x_7106 = y9 := (by first | exact he_x_7106 | exact he_x_7106.symm); clear_value y9; subst e9)
                      extract_lets -merge -useContext +onlyGivenNames w9 y9; have e9 : r_7107 = w9 := he_r_7107; clear_value w9; subst e9
                      try (extract_lets -merge -useContext +onlyGivenNames y9; have e9 : x_7110 = y9 := (by first | exact he_x_7110 | exact he_x_7110.symm); clear_value y9; subst e9)
                      try (extract_lets -merge -useContext +onlyGivenNames y9; have e9 : x_7111 = y9 := (by first | exact he_x_7111 | exact he_x_7111.symm); clear_value y9; subst e9)
                      try (extract_lets -merge -useContext +onlyGivenNames y9; have e9 : x_7112 = y9 := (by first | exact he_x_7112 | exact he_x_7112.symm); clear_value y9; subst e9)
                      try (extract_lets -merge -useContext +onlyGivenNames y9; have e9 : x_7113 = y9 := (by first | exact he_x_7113 | exact he_x_7113.symm); clear_value y9; subst e9)
                      try (extract_lets -merge -useContext +onlyGivenNames y9; have e9 : x_7114 = y9 := (by first | exact he_x_7114 | exact he_x_7114.symm); clear_value y9; subst e9)
                      extract_lets -merge -useContext +onlyGivenNames w9 y9; have e9 : (1 : Int32) = w9 := he_r_7115; clear_value w9; subst e9
                      refine (if_neg (show ¬ (1 : Int32) = 0 by decide)).trans ?_
                      refine (if_neg c_7122).trans ?_
                      refine (if_pos c_7129).trans ?_
                      try (extract_lets -merge -useContext +onlyGivenNames y9; have e9 : x_7131 = y9 := (by first | exact he_x_7131 | exact he_x_7131.symm); clear_value y9; subst e9)
                      try (extract_lets -merge -useContext +onlyGivenNames y9; have e9 : x_7132 = y9 := (by first | exact he_x_7132 | exact he_x_7132.symm); clear_value y9; subst e9)
                      try (extract_lets -merge -useContext +onlyGivenNames y9; have e9 : x_7133 = y9 := (by first | exact he_x_7133 | exact he_x_7133.symm); clear_value y9; subst e9)
                      exact rfl
                    have hP := hP.sub (ws' := [(h0, .inr (12, [.int m_status, .int m_thrown, .long m_above, .long m_under, .ref a_traySort, .ref a_trayMany, .ref a_numbers, .ref a_tape, .int m_taped, .int m_textEnd, .int m_faultKind, .int m_faultAt, .int m_bad, .int m_badAt, .int m_token, .int m_at, .int m_behind, .int m_number, .int m_letters, .long m_word, .ref a_c, .ref a_words, .int m_markMany, .ref a_there, .ref a_tried, .ref a_best, .ref a_found, .int m_thereMany, .int m_foundMany, .int m_orderHow, .int m_orderRing, .int m_orderMany, .int m_hasBest, .long m_bestTop, .long m_bestBy, .ref a_weights, .ref a_shared, .int m_random, .int m_truePlace, .int m_trueWay, .int m_seconds, .int m_done, .int m_feelings, .int m_tries, .int m_leftOver, .int m_playDoor, .int m_playRing, .int m_isOpen, .int m_isOver, .int m_wasTried, .int m_hasPlayed, .ref a_feltNow, .ref a_last, .ref a_kept, .int m_hasSeconds, .int m_hasTurned, .int m_hasRound, .ref a_hasFeels, .ref a_isOn, .int m_firstAct, .long m_meanTop, .long m_meanBy, .ref a_order, .int m_rowMany, .int m_newSteps])), (a_c, .inl (cA.1 0, 1825, .inl g_c)), (a_there, .inl (cA.1 0, 10, .inl g_there))]) [1, 2, 0] rfl
                    have hD := hD.sub (ws' := [(h0, .inr (12, [.int m_status, .int m_thrown, .long m_above, .long m_under, .ref a_traySort, .ref a_trayMany, .ref a_numbers, .ref a_tape, .int m_taped, .int m_textEnd, .int m_faultKind, .int m_faultAt, .int m_bad, .int m_badAt, .int m_token, .int m_at, .int m_behind, .int m_number, .int m_letters, .long m_word, .ref a_c, .ref a_words, .int m_markMany, .ref a_there, .ref a_tried, .ref a_best, .ref a_found, .int m_thereMany, .int m_foundMany, .int m_orderHow, .int m_orderRing, .int m_orderMany, .int m_hasBest, .long m_bestTop, .long m_bestBy, .ref a_weights, .ref a_shared, .int m_random, .int m_truePlace, .int m_trueWay, .int m_seconds, .int m_done, .int m_feelings, .int m_tries, .int m_leftOver, .int m_playDoor, .int m_playRing, .int m_isOpen, .int m_isOver, .int m_wasTried, .int m_hasPlayed, .ref a_feltNow, .ref a_last, .ref a_kept, .int m_hasSeconds, .int m_hasTurned, .int m_hasRound, .ref a_hasFeels, .ref a_isOn, .int m_firstAct, .long m_meanTop, .long m_meanBy, .ref a_order, .int m_rowMany, .int m_newSteps])), (a_c, .inl (cA.1 0, 1825, .inl g_c)), (a_there, .inl (cA.1 0, 10, .inl g_there))]) [1, 2, 0] (by decide) rfl
                    exact ih_7091 x_7132 r_7107 x_7133 H locs ls (by omega) (by omega) (by omega) hX_7134 hP hD hS (lv_sub hl [4, 5, 6, 7, 2, 1, 0] rfl)
                  · have b_7135 := z_fgeF c_7129
                    refine lv_goto (tgt := 109) hx hb dX12_walk_91 (by decide) ?_
                    obtain ⟨x_7136, he_x_7136⟩ : ∃ z : Int32, z = v_7018 + 1 := ⟨_, rfl⟩
                    have hq_x_7136 := z_addq he_x_7136 (rfl : v_7018.toInt = _) hk_1 (by omega) (by omega)
                    refine lv_iinc (v := x_7136) (lv' := [(6, .int x_7136), (7, .int r_7107), (0, .ref h0), (1, .int v_5728), (2, .int v_5729), (3, .int v_5730), (4, .int v_7016), (5, .int v_7017)]) hx hb dX12_walk_109 hl (k := 7) rfl ((z_ofi (by decide +kernel)).trans he_x_7136.symm) (by decide) rfl (fun ls hl => ?_)
                    refine lv_goto (tgt := 25) hx hb dX12_walk_112 (by decide) ?_
                    have hX_7137 : F_r_walk m_thereMany g_c g_there = F_r_walk_L25a m_thereMany g_c g_there v_5728 v_5729 v_5730 (F_r_walk_L6a m_thereMany g_c g_there n_L6a) n_L25a v_7016 v_7017 x_7136 := by
                      refine hF_L25a.trans ?_
                      refine (F_r_walk_L25a_s ..).trans ?_
                      refine (if_neg c_7092).trans ?_
                      try (extract_lets -merge -useContext +onlyGivenNames y9; have e9 : x_7106 = y9 := (by first | exact he_x_7106 | exact he_x_7106.symm); clear_value y9; subst e9)
                      extract_lets -merge -useContext +onlyGivenNames w9 y9; have e9 : r_7107 = w9 := he_r_7107; clear_value w9; subst e9
                      try (extract_lets -merge -useContext +onlyGivenNames y9; have e9 : x_7110 = y9 := (by first | exact he_x_7110 | exact he_x_7110.symm); clear_value y9; subst e9)
                      try (extract_lets -merge -useContext +onlyGivenNames y9; have e9 : x_7111 = y9 := (by first | exact he_x_7111 | exact he_x_7111.symm); clear_value y9; subst e9)
                      try (extract_lets -merge -useContext +onlyGivenNames y9; have e9 : x_7112 = y9 := (by first | exact he_x_7112 | exact he_x_7112.symm); clear_value y9; subst e9)
                      try (extract_lets -merge -useContext +onlyGivenNames y9; have e9 : x_7113 = y9 := (by first | exact he_x_7113 | exact he_x_7113.symm); clear_value y9; subst e9)
                      try (extract_lets -merge -useContext +onlyGivenNames y9; have e9 : x_7114 = y9 := (by first | exact he_x_7114 | exact he_x_7114.symm); clear_value y9; subst e9)
                      extract_lets -merge -useContext +onlyGivenNames w9 y9; have e9 : (1 : Int32) = w9 := he_r_7115; clear_value w9; subst e9
                      refine (if_neg (show ¬ (1 : Int32) = 0 by decide)).trans ?_
                      refine (if_neg c_7122).trans ?_
                      refine (if_neg c_7129).trans ?_
                      try (extract_lets -merge -useContext +onlyGivenNames y9; have e9 : x_7136 = y9 := (by first | exact he_x_7136 | exact he_x_7136.symm); clear_value y9; subst e9)
                      exact rfl
                    have hP := hP.sub (ws' := [(h0, .inr (12, [.int m_status, .int m_thrown, .long m_above, .long m_under, .ref a_traySort, .ref a_trayMany, .ref a_numbers, .ref a_tape, .int m_taped, .int m_textEnd, .int m_faultKind, .int m_faultAt, .int m_bad, .int m_badAt, .int m_token, .int m_at, .int m_behind, .int m_number, .int m_letters, .long m_word, .ref a_c, .ref a_words, .int m_markMany, .ref a_there, .ref a_tried, .ref a_best, .ref a_found, .int m_thereMany, .int m_foundMany, .int m_orderHow, .int m_orderRing, .int m_orderMany, .int m_hasBest, .long m_bestTop, .long m_bestBy, .ref a_weights, .ref a_shared, .int m_random, .int m_truePlace, .int m_trueWay, .int m_seconds, .int m_done, .int m_feelings, .int m_tries, .int m_leftOver, .int m_playDoor, .int m_playRing, .int m_isOpen, .int m_isOver, .int m_wasTried, .int m_hasPlayed, .ref a_feltNow, .ref a_last, .ref a_kept, .int m_hasSeconds, .int m_hasTurned, .int m_hasRound, .ref a_hasFeels, .ref a_isOn, .int m_firstAct, .long m_meanTop, .long m_meanBy, .ref a_order, .int m_rowMany, .int m_newSteps])), (a_c, .inl (cA.1 0, 1825, .inl g_c)), (a_there, .inl (cA.1 0, 10, .inl g_there))]) [1, 2, 0] rfl
                    have hD := hD.sub (ws' := [(h0, .inr (12, [.int m_status, .int m_thrown, .long m_above, .long m_under, .ref a_traySort, .ref a_trayMany, .ref a_numbers, .ref a_tape, .int m_taped, .int m_textEnd, .int m_faultKind, .int m_faultAt, .int m_bad, .int m_badAt, .int m_token, .int m_at, .int m_behind, .int m_number, .int m_letters, .long m_word, .ref a_c, .ref a_words, .int m_markMany, .ref a_there, .ref a_tried, .ref a_best, .ref a_found, .int m_thereMany, .int m_foundMany, .int m_orderHow, .int m_orderRing, .int m_orderMany, .int m_hasBest, .long m_bestTop, .long m_bestBy, .ref a_weights, .ref a_shared, .int m_random, .int m_truePlace, .int m_trueWay, .int m_seconds, .int m_done, .int m_feelings, .int m_tries, .int m_leftOver, .int m_playDoor, .int m_playRing, .int m_isOpen, .int m_isOver, .int m_wasTried, .int m_hasPlayed, .ref a_feltNow, .ref a_last, .ref a_kept, .int m_hasSeconds, .int m_hasTurned, .int m_hasRound, .ref a_hasFeels, .ref a_isOn, .int m_firstAct, .long m_meanTop, .long m_meanBy, .ref a_order, .int m_rowMany, .int m_newSteps])), (a_c, .inl (cA.1 0, 1825, .inl g_c)), (a_there, .inl (cA.1 0, 10, .inl g_there))]) [1, 2, 0] (by decide) rfl
                    exact ih_7091 v_7016 v_7017 x_7136 H locs ls (by omega) hr_v_7016 (by omega) hX_7137 hP hD hS (lv_sub hl [2, 3, 4, 5, 6, 7, 0] rfl)
        have hX_7138 : F_r_walk m_thereMany g_c g_there = F_r_walk_L25a m_thereMany g_c g_there v_5728 v_5729 v_5730 (F_r_walk_L6a m_thereMany g_c g_there n_L6a) ((2147483647 - (0 : Int32).toInt).toNat + 1) (-1 : Int32) (0 : Int32) (0 : Int32) := by
          refine hF_L6a.trans ?_
          refine (F_r_walk_L6a_s ..).trans ?_
          try (extract_lets -merge -useContext +onlyGivenNames y9; have e9 : x_6652 = y9 := (by first | exact he_x_6652 | exact he_x_6652.symm); clear_value y9; subst e9)
          refine (if_neg c_6653).trans ?_
          exact rfl
        exact hlp_7090 ((2147483647 - (0 : Int32).toInt).toNat + 1) (-1) 0 0 _ _ _ (Nat.lt_succ_self _) (by decide +kernel) (by decide +kernel) hX_7138 hP hD hS (lv_sub hl [3, 4, 5, 6, 2, 1, 0] rfl)
  have hX_7139 : F_r_walk m_thereMany g_c g_there = F_r_walk_L6a m_thereMany g_c g_there ((2147483647 - (0 : Int32).toInt).toNat + 1) (0 : Int32) (0 : Int32) (0 : Int32) := by
    refine (F_r_walk_s ..).trans ?_
    exact rfl
  exact hlp_6650 ((2147483647 - (0 : Int32).toInt).toNat + 1) 0 0 0 _ _ _ (Nat.lt_succ_self _) (by decide +kernel) (by decide +kernel) hX_7139 hP hD hS (lv_sub hl [3, 2, 1, 0] rfl)
set_option maxHeartbeats 4000000 in
set_option maxRecDepth 100000 in
theorem r_walked (l : Launch) (G : va_G) (cA : zCA) (h0 : Nat) (m_status : Int32) (m_thrown : Int32) (m_above : Int64) (m_under : Int64) (a_traySort : Nat) (a_trayMany : Nat) (a_numbers : Nat) (a_tape : Nat) (m_taped : Int32) (m_textEnd : Int32) (m_faultKind : Int32) (m_faultAt : Int32) (m_bad : Int32) (m_badAt : Int32) (m_token : Int32) (m_at : Int32) (m_behind : Int32) (m_number : Int32) (m_letters : Int32) (m_word : Int64) (a_c : Nat) (a_words : Nat) (m_markMany : Int32) (a_there : Nat) (a_tried : Nat) (a_best : Nat) (a_found : Nat) (m_thereMany : Int32) (m_foundMany : Int32) (m_orderHow : Int32) (m_orderRing : Int32) (m_orderMany : Int32) (m_hasBest : Int32) (m_bestTop : Int64) (m_bestBy : Int64) (a_weights : Nat) (a_shared : Nat) (m_random : Int32) (m_truePlace : Int32) (m_trueWay : Int32) (m_seconds : Int32) (m_done : Int32) (m_feelings : Int32) (m_tries : Int32) (m_leftOver : Int32) (m_playDoor : Int32) (m_playRing : Int32) (m_isOpen : Int32) (m_isOver : Int32) (m_wasTried : Int32) (m_hasPlayed : Int32) (a_feltNow : Nat) (a_last : Nat) (a_kept : Nat) (m_hasSeconds : Int32) (m_hasTurned : Int32) (m_hasRound : Int32) (a_hasFeels : Nat) (a_isOn : Nat) (m_firstAct : Int32) (m_meanTop : Int64) (m_meanBy : Int64) (a_order : Nat) (m_rowMany : Int32) (m_newSteps : Int32) (g_c : Nat → Int32) (g_there : Nat → Int32) (r : Int32) (hr_m_thereMany : 0 ≤ m_thereMany.toInt ∧ m_thereMany.toInt ≤ 10) (hC_g_c : zC g_c) (hC_g_there : zRg 10 0 9 g_there) : zCi l yX12_walked cX12_walked 3 (some .int) ({ frames := 2, cells := 0, slots := 0, locals := 49 }) G cA [.ref h0, .int r] [(h0, .inr (12, [.int m_status, .int m_thrown, .long m_above, .long m_under, .ref a_traySort, .ref a_trayMany, .ref a_numbers, .ref a_tape, .int m_taped, .int m_textEnd, .int m_faultKind, .int m_faultAt, .int m_bad, .int m_badAt, .int m_token, .int m_at, .int m_behind, .int m_number, .int m_letters, .long m_word, .ref a_c, .ref a_words, .int m_markMany, .ref a_there, .ref a_tried, .ref a_best, .ref a_found, .int m_thereMany, .int m_foundMany, .int m_orderHow, .int m_orderRing, .int m_orderMany, .int m_hasBest, .long m_bestTop, .long m_bestBy, .ref a_weights, .ref a_shared, .int m_random, .int m_truePlace, .int m_trueWay, .int m_seconds, .int m_done, .int m_feelings, .int m_tries, .int m_leftOver, .int m_playDoor, .int m_playRing, .int m_isOpen, .int m_isOver, .int m_wasTried, .int m_hasPlayed, .ref a_feltNow, .ref a_last, .ref a_kept, .int m_hasSeconds, .int m_hasTurned, .int m_hasRound, .ref a_hasFeels, .ref a_isOn, .int m_firstAct, .long m_meanTop, .long m_meanBy, .ref a_order, .int m_rowMany, .int m_newSteps])), (a_c, .inl (cA.1 0, 1825, .inl g_c)), (a_there, .inl (cA.1 0, 10, .inl g_there))] (S := Int32 × Int32 × Int32 × (Nat → Int32)) (fun (r : Int32) (u : Int32 × Int32 × Int32 × (Nat → Int32)) => ((-1) ≤ r.toInt ∧ r.toInt ≤ 2147483647) ∧ (0 ≤ u.2.1.toInt ∧ u.2.1.toInt ≤ 0) ∧ (0 ≤ u.2.2.1.toInt ∧ u.2.2.1.toInt ≤ 10) ∧ (zRg 10 0 9 u.2.2.2)) (fun (u : Int32 × Int32 × Int32 × (Nat → Int32)) => [(h0, .inr (12, [.int u.1, .int u.2.1, .long m_above, .long m_under, .ref a_traySort, .ref a_trayMany, .ref a_numbers, .ref a_tape, .int m_taped, .int m_textEnd, .int m_faultKind, .int m_faultAt, .int m_bad, .int m_badAt, .int m_token, .int m_at, .int m_behind, .int m_number, .int m_letters, .long m_word, .ref a_c, .ref a_words, .int m_markMany, .ref a_there, .ref a_tried, .ref a_best, .ref a_found, .int u.2.2.1, .int m_foundMany, .int m_orderHow, .int m_orderRing, .int m_orderMany, .int m_hasBest, .long m_bestTop, .long m_bestBy, .ref a_weights, .ref a_shared, .int m_random, .int m_truePlace, .int m_trueWay, .int m_seconds, .int m_done, .int m_feelings, .int m_tries, .int m_leftOver, .int m_playDoor, .int m_playRing, .int m_isOpen, .int m_isOver, .int m_wasTried, .int m_hasPlayed, .ref a_feltNow, .ref a_last, .ref a_kept, .int m_hasSeconds, .int m_hasTurned, .int m_hasRound, .ref a_hasFeels, .ref a_isOn, .int m_firstAct, .long m_meanTop, .long m_meanBy, .ref a_order, .int m_rowMany, .int m_newSteps])), (a_c, .inl (cA.1 0, 1825, .inl g_c)), (a_there, .inl (cA.1 0, 10, .inl u.2.2.2))]) 0 0 := by
  have hk_0 : (0 : Int32).toInt = 0 := by decide +kernel
  have hk_2 : (2 : Int32).toInt = 2 := by decide +kernel
  have hk_8 : (8 : Int32).toInt = 8 := by decide +kernel
  refine z_start2i (own := RX12) (by decide) (Nat.le_of_ble_eq_true rfl) rfl ?_
  intro p e s m args below meth c A ls Q hx hb hml hts hown hK hE hT hP hD hS hA hl hret
  have hl : lv_has ls 3 [(0, .ref h0), (1, .int r)] := hl
  refine lv_aload_n hx hb dX12_walked_0 rfl (lv_at hl 0 rfl) ?_
  refine lv_iconst (v := 0) hx hb dX12_walked_1 (by decide) ?_
  refine va_put (D := G) (ci := 12) (v := .int 0) (ty := .int) (C := RX12) (T := TX12) (N := 65) hx hb hts inT12 tyX12 tyX12_ok nmX12 hown hK hP hD hS 0 rfl rfl 1 (by decide) (hts _ tw_1886) (fun _ h9 => h9) rfl (tyX12_ok 1 (by decide)) rfl rfl (Nat.le_of_ble_eq_true rfl) dX12_walked_2 (fun H locs hP hD hS => ?_)
  refine lv_aload_n hx hb dX12_walked_5 rfl (lv_at hl 0 rfl) ?_
  refine lv_iconst (v := 0) hx hb dX12_walked_6 (by decide) ?_
  refine va_put (D := G) (ci := 12) (v := .int 0) (ty := .int) (C := RX12) (T := TX12) (N := 65) hx hb hts inT12 tyX12 tyX12_ok nmX12 hown hK hP hD hS 0 rfl rfl 0 (by decide) (hts _ tw_1885) (fun _ h9 => h9) rfl (tyX12_ok 0 (by decide)) rfl rfl (Nat.le_of_ble_eq_true rfl) dX12_walked_7 (fun H locs hP hD hS => ?_)
  refine lv_aload_n hx hb dX12_walked_10 rfl (lv_at hl 0 rfl) ?_
  refine lv_iload_n hx hb dX12_walked_11 rfl (lv_at hl 1 rfl) ?_
  refine z_callVi (As := [.int r]) (rest := []) (wr := [(a_there, .inl (cA.1 0, 10, .inl g_there))]) ⟨hx, hb, hml, hown, hts⟩ hK hE hT hP hD hS hA (r_isRing l G cA h0 0 0 m_above m_under a_traySort a_trayMany a_numbers a_tape m_taped m_textEnd m_faultKind m_faultAt m_bad m_badAt m_token m_at m_behind m_number m_letters m_word a_c a_words m_markMany a_there a_tried a_best a_found m_thereMany m_foundMany m_orderHow m_orderRing m_orderMany m_hasBest m_bestTop m_bestBy a_weights a_shared m_random m_truePlace m_trueWay m_seconds m_done m_feelings m_tries m_leftOver m_playDoor m_playRing m_isOpen m_isOver m_wasTried m_hasPlayed a_feltNow a_last a_kept m_hasSeconds m_hasTurned m_hasRound a_hasFeels a_isOn m_firstAct m_meanTop m_meanBy a_order m_rowMany m_newSteps g_c r hC_g_c) lk_RX12_289 ⟨rfl, rfl⟩ ⟨Nat.le_of_ble_eq_true rfl, Nat.le_of_ble_eq_true rfl⟩ 12 rfl rfl rfl [0, 1] [2] rfl rfl (by decide) rfl hl.1 rfl (lv_room (Nat.le_of_ble_eq_true rfl)) dX12_walked_12 ⟨Nat.le_of_ble_eq_true rfl, Nat.le_of_ble_eq_true rfl⟩ (fun r_1 u_2 H locs hw hP hD hS => ?_)
  obtain ⟨he_r_1, hw⟩ := hw
  rcases hw with ⟨rfl, -⟩ | ⟨rfl, hf_3, hf_4⟩
  · skip
    refine lv_if_ne (tgt := 24) hx hb dX12_walked_15 (by decide) (fun h9 => absurd (by decide +kernel) h9) (fun _ => ?_)
    refine lv_aload_n hx hb dX12_walked_18 rfl (lv_at hl 0 rfl) ?_
    refine lv_iconst (v := 2) hx hb dX12_walked_19 (by decide) ?_
    refine z_callVi (As := [.int 2]) (rest := []) (wr := [(a_there, .inl (cA.1 0, 10, .inl g_there)), (a_c, .inl (cA.1 0, 1825, .inl g_c))]) ⟨hx, hb, hml, hown, hts⟩ hK hE hT hP hD hS hA (r_refuse l G cA h0 0 0 m_above m_under a_traySort a_trayMany a_numbers a_tape m_taped m_textEnd m_faultKind m_faultAt m_bad m_badAt m_token m_at m_behind m_number m_letters m_word a_c a_words m_markMany a_there a_tried a_best a_found m_thereMany m_foundMany m_orderHow m_orderRing m_orderMany m_hasBest m_bestTop m_bestBy a_weights a_shared m_random m_truePlace m_trueWay m_seconds m_done m_feelings m_tries m_leftOver m_playDoor m_playRing m_isOpen m_isOver m_wasTried m_hasPlayed a_feltNow a_last a_kept m_hasSeconds m_hasTurned m_hasRound a_hasFeels a_isOn m_firstAct m_meanTop m_meanBy a_order m_rowMany m_newSteps 2) lk_RX12_269 ⟨rfl, rfl⟩ ⟨Nat.le_of_ble_eq_true rfl, Nat.le_of_ble_eq_true rfl⟩ 12 rfl rfl rfl [1] [0, 2] rfl rfl (by decide) rfl hl.1 rfl (lv_room (Nat.le_of_ble_eq_true rfl)) dX12_walked_20 ⟨Nat.le_of_ble_eq_true rfl, Nat.le_of_ble_eq_true rfl⟩ (fun r_6 u_7 H locs hw hP hD hS => ?_)
    obtain ⟨n_5, rfl⟩ : ∃ z, z = u_7 := ⟨_, rfl⟩
    obtain ⟨he_r_6, he_n_5, hw⟩ := hw
    have hr_r_6 := hw
    have hpost : ((-1) ≤ r_6.toInt ∧ r_6.toInt ≤ 2147483647) ∧ (0 ≤ (0 : Int32).toInt ∧ (0 : Int32).toInt ≤ 0) ∧ (0 ≤ m_thereMany.toInt ∧ m_thereMany.toInt ≤ 10) ∧ (zRg 10 0 9 g_there) := ⟨(z_rgw hr_r_6 (by decide) (by decide)), (by decide +kernel), hr_m_thereMany, hC_g_there⟩
    exact hret _ _ _ _ _ _ (n_5, 0, m_thereMany, g_there) [2, 1, 0] hP hD hS rfl (by decide) dX12_walked_23 hpost
  · skip
    refine lv_if_ne (tgt := 24) hx hb dX12_walked_15 (by decide) (fun _ => ?_) (fun h9 => absurd h9 (by decide +kernel))
    refine lv_aload_n hx hb dX12_walked_24 rfl (lv_at hl 0 rfl) ?_
    refine lv_iload_n hx hb dX12_walked_25 rfl (lv_at hl 1 rfl) ?_
    refine z_callVv (As := [.int r]) (rest := []) (wr := []) ⟨hx, hb, hml, hown, hts⟩ hK hE hT hP hD hS hA (r_gather l G cA h0 0 0 m_above m_under a_traySort a_trayMany a_numbers a_tape m_taped m_textEnd m_faultKind m_faultAt m_bad m_badAt m_token m_at m_behind m_number m_letters m_word a_c a_words m_markMany a_there a_tried a_best a_found m_thereMany m_foundMany m_orderHow m_orderRing m_orderMany m_hasBest m_bestTop m_bestBy a_weights a_shared m_random m_truePlace m_trueWay m_seconds m_done m_feelings m_tries m_leftOver m_playDoor m_playRing m_isOpen m_isOver m_wasTried m_hasPlayed a_feltNow a_last a_kept m_hasSeconds m_hasTurned m_hasRound a_hasFeels a_isOn m_firstAct m_meanTop m_meanBy a_order m_rowMany m_newSteps g_c g_there r (by omega) hr_m_thereMany hC_g_c hC_g_there) lk_RX12_292 ⟨rfl, rfl⟩ ⟨Nat.le_of_ble_eq_true rfl, Nat.le_of_ble_eq_true rfl⟩ 12 rfl rfl rfl [1, 2, 0] [] rfl rfl (by decide) rfl hl.1 rfl (lv_room (Nat.le_of_ble_eq_true rfl)) dX12_walked_26 ⟨Nat.le_of_ble_eq_true rfl, Nat.le_of_ble_eq_true rfl⟩ (fun u_11 H locs hw hP hD hS => ?_)
    obtain ⟨n_8, n_9⟩ := u_11
    try dsimp only at hw
    obtain ⟨he_n_8, he_n_9, hw⟩ := hw
    obtain ⟨hr_n_8, hC_n_9, hf_12, hf_13⟩ := hw
    refine lv_aload_n hx hb dX12_walked_29 rfl (lv_at hl 0 rfl) ?_
    refine va_get (D := G) (ci := 12) (v := .ref a_c) (C := RX12) (T := TX12) (N := 65) hx hb hts inT12 hown hK hP 0 rfl rfl 20 (by decide) (hts _ tw_1905) (fun _ h9 => h9) rfl dX12_walked_30 ?_
    refine lv_iconst (v := 4) hx hb dX12_walked_33 (by decide) ?_
    refine va_iald hx hb hK hP 1 0 rfl rfl (z_in (i := 4) (n := 1825) (by decide +kernel) (by decide +kernel)) dX12_walked_34 ?_
    refine lv_topi (fun x_14 he_x_14 => ?_)
    have hr_x_14 := z_ctk hC_g_c he_x_14 (k := 4) (lo := 0) (hi := 12) (by decide +kernel) (by decide +kernel) (by decide +kernel)
    refine lv_if_ne (tgt := 42) hx hb dX12_walked_35 (by decide) (fun c_15 => ?_) (fun c_15 => ?_)
    · have b_16 := z_fneT c_15
      refine lv_aload_n hx hb dX12_walked_42 rfl (lv_at hl 0 rfl) ?_
      refine z_callVi (As := []) (rest := []) (wr := []) ⟨hx, hb, hml, hown, hts⟩ hK hE hT hP hD hS hA (r_walk l G cA h0 0 0 m_above m_under a_traySort a_trayMany a_numbers a_tape m_taped m_textEnd m_faultKind m_faultAt m_bad m_badAt m_token m_at m_behind m_number m_letters m_word a_c a_words m_markMany a_there a_tried a_best a_found n_8 m_foundMany m_orderHow m_orderRing m_orderMany m_hasBest m_bestTop m_bestBy a_weights a_shared m_random m_truePlace m_trueWay m_seconds m_done m_feelings m_tries m_leftOver m_playDoor m_playRing m_isOpen m_isOver m_wasTried m_hasPlayed a_feltNow a_last a_kept m_hasSeconds m_hasTurned m_hasRound a_hasFeels a_isOn m_firstAct m_meanTop m_meanBy a_order m_rowMany m_newSteps g_c n_9 hr_n_8 hC_g_c hC_n_9) lk_RX12_408 ⟨rfl, rfl⟩ ⟨Nat.le_of_ble_eq_true rfl, Nat.le_of_ble_eq_true rfl⟩ 12 rfl rfl rfl [0, 1, 2] [] rfl rfl (by decide) rfl hl.1 rfl (lv_room (Nat.le_of_ble_eq_true rfl)) dX12_walked_43 ⟨Nat.le_of_ble_eq_true rfl, Nat.le_of_ble_eq_true rfl⟩ (fun r_17 u_18 H locs hw hP hD hS => ?_)
      obtain ⟨he_r_17, hw⟩ := hw
      refine lv_istore_n (lv' := [(2, .int r_17), (0, .ref h0), (1, .int r)]) hx hb dX12_walked_46 rfl hl (by decide) rfl (fun ls hl => ?_)
      refine lv_iload_n hx hb dX12_walked_47 rfl (lv_at hl 0 rfl) ?_
      refine lv_if_ge (tgt := 60) hx hb dX12_walked_48 (by decide) (fun c_19 => ?_) (fun c_19 => ?_)
      · have b_20 := z_fgeT c_19
        refine lv_iload_n hx hb dX12_walked_60 rfl (lv_at hl 0 rfl) ?_
        have hL_r_17 := z_full r_17
        have hpost : ((-1) ≤ r_17.toInt ∧ r_17.toInt ≤ 2147483647) ∧ (0 ≤ (0 : Int32).toInt ∧ (0 : Int32).toInt ≤ 0) ∧ (0 ≤ n_8.toInt ∧ n_8.toInt ≤ 10) ∧ (zRg 10 0 9 n_9) := ⟨(by omega), (by decide +kernel), hr_n_8, hC_n_9⟩
        exact hret _ _ _ _ _ _ (0, 0, n_8, n_9) [0, 1, 2] hP hD hS rfl (by decide) dX12_walked_61 hpost
      · have b_21 := z_fltF c_19
        refine lv_aload_n hx hb dX12_walked_51 rfl (lv_at hl 1 rfl) ?_
        refine lv_bipush (v := 8) hx hb dX12_walked_52 (by decide) ?_
        refine z_callVi (As := [.int 8]) (rest := []) (wr := [(a_c, .inl (cA.1 0, 1825, .inl g_c)), (a_there, .inl (cA.1 0, 10, .inl n_9))]) ⟨hx, hb, hml, hown, hts⟩ hK hE hT hP hD hS hA (r_refuse l G cA h0 0 0 m_above m_under a_traySort a_trayMany a_numbers a_tape m_taped m_textEnd m_faultKind m_faultAt m_bad m_badAt m_token m_at m_behind m_number m_letters m_word a_c a_words m_markMany a_there a_tried a_best a_found n_8 m_foundMany m_orderHow m_orderRing m_orderMany m_hasBest m_bestTop m_bestBy a_weights a_shared m_random m_truePlace m_trueWay m_seconds m_done m_feelings m_tries m_leftOver m_playDoor m_playRing m_isOpen m_isOver m_wasTried m_hasPlayed a_feltNow a_last a_kept m_hasSeconds m_hasTurned m_hasRound a_hasFeels a_isOn m_firstAct m_meanTop m_meanBy a_order m_rowMany m_newSteps 8) lk_RX12_269 ⟨rfl, rfl⟩ ⟨Nat.le_of_ble_eq_true rfl, Nat.le_of_ble_eq_true rfl⟩ 12 rfl rfl rfl [0] [1, 2] rfl rfl (by decide) rfl hl.1 rfl (lv_room (Nat.le_of_ble_eq_true rfl)) dX12_walked_54 ⟨Nat.le_of_ble_eq_true rfl, Nat.le_of_ble_eq_true rfl⟩ (fun r_23 u_24 H locs hw hP hD hS => ?_)
        obtain ⟨n_22, rfl⟩ : ∃ z, z = u_24 := ⟨_, rfl⟩
        obtain ⟨he_r_23, he_n_22, hw⟩ := hw
        have hr_r_23 := hw
        refine lv_goto (tgt := 61) hx hb dX12_walked_57 (by decide) ?_
        have hpost : ((-1) ≤ r_23.toInt ∧ r_23.toInt ≤ 2147483647) ∧ (0 ≤ (0 : Int32).toInt ∧ (0 : Int32).toInt ≤ 0) ∧ (0 ≤ n_8.toInt ∧ n_8.toInt ≤ 10) ∧ (zRg 10 0 9 n_9) := ⟨(z_rgw hr_r_23 (by decide) (by decide)), (by decide +kernel), hr_n_8, hC_n_9⟩
        exact hret _ _ _ _ _ _ (n_22, 0, n_8, n_9) [2, 0, 1] hP hD hS rfl (by decide) dX12_walked_61 hpost
    · have b_25 := z_feqF c_15
      refine lv_iconst (v := (-1)) hx hb dX12_walked_38 (by decide) ?_
      refine lv_goto (tgt := 46) hx hb dX12_walked_39 (by decide) ?_
      refine lv_istore_n (lv' := [(2, .int (-1)), (0, .ref h0), (1, .int r)]) hx hb dX12_walked_46 rfl hl (by decide) rfl (fun ls hl => ?_)
      refine lv_iload_n hx hb dX12_walked_47 rfl (lv_at hl 0 rfl) ?_
      refine lv_if_ge (tgt := 60) hx hb dX12_walked_48 (by decide) (fun h9 => absurd h9 (by decide +kernel)) (fun _ => ?_)
      refine lv_aload_n hx hb dX12_walked_51 rfl (lv_at hl 1 rfl) ?_
      refine lv_bipush (v := 8) hx hb dX12_walked_52 (by decide) ?_
      refine z_callVi (As := [.int 8]) (rest := []) (wr := [(a_c, .inl (cA.1 0, 1825, .inl g_c)), (a_there, .inl (cA.1 0, 10, .inl n_9))]) ⟨hx, hb, hml, hown, hts⟩ hK hE hT hP hD hS hA (r_refuse l G cA h0 0 0 m_above m_under a_traySort a_trayMany a_numbers a_tape m_taped m_textEnd m_faultKind m_faultAt m_bad m_badAt m_token m_at m_behind m_number m_letters m_word a_c a_words m_markMany a_there a_tried a_best a_found n_8 m_foundMany m_orderHow m_orderRing m_orderMany m_hasBest m_bestTop m_bestBy a_weights a_shared m_random m_truePlace m_trueWay m_seconds m_done m_feelings m_tries m_leftOver m_playDoor m_playRing m_isOpen m_isOver m_wasTried m_hasPlayed a_feltNow a_last a_kept m_hasSeconds m_hasTurned m_hasRound a_hasFeels a_isOn m_firstAct m_meanTop m_meanBy a_order m_rowMany m_newSteps 8) lk_RX12_269 ⟨rfl, rfl⟩ ⟨Nat.le_of_ble_eq_true rfl, Nat.le_of_ble_eq_true rfl⟩ 12 rfl rfl rfl [0] [1, 2] rfl rfl (by decide) rfl hl.1 rfl (lv_room (Nat.le_of_ble_eq_true rfl)) dX12_walked_54 ⟨Nat.le_of_ble_eq_true rfl, Nat.le_of_ble_eq_true rfl⟩ (fun r_27 u_28 H locs hw hP hD hS => ?_)
      obtain ⟨n_26, rfl⟩ : ∃ z, z = u_28 := ⟨_, rfl⟩
      obtain ⟨he_r_27, he_n_26, hw⟩ := hw
      have hr_r_27 := hw
      refine lv_goto (tgt := 61) hx hb dX12_walked_57 (by decide) ?_
      have hpost : ((-1) ≤ r_27.toInt ∧ r_27.toInt ≤ 2147483647) ∧ (0 ≤ (0 : Int32).toInt ∧ (0 : Int32).toInt ≤ 0) ∧ (0 ≤ n_8.toInt ∧ n_8.toInt ≤ 10) ∧ (zRg 10 0 9 n_9) := ⟨(z_rgw hr_r_27 (by decide) (by decide)), (by decide +kernel), hr_n_8, hC_n_9⟩
      exact hret _ _ _ _ _ _ (n_26, 0, n_8, n_9) [2, 0, 1] hP hD hS rfl (by decide) dX12_walked_61 hpost
set_option maxHeartbeats 40000000 in
set_option maxRecDepth 100000 in
theorem r_isUsed (l : Launch) (G : va_G) (cA : zCA) (h0 : Nat) (m_status : Int32) (m_thrown : Int32) (m_above : Int64) (m_under : Int64) (a_traySort : Nat) (a_trayMany : Nat) (a_numbers : Nat) (a_tape : Nat) (m_taped : Int32) (m_textEnd : Int32) (m_faultKind : Int32) (m_faultAt : Int32) (m_bad : Int32) (m_badAt : Int32) (m_token : Int32) (m_at : Int32) (m_behind : Int32) (m_number : Int32) (m_letters : Int32) (m_word : Int64) (a_c : Nat) (a_words : Nat) (m_markMany : Int32) (a_there : Nat) (a_tried : Nat) (a_best : Nat) (a_found : Nat) (m_thereMany : Int32) (m_foundMany : Int32) (m_orderHow : Int32) (m_orderRing : Int32) (m_orderMany : Int32) (m_hasBest : Int32) (m_bestTop : Int64) (m_bestBy : Int64) (a_weights : Nat) (a_shared : Nat) (m_random : Int32) (m_truePlace : Int32) (m_trueWay : Int32) (m_seconds : Int32) (m_done : Int32) (m_feelings : Int32) (m_tries : Int32) (m_leftOver : Int32) (m_playDoor : Int32) (m_playRing : Int32) (m_isOpen : Int32) (m_isOver : Int32) (m_wasTried : Int32) (m_hasPlayed : Int32) (a_feltNow : Nat) (a_last : Nat) (a_kept : Nat) (m_hasSeconds : Int32) (m_hasTurned : Int32) (m_hasRound : Int32) (a_hasFeels : Nat) (a_isOn : Nat) (m_firstAct : Int32) (m_meanTop : Int64) (m_meanBy : Int64) (a_order : Nat) (m_rowMany : Int32) (m_newSteps : Int32) (g_tried : Nat → Int32) (k : Int32) (nn : Int32) (hr_nn : 0 ≤ nn.toInt ∧ nn.toInt ≤ 9) (hC_g_tried : zRg 10 0 9 g_tried) : zCi l yX12_isUsed cX12_isUsed 4 (some .boolean) ({ frames := 0, cells := 0, slots := 0, locals := 0 }) G cA [.ref h0, .int k, .int nn] [(h0, .inr (12, [.int m_status, .int m_thrown, .long m_above, .long m_under, .ref a_traySort, .ref a_trayMany, .ref a_numbers, .ref a_tape, .int m_taped, .int m_textEnd, .int m_faultKind, .int m_faultAt, .int m_bad, .int m_badAt, .int m_token, .int m_at, .int m_behind, .int m_number, .int m_letters, .long m_word, .ref a_c, .ref a_words, .int m_markMany, .ref a_there, .ref a_tried, .ref a_best, .ref a_found, .int m_thereMany, .int m_foundMany, .int m_orderHow, .int m_orderRing, .int m_orderMany, .int m_hasBest, .long m_bestTop, .long m_bestBy, .ref a_weights, .ref a_shared, .int m_random, .int m_truePlace, .int m_trueWay, .int m_seconds, .int m_done, .int m_feelings, .int m_tries, .int m_leftOver, .int m_playDoor, .int m_playRing, .int m_isOpen, .int m_isOver, .int m_wasTried, .int m_hasPlayed, .ref a_feltNow, .ref a_last, .ref a_kept, .int m_hasSeconds, .int m_hasTurned, .int m_hasRound, .ref a_hasFeels, .ref a_isOn, .int m_firstAct, .long m_meanTop, .long m_meanBy, .ref a_order, .int m_rowMany, .int m_newSteps])), (a_tried, .inl (cA.1 0, 10, .inl g_tried))] (S := Unit) (fun (r : Int32) (u : Unit) => (r = (F_r_isUsed g_tried k nn)) ∧ ((r = 0 ∧ (zNt g_tried k.toInt nn.toInt)) ∨ (r = 1 ∧ (zIt g_tried k.toInt nn.toInt)))) (fun (u : Unit) => [(h0, .inr (12, [.int m_status, .int m_thrown, .long m_above, .long m_under, .ref a_traySort, .ref a_trayMany, .ref a_numbers, .ref a_tape, .int m_taped, .int m_textEnd, .int m_faultKind, .int m_faultAt, .int m_bad, .int m_badAt, .int m_token, .int m_at, .int m_behind, .int m_number, .int m_letters, .long m_word, .ref a_c, .ref a_words, .int m_markMany, .ref a_there, .ref a_tried, .ref a_best, .ref a_found, .int m_thereMany, .int m_foundMany, .int m_orderHow, .int m_orderRing, .int m_orderMany, .int m_hasBest, .long m_bestTop, .long m_bestBy, .ref a_weights, .ref a_shared, .int m_random, .int m_truePlace, .int m_trueWay, .int m_seconds, .int m_done, .int m_feelings, .int m_tries, .int m_leftOver, .int m_playDoor, .int m_playRing, .int m_isOpen, .int m_isOver, .int m_wasTried, .int m_hasPlayed, .ref a_feltNow, .ref a_last, .ref a_kept, .int m_hasSeconds, .int m_hasTurned, .int m_hasRound, .ref a_hasFeels, .ref a_isOn, .int m_firstAct, .long m_meanTop, .long m_meanBy, .ref a_order, .int m_rowMany, .int m_newSteps])), (a_tried, .inl (cA.1 0, 10, .inl g_tried))]) 0 0 := by
  have hk_0 : (0 : Int32).toInt = 0 := by decide +kernel
  have hk_1 : (1 : Int32).toInt = 1 := by decide +kernel
  refine z_start2z (own := RX12) (by decide) (Nat.le_of_ble_eq_true rfl) rfl ?_
  intro p e s m args below meth c A ls Q hx hb hml hts hown hK hE hT hP hD hS hA hl hret
  have hl : lv_has ls 4 [(0, .ref h0), (1, .int k), (2, .int nn)] := hl
  refine lv_iconst (v := 0) hx hb dX12_isUsed_0 (by decide) ?_
  refine lv_istore_n (lv' := [(3, .int 0), (0, .ref h0), (1, .int k), (2, .int nn)]) hx hb dX12_isUsed_1 rfl hl (by decide) rfl (fun ls hl => ?_)
  have hlp_107 : ∀ (n_L2a : Nat) (v_89 : Int32) (H : Heap) (locs : List Loc) (ls : Array Slot), (2147483647 - v_89.toInt).toNat < n_L2a → (0 ≤ v_89.toInt ∧ v_89.toInt ≤ 9) → (zNt g_tried k.toInt v_89.toInt) → (F_r_isUsed g_tried k nn = F_r_isUsed_L2a g_tried k nn n_L2a v_89) → va_P G vwCl [(h0, .inr (12, [.int m_status, .int m_thrown, .long m_above, .long m_under, .ref a_traySort, .ref a_trayMany, .ref a_numbers, .ref a_tape, .int m_taped, .int m_textEnd, .int m_faultKind, .int m_faultAt, .int m_bad, .int m_badAt, .int m_token, .int m_at, .int m_behind, .int m_number, .int m_letters, .long m_word, .ref a_c, .ref a_words, .int m_markMany, .ref a_there, .ref a_tried, .ref a_best, .ref a_found, .int m_thereMany, .int m_foundMany, .int m_orderHow, .int m_orderRing, .int m_orderMany, .int m_hasBest, .long m_bestTop, .long m_bestBy, .ref a_weights, .ref a_shared, .int m_random, .int m_truePlace, .int m_trueWay, .int m_seconds, .int m_done, .int m_feelings, .int m_tries, .int m_leftOver, .int m_playDoor, .int m_playRing, .int m_isOpen, .int m_isOver, .int m_wasTried, .int m_hasPlayed, .ref a_feltNow, .ref a_last, .ref a_kept, .int m_hasSeconds, .int m_hasTurned, .int m_hasRound, .ref a_hasFeels, .ref a_isOn, .int m_firstAct, .long m_meanTop, .long m_meanBy, .ref a_order, .int m_rowMany, .int m_newSteps])), (a_tried, .inl (cA.1 0, 10, .inl g_tried))] H → va_D A [(h0, .inr (12, [.int m_status, .int m_thrown, .long m_above, .long m_under, .ref a_traySort, .ref a_trayMany, .ref a_numbers, .ref a_tape, .int m_taped, .int m_textEnd, .int m_faultKind, .int m_faultAt, .int m_bad, .int m_badAt, .int m_token, .int m_at, .int m_behind, .int m_number, .int m_letters, .long m_word, .ref a_c, .ref a_words, .int m_markMany, .ref a_there, .ref a_tried, .ref a_best, .ref a_found, .int m_thereMany, .int m_foundMany, .int m_orderHow, .int m_orderRing, .int m_orderMany, .int m_hasBest, .long m_bestTop, .long m_bestBy, .ref a_weights, .ref a_shared, .int m_random, .int m_truePlace, .int m_trueWay, .int m_seconds, .int m_done, .int m_feelings, .int m_tries, .int m_leftOver, .int m_playDoor, .int m_playRing, .int m_isOpen, .int m_isOver, .int m_wasTried, .int m_hasPlayed, .ref a_feltNow, .ref a_last, .ref a_kept, .int m_hasSeconds, .int m_hasTurned, .int m_hasRound, .ref a_hasFeels, .ref a_isOn, .int m_firstAct, .long m_meanTop, .long m_meanBy, .ref a_order, .int m_rowMany, .int m_newSteps])), (a_tried, .inl (cA.1 0, 10, .inl g_tried))] → va_S A s.heap H locs → lv_has ls 4 [(0, .ref h0), (1, .int k), (2, .int nn), (3, .int v_89)] → W p l e ({ frames := 0, cells := 0, slots := 0, locals := 0 }) s m args below meth c H locs 0 0 Q (F0 m 2 ls []) := by
    intro n_L2a
    induction n_L2a with
    | zero =>
      intro v_89 H locs ls hmu_hlp_107 hr_v_89 hi_98 hF_L2a hP hD hS hl
      exact absurd hmu_hlp_107 (Nat.not_lt_zero _)
    | succ n_L2a ih_108 =>
      intro v_89 H locs ls hmu_hlp_107 hr_v_89 hi_98 hF_L2a hP hD hS hl
      refine lv_iload_n hx hb dX12_isUsed_2 rfl (lv_at hl 3 rfl) ?_
      refine lv_iload_n hx hb dX12_isUsed_3 rfl (lv_at hl 2 rfl) ?_
      refine lv_icmp_ge (tgt := 25) hx hb dX12_isUsed_4 (by decide) (fun c_109 => ?_) (fun c_109 => ?_)
      · have b_110 := z_fgeT c_109
        refine lv_iconst (v := 0) hx hb dX12_isUsed_25 (by decide) ?_
        have hpost : ((0 : Int32) = 0 ∧ (zNt g_tried k.toInt nn.toInt)) ∨ ((0 : Int32) = 1 ∧ (zIt g_tried k.toInt nn.toInt)) := (Or.inl ⟨rfl, (zNt_end hi_98 (by omega))⟩)
        have hX_111 : F_r_isUsed g_tried k nn = ((0 : Int32) : Int32) := by
          refine hF_L2a.trans ?_
          refine (F_r_isUsed_L2a_s ..).trans ?_
          refine (if_pos c_109).trans ?_
          exact rfl
        exact hret _ _ _ _ _ _ () [0, 1] hP hD hS rfl (by decide) dX12_isUsed_26 (Or.inl rfl) ⟨(congrArg (fun z9 => z9) hX_111).symm, hpost⟩
      · have b_112 := z_fltF c_109
        refine lv_aload_n hx hb dX12_isUsed_7 rfl (lv_at hl 0 rfl) ?_
        refine va_get (D := G) (ci := 12) (v := .ref a_tried) (C := RX12) (T := TX12) (N := 65) hx hb hts inT12 hown hK hP 0 rfl rfl 24 (by decide) (hts _ tw_1909) (fun _ h9 => h9) rfl dX12_isUsed_8 ?_
        refine lv_iload_n hx hb dX12_isUsed_11 rfl (lv_at hl 3 rfl) ?_
        refine va_iald hx hb hK hP 1 0 rfl rfl (z_inN (by omega) (by omega)) dX12_isUsed_12 ?_
        refine lv_topi (fun x_113 he_x_113 => ?_)
        have hr_x_113 := z_rg hC_g_tried he_x_113 (by omega) (by omega)
        refine lv_iload_n hx hb dX12_isUsed_13 rfl (lv_at hl 1 rfl) ?_
        refine lv_icmp_ne (tgt := 19) hx hb dX12_isUsed_14 (by decide) (fun c_114 => ?_) (fun c_114 => ?_)
        · have b_115 := z_fneT c_114
          obtain ⟨x_116, he_x_116⟩ : ∃ z : Int32, z = v_89 + 1 := ⟨_, rfl⟩
          have hq_x_116 := z_addq he_x_116 (rfl : v_89.toInt = _) hk_1 (by omega) (by omega)
          refine lv_iinc (v := x_116) (lv' := [(3, .int x_116), (0, .ref h0), (1, .int k), (2, .int nn)]) hx hb dX12_isUsed_19 hl (k := 3) rfl ((z_ofi (by decide +kernel)).trans he_x_116.symm) (by decide) rfl (fun ls hl => ?_)
          refine lv_goto (tgt := 2) hx hb dX12_isUsed_22 (by decide) ?_
          have hX_117 : F_r_isUsed g_tried k nn = F_r_isUsed_L2a g_tried k nn n_L2a x_116 := by
            refine hF_L2a.trans ?_
            refine (F_r_isUsed_L2a_s ..).trans ?_
            refine (if_neg c_109).trans ?_
            try (extract_lets -merge -useContext +onlyGivenNames y9; have e9 : x_113 = y9 := (by first | exact he_x_113 | exact he_x_113.symm); clear_value y9; subst e9)
            refine (if_neg c_114).trans ?_
            try (extract_lets -merge -useContext +onlyGivenNames y9; have e9 : x_116 = y9 := (by first | exact he_x_116 | exact he_x_116.symm); clear_value y9; subst e9)
            exact rfl
          exact ih_108 x_116 H locs ls (by omega) (by omega) (by rw [hq_x_116]; exact zNt_step hi_98 he_x_113 (by omega) (by omega) (by omega)) hX_117 hP hD hS (lv_sub hl [1, 2, 3, 0] rfl)
        · have b_118 := z_feqF c_114
          refine lv_iconst (v := 1) hx hb dX12_isUsed_17 (by decide) ?_
          have hpost : ((1 : Int32) = 0 ∧ (zNt g_tried k.toInt nn.toInt)) ∨ ((1 : Int32) = 1 ∧ (zIt g_tried k.toInt nn.toInt)) := (Or.inr ⟨rfl, (zIt_of he_x_113 (rfl : v_89.toInt = _) (by omega) (by omega) (by omega))⟩)
          have hX_119 : F_r_isUsed g_tried k nn = ((1 : Int32) : Int32) := by
            refine hF_L2a.trans ?_
            refine (F_r_isUsed_L2a_s ..).trans ?_
            refine (if_neg c_109).trans ?_
            try (extract_lets -merge -useContext +onlyGivenNames y9; have e9 : x_113 = y9 := (by first | exact he_x_113 | exact he_x_113.symm); clear_value y9; subst e9)
            refine (if_pos c_114).trans ?_
            exact rfl
          exact hret _ _ _ _ _ _ () [0, 1] hP hD hS rfl (by decide) dX12_isUsed_18 (Or.inr rfl) ⟨(congrArg (fun z9 => z9) hX_119).symm, hpost⟩
  have hX_120 : F_r_isUsed g_tried k nn = F_r_isUsed_L2a g_tried k nn ((2147483647 - (0 : Int32).toInt).toNat + 1) (0 : Int32) := by
    refine (F_r_isUsed_s ..).trans ?_
    exact rfl
  exact hlp_107 ((2147483647 - (0 : Int32).toInt).toNat + 1) 0 _ _ _ (Nat.lt_succ_self _) (by decide +kernel) zNt_0 hX_120 hP hD hS (lv_sub hl [1, 2, 3, 0] rfl)
set_option maxHeartbeats 40000000 in
set_option maxRecDepth 100000 in
theorem r_isOrdered (l : Launch) (G : va_G) (cA : zCA) (h0 : Nat) (m_status : Int32) (m_thrown : Int32) (m_above : Int64) (m_under : Int64) (a_traySort : Nat) (a_trayMany : Nat) (a_numbers : Nat) (a_tape : Nat) (m_taped : Int32) (m_textEnd : Int32) (m_faultKind : Int32) (m_faultAt : Int32) (m_bad : Int32) (m_badAt : Int32) (m_token : Int32) (m_at : Int32) (m_behind : Int32) (m_number : Int32) (m_letters : Int32) (m_word : Int64) (a_c : Nat) (a_words : Nat) (m_markMany : Int32) (a_there : Nat) (a_tried : Nat) (a_best : Nat) (a_found : Nat) (m_thereMany : Int32) (m_foundMany : Int32) (m_orderHow : Int32) (m_orderRing : Int32) (m_orderMany : Int32) (m_hasBest : Int32) (m_bestTop : Int64) (m_bestBy : Int64) (a_weights : Nat) (a_shared : Nat) (m_random : Int32) (m_truePlace : Int32) (m_trueWay : Int32) (m_seconds : Int32) (m_done : Int32) (m_feelings : Int32) (m_tries : Int32) (m_leftOver : Int32) (m_playDoor : Int32) (m_playRing : Int32) (m_isOpen : Int32) (m_isOver : Int32) (m_wasTried : Int32) (m_hasPlayed : Int32) (a_feltNow : Nat) (a_last : Nat) (a_kept : Nat) (m_hasSeconds : Int32) (m_hasTurned : Int32) (m_hasRound : Int32) (a_hasFeels : Nat) (a_isOn : Nat) (m_firstAct : Int32) (m_meanTop : Int64) (m_meanBy : Int64) (a_order : Nat) (m_rowMany : Int32) (m_newSteps : Int32) (g_best : Nat → Int32) (k : Int32) (hr_m_orderMany : 0 ≤ m_orderMany.toInt ∧ m_orderMany.toInt ≤ 10) (hC_g_best : zRg 10 0 9 g_best) : zCi l yX12_isOrdered cX12_isOrdered 3 (some .boolean) ({ frames := 0, cells := 0, slots := 0, locals := 0 }) G cA [.ref h0, .int k] [(h0, .inr (12, [.int m_status, .int m_thrown, .long m_above, .long m_under, .ref a_traySort, .ref a_trayMany, .ref a_numbers, .ref a_tape, .int m_taped, .int m_textEnd, .int m_faultKind, .int m_faultAt, .int m_bad, .int m_badAt, .int m_token, .int m_at, .int m_behind, .int m_number, .int m_letters, .long m_word, .ref a_c, .ref a_words, .int m_markMany, .ref a_there, .ref a_tried, .ref a_best, .ref a_found, .int m_thereMany, .int m_foundMany, .int m_orderHow, .int m_orderRing, .int m_orderMany, .int m_hasBest, .long m_bestTop, .long m_bestBy, .ref a_weights, .ref a_shared, .int m_random, .int m_truePlace, .int m_trueWay, .int m_seconds, .int m_done, .int m_feelings, .int m_tries, .int m_leftOver, .int m_playDoor, .int m_playRing, .int m_isOpen, .int m_isOver, .int m_wasTried, .int m_hasPlayed, .ref a_feltNow, .ref a_last, .ref a_kept, .int m_hasSeconds, .int m_hasTurned, .int m_hasRound, .ref a_hasFeels, .ref a_isOn, .int m_firstAct, .long m_meanTop, .long m_meanBy, .ref a_order, .int m_rowMany, .int m_newSteps])), (a_best, .inl (cA.1 0, 10, .inl g_best))] (S := Unit) (fun (r : Int32) (u : Unit) => (r = (F_r_isOrdered m_orderMany g_best k)) ∧ ((r = 0 ∧ (zNt g_best k.toInt m_orderMany.toInt)) ∨ (r = 1 ∧ (zIt g_best k.toInt m_orderMany.toInt)))) (fun (u : Unit) => [(h0, .inr (12, [.int m_status, .int m_thrown, .long m_above, .long m_under, .ref a_traySort, .ref a_trayMany, .ref a_numbers, .ref a_tape, .int m_taped, .int m_textEnd, .int m_faultKind, .int m_faultAt, .int m_bad, .int m_badAt, .int m_token, .int m_at, .int m_behind, .int m_number, .int m_letters, .long m_word, .ref a_c, .ref a_words, .int m_markMany, .ref a_there, .ref a_tried, .ref a_best, .ref a_found, .int m_thereMany, .int m_foundMany, .int m_orderHow, .int m_orderRing, .int m_orderMany, .int m_hasBest, .long m_bestTop, .long m_bestBy, .ref a_weights, .ref a_shared, .int m_random, .int m_truePlace, .int m_trueWay, .int m_seconds, .int m_done, .int m_feelings, .int m_tries, .int m_leftOver, .int m_playDoor, .int m_playRing, .int m_isOpen, .int m_isOver, .int m_wasTried, .int m_hasPlayed, .ref a_feltNow, .ref a_last, .ref a_kept, .int m_hasSeconds, .int m_hasTurned, .int m_hasRound, .ref a_hasFeels, .ref a_isOn, .int m_firstAct, .long m_meanTop, .long m_meanBy, .ref a_order, .int m_rowMany, .int m_newSteps])), (a_best, .inl (cA.1 0, 10, .inl g_best))]) 0 0 := by
  have hk_0 : (0 : Int32).toInt = 0 := by decide +kernel
  have hk_1 : (1 : Int32).toInt = 1 := by decide +kernel
  refine z_start2z (own := RX12) (by decide) (Nat.le_of_ble_eq_true rfl) rfl ?_
  intro p e s m args below meth c A ls Q hx hb hml hts hown hK hE hT hP hD hS hA hl hret
  have hl : lv_has ls 3 [(0, .ref h0), (1, .int k)] := hl
  refine lv_iconst (v := 0) hx hb dX12_isOrdered_0 (by decide) ?_
  refine lv_istore_n (lv' := [(2, .int 0), (0, .ref h0), (1, .int k)]) hx hb dX12_isOrdered_1 rfl hl (by decide) rfl (fun ls hl => ?_)
  have hlp_116 : ∀ (n_L2a : Nat) (v_98 : Int32) (H : Heap) (locs : List Loc) (ls : Array Slot), (2147483647 - v_98.toInt).toNat < n_L2a → (0 ≤ v_98.toInt ∧ v_98.toInt ≤ 10) → (zNt g_best k.toInt v_98.toInt) → (F_r_isOrdered m_orderMany g_best k = F_r_isOrdered_L2a m_orderMany g_best k n_L2a v_98) → va_P G vwCl [(h0, .inr (12, [.int m_status, .int m_thrown, .long m_above, .long m_under, .ref a_traySort, .ref a_trayMany, .ref a_numbers, .ref a_tape, .int m_taped, .int m_textEnd, .int m_faultKind, .int m_faultAt, .int m_bad, .int m_badAt, .int m_token, .int m_at, .int m_behind, .int m_number, .int m_letters, .long m_word, .ref a_c, .ref a_words, .int m_markMany, .ref a_there, .ref a_tried, .ref a_best, .ref a_found, .int m_thereMany, .int m_foundMany, .int m_orderHow, .int m_orderRing, .int m_orderMany, .int m_hasBest, .long m_bestTop, .long m_bestBy, .ref a_weights, .ref a_shared, .int m_random, .int m_truePlace, .int m_trueWay, .int m_seconds, .int m_done, .int m_feelings, .int m_tries, .int m_leftOver, .int m_playDoor, .int m_playRing, .int m_isOpen, .int m_isOver, .int m_wasTried, .int m_hasPlayed, .ref a_feltNow, .ref a_last, .ref a_kept, .int m_hasSeconds, .int m_hasTurned, .int m_hasRound, .ref a_hasFeels, .ref a_isOn, .int m_firstAct, .long m_meanTop, .long m_meanBy, .ref a_order, .int m_rowMany, .int m_newSteps])), (a_best, .inl (cA.1 0, 10, .inl g_best))] H → va_D A [(h0, .inr (12, [.int m_status, .int m_thrown, .long m_above, .long m_under, .ref a_traySort, .ref a_trayMany, .ref a_numbers, .ref a_tape, .int m_taped, .int m_textEnd, .int m_faultKind, .int m_faultAt, .int m_bad, .int m_badAt, .int m_token, .int m_at, .int m_behind, .int m_number, .int m_letters, .long m_word, .ref a_c, .ref a_words, .int m_markMany, .ref a_there, .ref a_tried, .ref a_best, .ref a_found, .int m_thereMany, .int m_foundMany, .int m_orderHow, .int m_orderRing, .int m_orderMany, .int m_hasBest, .long m_bestTop, .long m_bestBy, .ref a_weights, .ref a_shared, .int m_random, .int m_truePlace, .int m_trueWay, .int m_seconds, .int m_done, .int m_feelings, .int m_tries, .int m_leftOver, .int m_playDoor, .int m_playRing, .int m_isOpen, .int m_isOver, .int m_wasTried, .int m_hasPlayed, .ref a_feltNow, .ref a_last, .ref a_kept, .int m_hasSeconds, .int m_hasTurned, .int m_hasRound, .ref a_hasFeels, .ref a_isOn, .int m_firstAct, .long m_meanTop, .long m_meanBy, .ref a_order, .int m_rowMany, .int m_newSteps])), (a_best, .inl (cA.1 0, 10, .inl g_best))] → va_S A s.heap H locs → lv_has ls 3 [(0, .ref h0), (1, .int k), (2, .int v_98)] → W p l e ({ frames := 0, cells := 0, slots := 0, locals := 0 }) s m args below meth c H locs 0 0 Q (F0 m 2 ls []) := by
    intro n_L2a
    induction n_L2a with
    | zero =>
      intro v_98 H locs ls hmu_hlp_116 hr_v_98 hi_107 hF_L2a hP hD hS hl
      exact absurd hmu_hlp_116 (Nat.not_lt_zero _)
    | succ n_L2a ih_117 =>
      intro v_98 H locs ls hmu_hlp_116 hr_v_98 hi_107 hF_L2a hP hD hS hl
      refine lv_iload_n hx hb dX12_isOrdered_2 rfl (lv_at hl 2 rfl) ?_
      refine lv_aload_n hx hb dX12_isOrdered_3 rfl (lv_at hl 0 rfl) ?_
      refine va_get (D := G) (ci := 12) (v := .int m_orderMany) (C := RX12) (T := TX12) (N := 65) hx hb hts inT12 hown hK hP 0 rfl rfl 31 (by decide) (hts _ tw_1915) (fun _ h9 => h9) rfl dX12_isOrdered_4 ?_
      refine lv_icmp_ge (tgt := 28) hx hb dX12_isOrdered_7 (by decide) (fun c_118 => ?_) (fun c_118 => ?_)
      · have b_119 := z_fgeT c_118
        refine lv_iconst (v := 0) hx hb dX12_isOrdered_28 (by decide) ?_
        have hpost : ((0 : Int32) = 0 ∧ (zNt g_best k.toInt m_orderMany.toInt)) ∨ ((0 : Int32) = 1 ∧ (zIt g_best k.toInt m_orderMany.toInt)) := (Or.inl ⟨rfl, (zNt_end hi_107 (by omega))⟩)
        have hX_120 : F_r_isOrdered m_orderMany g_best k = ((0 : Int32) : Int32) := by
          refine hF_L2a.trans ?_
          refine (F_r_isOrdered_L2a_s ..).trans ?_
          refine (if_pos c_118).trans ?_
          exact rfl
        exact hret _ _ _ _ _ _ () [0, 1] hP hD hS rfl (by decide) dX12_isOrdered_29 (Or.inl rfl) ⟨(congrArg (fun z9 => z9) hX_120).symm, hpost⟩
      · have b_121 := z_fltF c_118
        refine lv_aload_n hx hb dX12_isOrdered_10 rfl (lv_at hl 0 rfl) ?_
        refine va_get (D := G) (ci := 12) (v := .ref a_best) (C := RX12) (T := TX12) (N := 65) hx hb hts inT12 hown hK hP 0 rfl rfl 25 (by decide) (hts _ tw_1910) (fun _ h9 => h9) rfl dX12_isOrdered_11 ?_
        refine lv_iload_n hx hb dX12_isOrdered_14 rfl (lv_at hl 2 rfl) ?_
        refine va_iald hx hb hK hP 1 0 rfl rfl (z_inN (by omega) (by omega)) dX12_isOrdered_15 ?_
        refine lv_topi (fun x_122 he_x_122 => ?_)
        have hr_x_122 := z_rg hC_g_best he_x_122 (by omega) (by omega)
        refine lv_iload_n hx hb dX12_isOrdered_16 rfl (lv_at hl 1 rfl) ?_
        refine lv_icmp_ne (tgt := 22) hx hb dX12_isOrdered_17 (by decide) (fun c_123 => ?_) (fun c_123 => ?_)
        · have b_124 := z_fneT c_123
          obtain ⟨x_125, he_x_125⟩ : ∃ z : Int32, z = v_98 + 1 := ⟨_, rfl⟩
          have hq_x_125 := z_addq he_x_125 (rfl : v_98.toInt = _) hk_1 (by omega) (by omega)
          refine lv_iinc (v := x_125) (lv' := [(2, .int x_125), (0, .ref h0), (1, .int k)]) hx hb dX12_isOrdered_22 hl (k := 2) rfl ((z_ofi (by decide +kernel)).trans he_x_125.symm) (by decide) rfl (fun ls hl => ?_)
          refine lv_goto (tgt := 2) hx hb dX12_isOrdered_25 (by decide) ?_
          have hX_126 : F_r_isOrdered m_orderMany g_best k = F_r_isOrdered_L2a m_orderMany g_best k n_L2a x_125 := by
            refine hF_L2a.trans ?_
            refine (F_r_isOrdered_L2a_s ..).trans ?_
            refine (if_neg c_118).trans ?_
            try (extract_lets -merge -useContext +onlyGivenNames y9; have e9 : x_122 = y9 := (by first | exact he_x_122 | exact he_x_122.symm); clear_value y9; subst e9)
            refine (if_neg c_123).trans ?_
            try (extract_lets -merge -useContext +onlyGivenNames y9; have e9 : x_125 = y9 := (by first | exact he_x_125 | exact he_x_125.symm); clear_value y9; subst e9)
            exact rfl
          exact ih_117 x_125 H locs ls (by omega) (by omega) (by rw [hq_x_125]; exact zNt_step hi_107 he_x_122 (by omega) (by omega) (by omega)) hX_126 hP hD hS (lv_sub hl [1, 2, 0] rfl)
        · have b_127 := z_feqF c_123
          refine lv_iconst (v := 1) hx hb dX12_isOrdered_20 (by decide) ?_
          have hpost : ((1 : Int32) = 0 ∧ (zNt g_best k.toInt m_orderMany.toInt)) ∨ ((1 : Int32) = 1 ∧ (zIt g_best k.toInt m_orderMany.toInt)) := (Or.inr ⟨rfl, (zIt_of he_x_122 (rfl : v_98.toInt = _) (by omega) (by omega) (by omega))⟩)
          have hX_128 : F_r_isOrdered m_orderMany g_best k = ((1 : Int32) : Int32) := by
            refine hF_L2a.trans ?_
            refine (F_r_isOrdered_L2a_s ..).trans ?_
            refine (if_neg c_118).trans ?_
            try (extract_lets -merge -useContext +onlyGivenNames y9; have e9 : x_122 = y9 := (by first | exact he_x_122 | exact he_x_122.symm); clear_value y9; subst e9)
            refine (if_pos c_123).trans ?_
            exact rfl
          exact hret _ _ _ _ _ _ () [0, 1] hP hD hS rfl (by decide) dX12_isOrdered_21 (Or.inr rfl) ⟨(congrArg (fun z9 => z9) hX_128).symm, hpost⟩
  have hX_129 : F_r_isOrdered m_orderMany g_best k = F_r_isOrdered_L2a m_orderMany g_best k ((2147483647 - (0 : Int32).toInt).toNat + 1) (0 : Int32) := by
    refine (F_r_isOrdered_s ..).trans ?_
    exact rfl
  exact hlp_116 ((2147483647 - (0 : Int32).toInt).toNat + 1) 0 _ _ _ (Nat.lt_succ_self _) (by decide +kernel) zNt_0 hX_129 hP hD hS (lv_sub hl [1, 2, 0] rfl)
set_option maxHeartbeats 40000000 in
set_option maxRecDepth 100000 in
theorem r_judge (l : Launch) (G : va_G) (cA : zCA) (h0 : Nat) (m_status : Int32) (m_thrown : Int32) (m_above : Int64) (m_under : Int64) (a_traySort : Nat) (a_trayMany : Nat) (a_numbers : Nat) (a_tape : Nat) (m_taped : Int32) (m_textEnd : Int32) (m_faultKind : Int32) (m_faultAt : Int32) (m_bad : Int32) (m_badAt : Int32) (m_token : Int32) (m_at : Int32) (m_behind : Int32) (m_number : Int32) (m_letters : Int32) (m_word : Int64) (a_c : Nat) (a_words : Nat) (m_markMany : Int32) (a_there : Nat) (a_tried : Nat) (a_best : Nat) (a_found : Nat) (m_thereMany : Int32) (m_foundMany : Int32) (m_orderHow : Int32) (m_orderRing : Int32) (m_orderMany : Int32) (m_hasBest : Int32) (m_bestTop : Int64) (m_bestBy : Int64) (a_weights : Nat) (a_shared : Nat) (m_random : Int32) (m_truePlace : Int32) (m_trueWay : Int32) (m_seconds : Int32) (m_done : Int32) (m_feelings : Int32) (m_tries : Int32) (m_leftOver : Int32) (m_playDoor : Int32) (m_playRing : Int32) (m_isOpen : Int32) (m_isOver : Int32) (m_wasTried : Int32) (m_hasPlayed : Int32) (a_feltNow : Nat) (a_last : Nat) (a_kept : Nat) (m_hasSeconds : Int32) (m_hasTurned : Int32) (m_hasRound : Int32) (a_hasFeels : Nat) (a_isOn : Nat) (m_firstAct : Int32) (m_meanTop : Int64) (m_meanBy : Int64) (a_order : Nat) (m_rowMany : Int32) (m_newSteps : Int32) (g_c : Nat → Int32) (g_there : Nat → Int32) (g_tried : Nat → Int32) (g_order : Nat → Int32) (hr_m_thereMany : 0 ≤ m_thereMany.toInt ∧ m_thereMany.toInt ≤ 10) (hr_m_orderMany : 0 ≤ m_orderMany.toInt ∧ m_orderMany.toInt ≤ 10) (hr_m_orderHow : 0 ≤ m_orderHow.toInt ∧ m_orderHow.toInt ≤ 2) (hr_m_hasBest : 0 ≤ m_hasBest.toInt ∧ m_hasBest.toInt ≤ 1) (hz_m_hasBest : m_hasBest = 0 ∨ m_hasBest = 1) (hC_g_c : zC g_c) (hC_g_there : zRg 10 0 9 g_there) (hC_g_tried : zRg 10 0 9 g_tried) (hC_g_order : zRg 10 0 9 g_order) (hp_0 : m_thereMany.toInt = m_orderMany.toInt) (hp_1 : m_orderHow.toInt ≠ 2 → zMB g_c g_tried m_orderMany.toInt) (hp_2 : m_hasBest.toInt ≤ 0 ∨ 1 ≤ m_bestBy.toInt) : zCv l yX12_judge cX12_judge 2 none ({ frames := 4, cells := 0, slots := 0, locals := 97 }) G cA [.ref h0] [(h0, .inr (12, [.int m_status, .int m_thrown, .long m_above, .long m_under, .ref a_traySort, .ref a_trayMany, .ref a_numbers, .ref a_tape, .int m_taped, .int m_textEnd, .int m_faultKind, .int m_faultAt, .int m_bad, .int m_badAt, .int m_token, .int m_at, .int m_behind, .int m_number, .int m_letters, .long m_word, .ref a_c, .ref a_words, .int m_markMany, .ref a_there, .ref a_tried, .ref a_best, .ref a_found, .int m_thereMany, .int m_foundMany, .int m_orderHow, .int m_orderRing, .int m_orderMany, .int m_hasBest, .long m_bestTop, .long m_bestBy, .ref a_weights, .ref a_shared, .int m_random, .int m_truePlace, .int m_trueWay, .int m_seconds, .int m_done, .int m_feelings, .int m_tries, .int m_leftOver, .int m_playDoor, .int m_playRing, .int m_isOpen, .int m_isOver, .int m_wasTried, .int m_hasPlayed, .ref a_feltNow, .ref a_last, .ref a_kept, .int m_hasSeconds, .int m_hasTurned, .int m_hasRound, .ref a_hasFeels, .ref a_isOn, .int m_firstAct, .long m_meanTop, .long m_meanBy, .ref a_order, .int m_rowMany, .int m_newSteps])), (a_c, .inl (cA.1 0, 1825, .inl g_c)), (a_there, .inl (cA.1 0, 10, .inl g_there)), (a_tried, .inl (cA.1 0, 10, .inl g_tried)), (a_order, .inl (cA.1 0, 10, .inl g_order))] (S := Int32 × Int64 × Int64 × Int64 × Int64 × (Nat → Int32) × (Nat → Int32)) (fun (u : Int32 × Int64 × Int64 × Int64 × Int64 × (Nat → Int32) × (Nat → Int32)) => (u.1 = (F_r_judge m_thereMany m_orderHow m_orderMany m_hasBest m_bestTop m_bestBy m_meanTop m_meanBy g_c g_there g_tried g_order).1) ∧ (u.2.1 = (F_r_judge m_thereMany m_orderHow m_orderMany m_hasBest m_bestTop m_bestBy m_meanTop m_meanBy g_c g_there g_tried g_order).2.1) ∧ (u.2.2.1 = (F_r_judge m_thereMany m_orderHow m_orderMany m_hasBest m_bestTop m_bestBy m_meanTop m_meanBy g_c g_there g_tried g_order).2.2.1) ∧ (u.2.2.2.1 = (F_r_judge m_thereMany m_orderHow m_orderMany m_hasBest m_bestTop m_bestBy m_meanTop m_meanBy g_c g_there g_tried g_order).2.2.2.1) ∧ (u.2.2.2.2.1 = (F_r_judge m_thereMany m_orderHow m_orderMany m_hasBest m_bestTop m_bestBy m_meanTop m_meanBy g_c g_there g_tried g_order).2.2.2.2.1) ∧ (u.2.2.2.2.2.1 = (F_r_judge m_thereMany m_orderHow m_orderMany m_hasBest m_bestTop m_bestBy m_meanTop m_meanBy g_c g_there g_tried g_order).2.2.2.2.2.1) ∧ (u.2.2.2.2.2.2 = (F_r_judge m_thereMany m_orderHow m_orderMany m_hasBest m_bestTop m_bestBy m_meanTop m_meanBy g_c g_there g_tried g_order).2.2.2.2.2.2) ∧ ((u.1 = 0 ∨ u.1 = 1) ∧ (0 ≤ u.1.toInt ∧ u.1.toInt ≤ 1) ∧ (0 ≤ u.2.2.2.2.1.toInt ∧ u.2.2.2.2.1.toInt ≤ 79200) ∧ (zRg 10 0 9 u.2.2.2.2.2.1) ∧ (zRg 10 0 9 u.2.2.2.2.2.2) ∧ (u.1.toInt = 1 ∧ 1 ≤ u.2.2.1.toInt))) (fun (u : Int32 × Int64 × Int64 × Int64 × Int64 × (Nat → Int32) × (Nat → Int32)) => [(h0, .inr (12, [.int m_status, .int m_thrown, .long m_above, .long m_under, .ref a_traySort, .ref a_trayMany, .ref a_numbers, .ref a_tape, .int m_taped, .int m_textEnd, .int m_faultKind, .int m_faultAt, .int m_bad, .int m_badAt, .int m_token, .int m_at, .int m_behind, .int m_number, .int m_letters, .long m_word, .ref a_c, .ref a_words, .int m_markMany, .ref a_there, .ref a_tried, .ref a_best, .ref a_found, .int m_thereMany, .int m_foundMany, .int m_orderHow, .int m_orderRing, .int m_orderMany, .int u.1, .long u.2.1, .long u.2.2.1, .ref a_weights, .ref a_shared, .int m_random, .int m_truePlace, .int m_trueWay, .int m_seconds, .int m_done, .int m_feelings, .int m_tries, .int m_leftOver, .int m_playDoor, .int m_playRing, .int m_isOpen, .int m_isOver, .int m_wasTried, .int m_hasPlayed, .ref a_feltNow, .ref a_last, .ref a_kept, .int m_hasSeconds, .int m_hasTurned, .int m_hasRound, .ref a_hasFeels, .ref a_isOn, .int m_firstAct, .long u.2.2.2.1, .long u.2.2.2.2.1, .ref a_order, .int m_rowMany, .int m_newSteps])), (a_c, .inl (cA.1 0, 1825, .inl g_c)), (a_there, .inl (cA.1 0, 10, .inl u.2.2.2.2.2.1)), (a_tried, .inl (cA.1 0, 10, .inl g_tried)), (a_order, .inl (cA.1 0, 10, .inl u.2.2.2.2.2.2))]) 0 0 := by
  have hk_0 : (0 : Int32).toInt = 0 := by decide +kernel
  have hk_1 : (1 : Int32).toInt = 1 := by decide +kernel
  have hk_2 : (2 : Int32).toInt = 2 := by decide +kernel
  have hkl_1 : (1 : Int64).toInt = 1 := by decide +kernel
  refine z_start2v (own := RX12) (by decide) (Nat.le_of_ble_eq_true rfl) rfl ?_
  intro p e s m args below meth c A ls Q hx hb hml hts hown hK hE hT hP hD hS hA hl hret
  have hl : lv_has ls 2 [(0, .ref h0)] := hl
  refine lv_iconst (v := 0) hx hb dX12_judge_0 (by decide) ?_
  refine lv_istore_n (lv' := [(1, .int 0), (0, .ref h0)]) hx hb dX12_judge_1 rfl hl (by decide) rfl (fun ls hl => ?_)
  have hlp_795 : ∀ (n_L2a : Nat) (v_86 : Int32) (g_87 : Nat → Int32) (H : Heap) (locs : List Loc) (ls : Array Slot), (2147483647 - v_86.toInt).toNat < n_L2a → (0 ≤ v_86.toInt ∧ v_86.toInt ≤ 10) → (zRg 10 0 9 g_87) → (zEq g_87 g_tried v_86.toInt) → (F_r_judge m_thereMany m_orderHow m_orderMany m_hasBest m_bestTop m_bestBy m_meanTop m_meanBy g_c g_there g_tried g_order = F_r_judge_L2a m_thereMany m_orderHow m_orderMany m_hasBest m_bestTop m_bestBy m_meanTop m_meanBy g_c g_tried g_order n_L2a v_86 g_87) → va_P G vwCl [(h0, .inr (12, [.int m_status, .int m_thrown, .long m_above, .long m_under, .ref a_traySort, .ref a_trayMany, .ref a_numbers, .ref a_tape, .int m_taped, .int m_textEnd, .int m_faultKind, .int m_faultAt, .int m_bad, .int m_badAt, .int m_token, .int m_at, .int m_behind, .int m_number, .int m_letters, .long m_word, .ref a_c, .ref a_words, .int m_markMany, .ref a_there, .ref a_tried, .ref a_best, .ref a_found, .int m_thereMany, .int m_foundMany, .int m_orderHow, .int m_orderRing, .int m_orderMany, .int m_hasBest, .long m_bestTop, .long m_bestBy, .ref a_weights, .ref a_shared, .int m_random, .int m_truePlace, .int m_trueWay, .int m_seconds, .int m_done, .int m_feelings, .int m_tries, .int m_leftOver, .int m_playDoor, .int m_playRing, .int m_isOpen, .int m_isOver, .int m_wasTried, .int m_hasPlayed, .ref a_feltNow, .ref a_last, .ref a_kept, .int m_hasSeconds, .int m_hasTurned, .int m_hasRound, .ref a_hasFeels, .ref a_isOn, .int m_firstAct, .long m_meanTop, .long m_meanBy, .ref a_order, .int m_rowMany, .int m_newSteps])), (a_c, .inl (cA.1 0, 1825, .inl g_c)), (a_there, .inl (cA.1 0, 10, .inl g_87)), (a_tried, .inl (cA.1 0, 10, .inl g_tried)), (a_order, .inl (cA.1 0, 10, .inl g_order))] H → va_D A [(h0, .inr (12, [.int m_status, .int m_thrown, .long m_above, .long m_under, .ref a_traySort, .ref a_trayMany, .ref a_numbers, .ref a_tape, .int m_taped, .int m_textEnd, .int m_faultKind, .int m_faultAt, .int m_bad, .int m_badAt, .int m_token, .int m_at, .int m_behind, .int m_number, .int m_letters, .long m_word, .ref a_c, .ref a_words, .int m_markMany, .ref a_there, .ref a_tried, .ref a_best, .ref a_found, .int m_thereMany, .int m_foundMany, .int m_orderHow, .int m_orderRing, .int m_orderMany, .int m_hasBest, .long m_bestTop, .long m_bestBy, .ref a_weights, .ref a_shared, .int m_random, .int m_truePlace, .int m_trueWay, .int m_seconds, .int m_done, .int m_feelings, .int m_tries, .int m_leftOver, .int m_playDoor, .int m_playRing, .int m_isOpen, .int m_isOver, .int m_wasTried, .int m_hasPlayed, .ref a_feltNow, .ref a_last, .ref a_kept, .int m_hasSeconds, .int m_hasTurned, .int m_hasRound, .ref a_hasFeels, .ref a_isOn, .int m_firstAct, .long m_meanTop, .long m_meanBy, .ref a_order, .int m_rowMany, .int m_newSteps])), (a_c, .inl (cA.1 0, 1825, .inl g_c)), (a_there, .inl (cA.1 0, 10, .inl g_87)), (a_tried, .inl (cA.1 0, 10, .inl g_tried)), (a_order, .inl (cA.1 0, 10, .inl g_order))] → va_S A s.heap H locs → lv_has ls 2 [(0, .ref h0), (1, .int v_86)] → W p l e ({ frames := 4, cells := 0, slots := 0, locals := 97 }) s m args below meth c H locs 0 0 Q (F0 m 2 ls []) := by
    intro n_L2a
    induction n_L2a with
    | zero =>
      intro v_86 g_87 H locs ls hmu_hlp_795 hr_v_86 hC_g_87 hi_94 hF_L2a hP hD hS hl
      exact absurd hmu_hlp_795 (Nat.not_lt_zero _)
    | succ n_L2a ih_796 =>
      intro v_86 g_87 H locs ls hmu_hlp_795 hr_v_86 hC_g_87 hi_94 hF_L2a hP hD hS hl
      refine lv_iload_n hx hb dX12_judge_2 rfl (lv_at hl 1 rfl) ?_
      refine lv_aload_n hx hb dX12_judge_3 rfl (lv_at hl 0 rfl) ?_
      refine va_get (D := G) (ci := 12) (v := .int m_orderMany) (C := RX12) (T := TX12) (N := 65) hx hb hts inT12 hown hK hP 0 rfl rfl 31 (by decide) (hts _ tw_1915) (fun _ h9 => h9) rfl dX12_judge_4 ?_
      refine lv_icmp_ge (tgt := 28) hx hb dX12_judge_7 (by decide) (fun c_797 => ?_) (fun c_797 => ?_)
      · have b_798 := z_fgeT c_797
        have hEq : zEq g_87 g_tried m_orderMany.toInt := zEq_less hi_94 (by omega)
        refine lv_aload_n hx hb dX12_judge_28 rfl (lv_at hl 0 rfl) ?_
        refine va_get (D := G) (ci := 12) (v := .int m_orderHow) (C := RX12) (T := TX12) (N := 65) hx hb hts inT12 hown hK hP 0 rfl rfl 29 (by decide) (hts _ tw_1914) (fun _ h9 => h9) rfl dX12_judge_29 ?_
        refine lv_iconst (v := 2) hx hb dX12_judge_32 (by decide) ?_
        refine lv_icmp_ne (tgt := 53) hx hb dX12_judge_33 (by decide) (fun c_799 => ?_) (fun c_799 => ?_)
        · have b_800 := z_fneT c_799
          refine lv_aload_n hx hb dX12_judge_53 rfl (lv_at hl 0 rfl) ?_
          refine va_get (D := G) (ci := 12) (v := .int m_orderHow) (C := RX12) (T := TX12) (N := 65) hx hb hts inT12 hown hK hP 0 rfl rfl 29 (by decide) (hts _ tw_1914) (fun _ h9 => h9) rfl dX12_judge_54 ?_
          refine lv_if_ne (tgt := 69) hx hb dX12_judge_57 (by decide) (fun c_801 => ?_) (fun c_801 => ?_)
          · have b_802 := z_fneT c_801
            refine lv_aload_n hx hb dX12_judge_69 rfl (lv_at hl 0 rfl) ?_
            refine z_callVv (As := []) (rest := []) (wr := [(a_tried, .inl (cA.1 0, 10, .inl g_tried)), (a_order, .inl (cA.1 0, 10, .inl g_order))]) ⟨hx, hb, hml, hown, hts⟩ hK hE hT hP hD hS hA (r_meanAnywhere l G cA h0 m_status m_thrown m_above m_under a_traySort a_trayMany a_numbers a_tape m_taped m_textEnd m_faultKind m_faultAt m_bad m_badAt m_token m_at m_behind m_number m_letters m_word a_c a_words m_markMany a_there a_tried a_best a_found m_thereMany m_foundMany m_orderHow m_orderRing m_orderMany m_hasBest m_bestTop m_bestBy a_weights a_shared m_random m_truePlace m_trueWay m_seconds m_done m_feelings m_tries m_leftOver m_playDoor m_playRing m_isOpen m_isOver m_wasTried m_hasPlayed a_feltNow a_last a_kept m_hasSeconds m_hasTurned m_hasRound a_hasFeels a_isOn m_firstAct m_meanTop m_meanBy a_order m_rowMany m_newSteps g_c g_87 hr_m_thereMany hC_g_c hC_g_87) lk_RX12_399 ⟨rfl, rfl⟩ ⟨Nat.le_of_ble_eq_true rfl, Nat.le_of_ble_eq_true rfl⟩ 12 rfl rfl rfl [0, 1, 2] [3, 4] rfl rfl (by decide) rfl hl.1 rfl (lv_room (Nat.le_of_ble_eq_true rfl)) dX12_judge_70 ⟨Nat.le_of_ble_eq_true rfl, Nat.le_of_ble_eq_true rfl⟩ (fun u_806 H locs hw hP hD hS => ?_)
            obtain ⟨n_803, n_804⟩ := u_806
            try dsimp only at hw
            obtain ⟨he_n_803, he_n_804, hw⟩ := hw
            obtain ⟨hr_n_804, hf_808⟩ := hw
            have hone : 1 ≤ n_804.toInt := hf_808 (by rw [hp_0]; exact zMB_eq hEq (hp_1 (by omega)))
            refine lv_aload_n hx hb dX12_judge_73 rfl (lv_at hl 0 rfl) ?_
            refine va_get (D := G) (ci := 12) (v := .int m_hasBest) (C := RX12) (T := TX12) (N := 65) hx hb hts inT12 hown hK hP 2 rfl rfl 32 (by decide) (hts _ tw_1916) (fun _ h9 => h9) rfl dX12_judge_74 ?_
            refine lv_if_eq (tgt := 103) hx hb dX12_judge_77 (by decide) (fun c_809 => ?_) (fun c_809 => ?_)
            · have b_810 := z_feqT c_809
              refine lv_aload_n hx hb dX12_judge_103 rfl (lv_at hl 0 rfl) ?_
              refine lv_iconst (v := 1) hx hb dX12_judge_104 (by decide) ?_
              refine va_put (D := G) (ci := 12) (v := .int 1) (ty := .boolean) (C := RX12) (T := TX12) (N := 65) hx hb hts inT12 tyX12 tyX12_ok nmX12 hown hK hP hD hS 2 rfl rfl 32 (by decide) (hts _ tw_1916) (fun _ h9 => h9) rfl (tyX12_ok 32 (by decide)) rfl rfl (Nat.le_of_ble_eq_true rfl) dX12_judge_105 (fun H locs hP hD hS => ?_)
              refine lv_aload_n hx hb dX12_judge_108 rfl (lv_at hl 0 rfl) ?_
              refine lv_aload_n hx hb dX12_judge_109 rfl (lv_at hl 0 rfl) ?_
              refine va_get (D := G) (ci := 12) (v := .long n_803) (C := RX12) (T := TX12) (N := 65) hx hb hts inT12 hown hK hP 2 rfl rfl 60 (by decide) (hts _ tw_1943) (fun _ h9 => h9) rfl dX12_judge_110 ?_
              refine va_put (D := G) (ci := 12) (v := .long n_803) (ty := .long) (C := RX12) (T := TX12) (N := 65) hx hb hts inT12 tyX12 tyX12_ok nmX12 hown hK hP hD hS 2 rfl rfl 33 (by decide) (hts _ tw_1917) (fun _ h9 => h9) rfl (tyX12_ok 33 (by decide)) rfl rfl (Nat.le_of_ble_eq_true rfl) dX12_judge_113 (fun H locs hP hD hS => ?_)
              refine lv_aload_n hx hb dX12_judge_116 rfl (lv_at hl 0 rfl) ?_
              refine lv_aload_n hx hb dX12_judge_117 rfl (lv_at hl 0 rfl) ?_
              refine va_get (D := G) (ci := 12) (v := .long n_804) (C := RX12) (T := TX12) (N := 65) hx hb hts inT12 hown hK hP 2 rfl rfl 61 (by decide) (hts _ tw_1944) (fun _ h9 => h9) rfl dX12_judge_118 ?_
              refine va_put (D := G) (ci := 12) (v := .long n_804) (ty := .long) (C := RX12) (T := TX12) (N := 65) hx hb hts inT12 tyX12 tyX12_ok nmX12 hown hK hP hD hS 2 rfl rfl 34 (by decide) (hts _ tw_1918) (fun _ h9 => h9) rfl (tyX12_ok 34 (by decide)) rfl rfl (Nat.le_of_ble_eq_true rfl) dX12_judge_121 (fun H locs hP hD hS => ?_)
              refine lv_iconst (v := 0) hx hb dX12_judge_124 (by decide) ?_
              refine lv_istore_n (lv' := [(1, .int 0), (0, .ref h0)]) hx hb dX12_judge_125 rfl hl (by decide) rfl (fun ls hl => ?_)
              have hlp_910 : ∀ (n_L126a : Nat) (v_896 : Int32) (g_897 : Nat → Int32) (H : Heap) (locs : List Loc) (ls : Array Slot), (2147483647 - v_896.toInt).toNat < n_L126a → (0 ≤ v_896.toInt ∧ v_896.toInt ≤ 10) → (zRg 10 0 9 g_897) → (F_r_judge m_thereMany m_orderHow m_orderMany m_hasBest m_bestTop m_bestBy m_meanTop m_meanBy g_c g_there g_tried g_order = F_r_judge_L126a m_orderMany g_tried g_87 n_803 n_804 n_L126a v_896 g_897) → va_P G vwCl [(a_tried, .inl (cA.1 0, 10, .inl g_tried)), (a_order, .inl (cA.1 0, 10, .inl g_897)), (h0, .inr (12, [.int m_status, .int m_thrown, .long m_above, .long m_under, .ref a_traySort, .ref a_trayMany, .ref a_numbers, .ref a_tape, .int m_taped, .int m_textEnd, .int m_faultKind, .int m_faultAt, .int m_bad, .int m_badAt, .int m_token, .int m_at, .int m_behind, .int m_number, .int m_letters, .long m_word, .ref a_c, .ref a_words, .int m_markMany, .ref a_there, .ref a_tried, .ref a_best, .ref a_found, .int m_thereMany, .int m_foundMany, .int m_orderHow, .int m_orderRing, .int m_orderMany, .int 1, .long n_803, .long n_804, .ref a_weights, .ref a_shared, .int m_random, .int m_truePlace, .int m_trueWay, .int m_seconds, .int m_done, .int m_feelings, .int m_tries, .int m_leftOver, .int m_playDoor, .int m_playRing, .int m_isOpen, .int m_isOver, .int m_wasTried, .int m_hasPlayed, .ref a_feltNow, .ref a_last, .ref a_kept, .int m_hasSeconds, .int m_hasTurned, .int m_hasRound, .ref a_hasFeels, .ref a_isOn, .int m_firstAct, .long n_803, .long n_804, .ref a_order, .int m_rowMany, .int m_newSteps])), (a_c, .inl (cA.1 0, 1825, .inl g_c)), (a_there, .inl (cA.1 0, 10, .inl g_87))] H → va_D A [(a_tried, .inl (cA.1 0, 10, .inl g_tried)), (a_order, .inl (cA.1 0, 10, .inl g_897)), (h0, .inr (12, [.int m_status, .int m_thrown, .long m_above, .long m_under, .ref a_traySort, .ref a_trayMany, .ref a_numbers, .ref a_tape, .int m_taped, .int m_textEnd, .int m_faultKind, .int m_faultAt, .int m_bad, .int m_badAt, .int m_token, .int m_at, .int m_behind, .int m_number, .int m_letters, .long m_word, .ref a_c, .ref a_words, .int m_markMany, .ref a_there, .ref a_tried, .ref a_best, .ref a_found, .int m_thereMany, .int m_foundMany, .int m_orderHow, .int m_orderRing, .int m_orderMany, .int 1, .long n_803, .long n_804, .ref a_weights, .ref a_shared, .int m_random, .int m_truePlace, .int m_trueWay, .int m_seconds, .int m_done, .int m_feelings, .int m_tries, .int m_leftOver, .int m_playDoor, .int m_playRing, .int m_isOpen, .int m_isOver, .int m_wasTried, .int m_hasPlayed, .ref a_feltNow, .ref a_last, .ref a_kept, .int m_hasSeconds, .int m_hasTurned, .int m_hasRound, .ref a_hasFeels, .ref a_isOn, .int m_firstAct, .long n_803, .long n_804, .ref a_order, .int m_rowMany, .int m_newSteps])), (a_c, .inl (cA.1 0, 1825, .inl g_c)), (a_there, .inl (cA.1 0, 10, .inl g_87))] → va_S A s.heap H locs → lv_has ls 2 [(0, .ref h0), (1, .int v_896)] → W p l e ({ frames := 4, cells := 0, slots := 0, locals := 97 }) s m args below meth c H locs 0 0 Q (F0 m 126 ls []) := by
                intro n_L126a
                induction n_L126a with
                | zero =>
                  intro v_896 g_897 H locs ls hmu_hlp_910 hr_v_896 hC_g_897 hF_L126a hP hD hS hl
                  exact absurd hmu_hlp_910 (Nat.not_lt_zero _)
                | succ n_L126a ih_911 =>
                  intro v_896 g_897 H locs ls hmu_hlp_910 hr_v_896 hC_g_897 hF_L126a hP hD hS hl
                  refine lv_iload_n hx hb dX12_judge_126 rfl (lv_at hl 1 rfl) ?_
                  refine lv_aload_n hx hb dX12_judge_127 rfl (lv_at hl 0 rfl) ?_
                  refine va_get (D := G) (ci := 12) (v := .int m_orderMany) (C := RX12) (T := TX12) (N := 65) hx hb hts inT12 hown hK hP 2 rfl rfl 31 (by decide) (hts _ tw_1915) (fun _ h9 => h9) rfl dX12_judge_128 ?_
                  refine lv_icmp_ge (tgt := 152) hx hb dX12_judge_131 (by decide) (fun c_912 => ?_) (fun c_912 => ?_)
                  · have b_913 := z_fgeT c_912
                    have hpost : ((1 : Int32) = 0 ∨ (1 : Int32) = 1) ∧ (0 ≤ (1 : Int32).toInt ∧ (1 : Int32).toInt ≤ 1) ∧ (0 ≤ n_804.toInt ∧ n_804.toInt ≤ 79200) ∧ (zRg 10 0 9 g_87) ∧ (zRg 10 0 9 g_897) ∧ ((1 : Int32).toInt = 1 ∧ 1 ≤ n_804.toInt) := ⟨(Or.inr rfl), (by decide +kernel), hr_n_804, hC_g_87, hC_g_897, (by omega)⟩
                    have hX_914 : F_r_judge m_thereMany m_orderHow m_orderMany m_hasBest m_bestTop m_bestBy m_meanTop m_meanBy g_c g_there g_tried g_order = (((1 : Int32), n_803, n_804, n_803, n_804, g_87, g_897) : Int32 × Int64 × Int64 × Int64 × Int64 × (Nat → Int32) × (Nat → Int32)) := by
                      refine hF_L126a.trans ?_
                      refine (F_r_judge_L126a_s ..).trans ?_
                      refine (if_pos c_912).trans ?_
                      exact rfl
                    exact hret _ _ _ _ _ (1, n_803, n_804, n_803, n_804, g_87, g_897) [2, 3, 4, 0, 1] hP hD hS rfl (by decide) dX12_judge_152 ⟨(congrArg (fun z9 => z9.1) hX_914).symm, (congrArg (fun z9 => z9.2.1) hX_914).symm, (congrArg (fun z9 => z9.2.2.1) hX_914).symm, (congrArg (fun z9 => z9.2.2.2.1) hX_914).symm, (congrArg (fun z9 => z9.2.2.2.2.1) hX_914).symm, (congrArg (fun z9 => z9.2.2.2.2.2.1) hX_914).symm, (congrArg (fun z9 => z9.2.2.2.2.2.2) hX_914).symm, hpost⟩
                  · have b_915 := z_fltF c_912
                    refine lv_aload_n hx hb dX12_judge_134 rfl (lv_at hl 0 rfl) ?_
                    refine va_get (D := G) (ci := 12) (v := .ref a_order) (C := RX12) (T := TX12) (N := 65) hx hb hts inT12 hown hK hP 2 rfl rfl 62 (by decide) (hts _ tw_1945) (fun _ h9 => h9) rfl dX12_judge_135 ?_
                    refine lv_iload_n hx hb dX12_judge_138 rfl (lv_at hl 1 rfl) ?_
                    refine lv_aload_n hx hb dX12_judge_139 rfl (lv_at hl 0 rfl) ?_
                    refine va_get (D := G) (ci := 12) (v := .ref a_tried) (C := RX12) (T := TX12) (N := 65) hx hb hts inT12 hown hK hP 2 rfl rfl 24 (by decide) (hts _ tw_1909) (fun _ h9 => h9) rfl dX12_judge_140 ?_
                    refine lv_iload_n hx hb dX12_judge_143 rfl (lv_at hl 1 rfl) ?_
                    refine va_iald hx hb hK hP 0 0 rfl rfl (z_inN (by omega) (by omega)) dX12_judge_144 ?_
                    refine lv_topi (fun x_916 he_x_916 => ?_)
                    have hr_x_916 := z_rg hC_g_tried he_x_916 (by omega) (by omega)
                    refine z_iast hx hb hK hP hD hS 1 0 rfl rfl (z_inN (by omega) (by omega)) dX12_judge_145 (fun g_917 hg_g_917 H locs hP hD hS => ?_)
                    have hC_g_917 := z_rgU hC_g_897 hg_g_917 (by omega)
                    obtain ⟨x_918, he_x_918⟩ : ∃ z : Int32, z = v_896 + 1 := ⟨_, rfl⟩
                    have hq_x_918 := z_addq he_x_918 (rfl : v_896.toInt = _) hk_1 (by omega) (by omega)
                    refine lv_iinc (v := x_918) (lv' := [(1, .int x_918), (0, .ref h0)]) hx hb dX12_judge_146 hl (k := 1) rfl ((z_ofi (by decide +kernel)).trans he_x_918.symm) (by decide) rfl (fun ls hl => ?_)
                    refine lv_goto (tgt := 126) hx hb dX12_judge_149 (by decide) ?_
                    have hX_919 : F_r_judge m_thereMany m_orderHow m_orderMany m_hasBest m_bestTop m_bestBy m_meanTop m_meanBy g_c g_there g_tried g_order = F_r_judge_L126a m_orderMany g_tried g_87 n_803 n_804 n_L126a x_918 g_917 := by
                      refine hF_L126a.trans ?_
                      refine (F_r_judge_L126a_s ..).trans ?_
                      refine (if_neg c_912).trans ?_
                      try (extract_lets -merge -useContext +onlyGivenNames y9; have e9 : x_916 = y9 := (by first | exact he_x_916 | exact he_x_916.symm); clear_value y9; subst e9)
                      try (extract_lets -merge -useContext +onlyGivenNames y9; have e9 : g_917 = y9 := (by first | exact hg_g_917 | exact hg_g_917.symm); clear_value y9; subst e9)
                      try (extract_lets -merge -useContext +onlyGivenNames y9; have e9 : x_918 = y9 := (by first | exact he_x_918 | exact he_x_918.symm); clear_value y9; subst e9)
                      exact rfl
                    exact ih_911 x_918 g_917 H locs ls (by omega) (by omega) hC_g_917 hX_919 hP hD hS (lv_sub hl [1, 0] rfl)
              have hX_920 : F_r_judge m_thereMany m_orderHow m_orderMany m_hasBest m_bestTop m_bestBy m_meanTop m_meanBy g_c g_there g_tried g_order = F_r_judge_L126a m_orderMany g_tried g_87 n_803 n_804 ((2147483647 - (0 : Int32).toInt).toNat + 1) (0 : Int32) g_order := by
                refine hF_L2a.trans ?_
                refine (F_r_judge_L2a_s ..).trans ?_
                refine (if_pos c_797).trans ?_
                refine (if_neg c_799).trans ?_
                refine (if_neg c_801).trans ?_
                extract_lets -merge -useContext +onlyGivenNames w9 y3_0 y3_1; have e9 : (n_803, n_804) = w9 := ((z_tS he_n_803 he_n_804.symm)).symm; clear_value w9; subst e9
                refine (if_pos c_809).trans ?_
                exact rfl
              exact hlp_910 ((2147483647 - (0 : Int32).toInt).toNat + 1) 0 g_order _ _ _ (Nat.lt_succ_self _) (by decide +kernel) hC_g_order hX_920 hP hD hS (lv_sub hl [1, 0] rfl)
            · have b_921 := z_fneF c_809
              refine lv_aload_n hx hb dX12_judge_80 rfl (lv_at hl 0 rfl) ?_
              refine va_get (D := G) (ci := 12) (v := .long n_803) (C := RX12) (T := TX12) (N := 65) hx hb hts inT12 hown hK hP 2 rfl rfl 60 (by decide) (hts _ tw_1943) (fun _ h9 => h9) rfl dX12_judge_81 ?_
              refine lv_aload_n hx hb dX12_judge_84 rfl (lv_at hl 0 rfl) ?_
              refine va_get (D := G) (ci := 12) (v := .long m_bestBy) (C := RX12) (T := TX12) (N := 65) hx hb hts inT12 hown hK hP 2 rfl rfl 34 (by decide) (hts _ tw_1918) (fun _ h9 => h9) rfl dX12_judge_85 ?_
              refine lv_lmul hx hb dX12_judge_88 ?_
              have hL_n_803 := z_fulll n_803
              have hL_m_bestBy := z_fulll m_bestBy
              refine lv_topl (fun x_922 he_x_922 => ?_)
              refine lv_aload_n hx hb dX12_judge_89 rfl (lv_at hl 0 rfl) ?_
              refine va_get (D := G) (ci := 12) (v := .long m_bestTop) (C := RX12) (T := TX12) (N := 65) hx hb hts inT12 hown hK hP 2 rfl rfl 33 (by decide) (hts _ tw_1917) (fun _ h9 => h9) rfl dX12_judge_90 ?_
              refine lv_aload_n hx hb dX12_judge_93 rfl (lv_at hl 0 rfl) ?_
              refine va_get (D := G) (ci := 12) (v := .long n_804) (C := RX12) (T := TX12) (N := 65) hx hb hts inT12 hown hK hP 2 rfl rfl 61 (by decide) (hts _ tw_1944) (fun _ h9 => h9) rfl dX12_judge_94 ?_
              refine lv_lmul hx hb dX12_judge_97 ?_
              have hL_m_bestTop := z_fulll m_bestTop
              refine lv_topl (fun x_923 he_x_923 => ?_)
              refine W.lcmp hx hb dX12_judge_98 ?_
              refine lv_if_lt (tgt := 103) hx hb dX12_judge_99 (by decide) (fun c_924 => ?_) (fun c_924 => ?_)
              · have b_925 := z_fltTl c_924
                refine lv_aload_n hx hb dX12_judge_103 rfl (lv_at hl 0 rfl) ?_
                refine lv_iconst (v := 1) hx hb dX12_judge_104 (by decide) ?_
                refine va_put (D := G) (ci := 12) (v := .int 1) (ty := .boolean) (C := RX12) (T := TX12) (N := 65) hx hb hts inT12 tyX12 tyX12_ok nmX12 hown hK hP hD hS 2 rfl rfl 32 (by decide) (hts _ tw_1916) (fun _ h9 => h9) rfl (tyX12_ok 32 (by decide)) rfl rfl (Nat.le_of_ble_eq_true rfl) dX12_judge_105 (fun H locs hP hD hS => ?_)
                refine lv_aload_n hx hb dX12_judge_108 rfl (lv_at hl 0 rfl) ?_
                refine lv_aload_n hx hb dX12_judge_109 rfl (lv_at hl 0 rfl) ?_
                refine va_get (D := G) (ci := 12) (v := .long n_803) (C := RX12) (T := TX12) (N := 65) hx hb hts inT12 hown hK hP 2 rfl rfl 60 (by decide) (hts _ tw_1943) (fun _ h9 => h9) rfl dX12_judge_110 ?_
                refine va_put (D := G) (ci := 12) (v := .long n_803) (ty := .long) (C := RX12) (T := TX12) (N := 65) hx hb hts inT12 tyX12 tyX12_ok nmX12 hown hK hP hD hS 2 rfl rfl 33 (by decide) (hts _ tw_1917) (fun _ h9 => h9) rfl (tyX12_ok 33 (by decide)) rfl rfl (Nat.le_of_ble_eq_true rfl) dX12_judge_113 (fun H locs hP hD hS => ?_)
                refine lv_aload_n hx hb dX12_judge_116 rfl (lv_at hl 0 rfl) ?_
                refine lv_aload_n hx hb dX12_judge_117 rfl (lv_at hl 0 rfl) ?_
                refine va_get (D := G) (ci := 12) (v := .long n_804) (C := RX12) (T := TX12) (N := 65) hx hb hts inT12 hown hK hP 2 rfl rfl 61 (by decide) (hts _ tw_1944) (fun _ h9 => h9) rfl dX12_judge_118 ?_
                refine va_put (D := G) (ci := 12) (v := .long n_804) (ty := .long) (C := RX12) (T := TX12) (N := 65) hx hb hts inT12 tyX12 tyX12_ok nmX12 hown hK hP hD hS 2 rfl rfl 34 (by decide) (hts _ tw_1918) (fun _ h9 => h9) rfl (tyX12_ok 34 (by decide)) rfl rfl (Nat.le_of_ble_eq_true rfl) dX12_judge_121 (fun H locs hP hD hS => ?_)
                refine lv_iconst (v := 0) hx hb dX12_judge_124 (by decide) ?_
                refine lv_istore_n (lv' := [(1, .int 0), (0, .ref h0)]) hx hb dX12_judge_125 rfl hl (by decide) rfl (fun ls hl => ?_)
                have hlp_1025 : ∀ (n_L126b : Nat) (v_1011 : Int32) (g_1012 : Nat → Int32) (H : Heap) (locs : List Loc) (ls : Array Slot), (2147483647 - v_1011.toInt).toNat < n_L126b → (0 ≤ v_1011.toInt ∧ v_1011.toInt ≤ 10) → (zRg 10 0 9 g_1012) → (F_r_judge m_thereMany m_orderHow m_orderMany m_hasBest m_bestTop m_bestBy m_meanTop m_meanBy g_c g_there g_tried g_order = F_r_judge_L126b m_orderMany g_tried g_87 n_803 n_804 n_L126b v_1011 g_1012) → va_P G vwCl [(a_tried, .inl (cA.1 0, 10, .inl g_tried)), (a_order, .inl (cA.1 0, 10, .inl g_1012)), (h0, .inr (12, [.int m_status, .int m_thrown, .long m_above, .long m_under, .ref a_traySort, .ref a_trayMany, .ref a_numbers, .ref a_tape, .int m_taped, .int m_textEnd, .int m_faultKind, .int m_faultAt, .int m_bad, .int m_badAt, .int m_token, .int m_at, .int m_behind, .int m_number, .int m_letters, .long m_word, .ref a_c, .ref a_words, .int m_markMany, .ref a_there, .ref a_tried, .ref a_best, .ref a_found, .int m_thereMany, .int m_foundMany, .int m_orderHow, .int m_orderRing, .int m_orderMany, .int 1, .long n_803, .long n_804, .ref a_weights, .ref a_shared, .int m_random, .int m_truePlace, .int m_trueWay, .int m_seconds, .int m_done, .int m_feelings, .int m_tries, .int m_leftOver, .int m_playDoor, .int m_playRing, .int m_isOpen, .int m_isOver, .int m_wasTried, .int m_hasPlayed, .ref a_feltNow, .ref a_last, .ref a_kept, .int m_hasSeconds, .int m_hasTurned, .int m_hasRound, .ref a_hasFeels, .ref a_isOn, .int m_firstAct, .long n_803, .long n_804, .ref a_order, .int m_rowMany, .int m_newSteps])), (a_c, .inl (cA.1 0, 1825, .inl g_c)), (a_there, .inl (cA.1 0, 10, .inl g_87))] H → va_D A [(a_tried, .inl (cA.1 0, 10, .inl g_tried)), (a_order, .inl (cA.1 0, 10, .inl g_1012)), (h0, .inr (12, [.int m_status, .int m_thrown, .long m_above, .long m_under, .ref a_traySort, .ref a_trayMany, .ref a_numbers, .ref a_tape, .int m_taped, .int m_textEnd, .int m_faultKind, .int m_faultAt, .int m_bad, .int m_badAt, .int m_token, .int m_at, .int m_behind, .int m_number, .int m_letters, .long m_word, .ref a_c, .ref a_words, .int m_markMany, .ref a_there, .ref a_tried, .ref a_best, .ref a_found, .int m_thereMany, .int m_foundMany, .int m_orderHow, .int m_orderRing, .int m_orderMany, .int 1, .long n_803, .long n_804, .ref a_weights, .ref a_shared, .int m_random, .int m_truePlace, .int m_trueWay, .int m_seconds, .int m_done, .int m_feelings, .int m_tries, .int m_leftOver, .int m_playDoor, .int m_playRing, .int m_isOpen, .int m_isOver, .int m_wasTried, .int m_hasPlayed, .ref a_feltNow, .ref a_last, .ref a_kept, .int m_hasSeconds, .int m_hasTurned, .int m_hasRound, .ref a_hasFeels, .ref a_isOn, .int m_firstAct, .long n_803, .long n_804, .ref a_order, .int m_rowMany, .int m_newSteps])), (a_c, .inl (cA.1 0, 1825, .inl g_c)), (a_there, .inl (cA.1 0, 10, .inl g_87))] → va_S A s.heap H locs → lv_has ls 2 [(0, .ref h0), (1, .int v_1011)] → W p l e ({ frames := 4, cells := 0, slots := 0, locals := 97 }) s m args below meth c H locs 0 0 Q (F0 m 126 ls []) := by
                  intro n_L126b
                  induction n_L126b with
                  | zero =>
                    intro v_1011 g_1012 H locs ls hmu_hlp_1025 hr_v_1011 hC_g_1012 hF_L126b hP hD hS hl
                    exact absurd hmu_hlp_1025 (Nat.not_lt_zero _)
                  | succ n_L126b ih_1026 =>
                    intro v_1011 g_1012 H locs ls hmu_hlp_1025 hr_v_1011 hC_g_1012 hF_L126b hP hD hS hl
                    refine lv_iload_n hx hb dX12_judge_126 rfl (lv_at hl 1 rfl) ?_
                    refine lv_aload_n hx hb dX12_judge_127 rfl (lv_at hl 0 rfl) ?_
                    refine va_get (D := G) (ci := 12) (v := .int m_orderMany) (C := RX12) (T := TX12) (N := 65) hx hb hts inT12 hown hK hP 2 rfl rfl 31 (by decide) (hts _ tw_1915) (fun _ h9 => h9) rfl dX12_judge_128 ?_
                    refine lv_icmp_ge (tgt := 152) hx hb dX12_judge_131 (by decide) (fun c_1027 => ?_) (fun c_1027 => ?_)
                    · have b_1028 := z_fgeT c_1027
                      have hpost : ((1 : Int32) = 0 ∨ (1 : Int32) = 1) ∧ (0 ≤ (1 : Int32).toInt ∧ (1 : Int32).toInt ≤ 1) ∧ (0 ≤ n_804.toInt ∧ n_804.toInt ≤ 79200) ∧ (zRg 10 0 9 g_87) ∧ (zRg 10 0 9 g_1012) ∧ ((1 : Int32).toInt = 1 ∧ 1 ≤ n_804.toInt) := ⟨(Or.inr rfl), (by decide +kernel), hr_n_804, hC_g_87, hC_g_1012, (by omega)⟩
                      have hX_1029 : F_r_judge m_thereMany m_orderHow m_orderMany m_hasBest m_bestTop m_bestBy m_meanTop m_meanBy g_c g_there g_tried g_order = (((1 : Int32), n_803, n_804, n_803, n_804, g_87, g_1012) : Int32 × Int64 × Int64 × Int64 × Int64 × (Nat → Int32) × (Nat → Int32)) := by
                        refine hF_L126b.trans ?_
                        refine (F_r_judge_L126b_s ..).trans ?_
                        refine (if_pos c_1027).trans ?_
                        exact rfl
                      exact hret _ _ _ _ _ (1, n_803, n_804, n_803, n_804, g_87, g_1012) [2, 3, 4, 0, 1] hP hD hS rfl (by decide) dX12_judge_152 ⟨(congrArg (fun z9 => z9.1) hX_1029).symm, (congrArg (fun z9 => z9.2.1) hX_1029).symm, (congrArg (fun z9 => z9.2.2.1) hX_1029).symm, (congrArg (fun z9 => z9.2.2.2.1) hX_1029).symm, (congrArg (fun z9 => z9.2.2.2.2.1) hX_1029).symm, (congrArg (fun z9 => z9.2.2.2.2.2.1) hX_1029).symm, (congrArg (fun z9 => z9.2.2.2.2.2.2) hX_1029).symm, hpost⟩
                    · have b_1030 := z_fltF c_1027
                      refine lv_aload_n hx hb dX12_judge_134 rfl (lv_at hl 0 rfl) ?_
                      refine va_get (D := G) (ci := 12) (v := .ref a_order) (C := RX12) (T := TX12) (N := 65) hx hb hts inT12 hown hK hP 2 rfl rfl 62 (by decide) (hts _ tw_1945) (fun _ h9 => h9) rfl dX12_judge_135 ?_
                      refine lv_iload_n hx hb dX12_judge_138 rfl (lv_at hl 1 rfl) ?_
                      refine lv_aload_n hx hb dX12_judge_139 rfl (lv_at hl 0 rfl) ?_
                      refine va_get (D := G) (ci := 12) (v := .ref a_tried) (C := RX12) (T := TX12) (N := 65) hx hb hts inT12 hown hK hP 2 rfl rfl 24 (by decide) (hts _ tw_1909) (fun _ h9 => h9) rfl dX12_judge_140 ?_
                      refine lv_iload_n hx hb dX12_judge_143 rfl (lv_at hl 1 rfl) ?_
                      refine va_iald hx hb hK hP 0 0 rfl rfl (z_inN (by omega) (by omega)) dX12_judge_144 ?_
                      refine lv_topi (fun x_1031 he_x_1031 => ?_)
                      have hr_x_1031 := z_rg hC_g_tried he_x_1031 (by omega) (by omega)
                      refine z_iast hx hb hK hP hD hS 1 0 rfl rfl (z_inN (by omega) (by omega)) dX12_judge_145 (fun g_1032 hg_g_1032 H locs hP hD hS => ?_)
                      have hC_g_1032 := z_rgU hC_g_1012 hg_g_1032 (by omega)
                      obtain ⟨x_1033, he_x_1033⟩ : ∃ z : Int32, z = v_1011 + 1 := ⟨_, rfl⟩
                      have hq_x_1033 := z_addq he_x_1033 (rfl : v_1011.toInt = _) hk_1 (by omega) (by omega)
                      refine lv_iinc (v := x_1033) (lv' := [(1, .int x_1033), (0, .ref h0)]) hx hb dX12_judge_146 hl (k := 1) rfl ((z_ofi (by decide +kernel)).trans he_x_1033.symm) (by decide) rfl (fun ls hl => ?_)
                      refine lv_goto (tgt := 126) hx hb dX12_judge_149 (by decide) ?_
                      have hX_1034 : F_r_judge m_thereMany m_orderHow m_orderMany m_hasBest m_bestTop m_bestBy m_meanTop m_meanBy g_c g_there g_tried g_order = F_r_judge_L126b m_orderMany g_tried g_87 n_803 n_804 n_L126b x_1033 g_1032 := by
                        refine hF_L126b.trans ?_
                        refine (F_r_judge_L126b_s ..).trans ?_
                        refine (if_neg c_1027).trans ?_
                        try (extract_lets -merge -useContext +onlyGivenNames y9; have e9 : x_1031 = y9 := (by first | exact he_x_1031 | exact he_x_1031.symm); clear_value y9; subst e9)
                        try (extract_lets -merge -useContext +onlyGivenNames y9; have e9 : g_1032 = y9 := (by first | exact hg_g_1032 | exact hg_g_1032.symm); clear_value y9; subst e9)
                        try (extract_lets -merge -useContext +onlyGivenNames y9; have e9 : x_1033 = y9 := (by first | exact he_x_1033 | exact he_x_1033.symm); clear_value y9; subst e9)
                        exact rfl
                      exact ih_1026 x_1033 g_1032 H locs ls (by omega) (by omega) hC_g_1032 hX_1034 hP hD hS (lv_sub hl [1, 0] rfl)
                have hX_1035 : F_r_judge m_thereMany m_orderHow m_orderMany m_hasBest m_bestTop m_bestBy m_meanTop m_meanBy g_c g_there g_tried g_order = F_r_judge_L126b m_orderMany g_tried g_87 n_803 n_804 ((2147483647 - (0 : Int32).toInt).toNat + 1) (0 : Int32) g_order := by
                  refine hF_L2a.trans ?_
                  refine (F_r_judge_L2a_s ..).trans ?_
                  refine (if_pos c_797).trans ?_
                  refine (if_neg c_799).trans ?_
                  refine (if_neg c_801).trans ?_
                  extract_lets -merge -useContext +onlyGivenNames w9 y3_0 y3_1; have e9 : (n_803, n_804) = w9 := ((z_tS he_n_803 he_n_804.symm)).symm; clear_value w9; subst e9
                  refine (if_neg c_809).trans ?_
                  try (extract_lets -merge -useContext +onlyGivenNames y9; have e9 : x_922 = y9 := (by first | exact he_x_922 | exact he_x_922.symm); clear_value y9; subst e9)
                  try (extract_lets -merge -useContext +onlyGivenNames y9; have e9 : x_923 = y9 := (by first | exact he_x_923 | exact he_x_923.symm); clear_value y9; subst e9)
                  refine (if_pos c_924).trans ?_
                  exact rfl
                exact hlp_1025 ((2147483647 - (0 : Int32).toInt).toNat + 1) 0 g_order _ _ _ (Nat.lt_succ_self _) (by decide +kernel) hC_g_order hX_1035 hP hD hS (lv_sub hl [1, 0] rfl)
              · have b_1036 := z_fgeFl c_924
                have hpost : (m_hasBest = 0 ∨ m_hasBest = 1) ∧ (0 ≤ m_hasBest.toInt ∧ m_hasBest.toInt ≤ 1) ∧ (0 ≤ n_804.toInt ∧ n_804.toInt ≤ 79200) ∧ (zRg 10 0 9 g_87) ∧ (zRg 10 0 9 g_order) ∧ (m_hasBest.toInt = 1 ∧ 1 ≤ m_bestBy.toInt) := ⟨hz_m_hasBest, hr_m_hasBest, hr_n_804, hC_g_87, hC_g_order, (by omega)⟩
                have hX_1037 : F_r_judge m_thereMany m_orderHow m_orderMany m_hasBest m_bestTop m_bestBy m_meanTop m_meanBy g_c g_there g_tried g_order = ((m_hasBest, m_bestTop, m_bestBy, n_803, n_804, g_87, g_order) : Int32 × Int64 × Int64 × Int64 × Int64 × (Nat → Int32) × (Nat → Int32)) := by
                  refine hF_L2a.trans ?_
                  refine (F_r_judge_L2a_s ..).trans ?_
                  refine (if_pos c_797).trans ?_
                  refine (if_neg c_799).trans ?_
                  refine (if_neg c_801).trans ?_
                  extract_lets -merge -useContext +onlyGivenNames w9 y3_0 y3_1; have e9 : (n_803, n_804) = w9 := ((z_tS he_n_803 he_n_804.symm)).symm; clear_value w9; subst e9
                  refine (if_neg c_809).trans ?_
                  try (extract_lets -merge -useContext +onlyGivenNames y9; have e9 : x_922 = y9 := (by first | exact he_x_922 | exact he_x_922.symm); clear_value y9; subst e9)
                  try (extract_lets -merge -useContext +onlyGivenNames y9; have e9 : x_923 = y9 := (by first | exact he_x_923 | exact he_x_923.symm); clear_value y9; subst e9)
                  refine (if_neg c_924).trans ?_
                  exact rfl
                exact hret _ _ _ _ _ (m_hasBest, m_bestTop, m_bestBy, n_803, n_804, g_87, g_order) [2, 3, 4, 0, 1] hP hD hS rfl (by decide) dX12_judge_102 ⟨(congrArg (fun z9 => z9.1) hX_1037).symm, (congrArg (fun z9 => z9.2.1) hX_1037).symm, (congrArg (fun z9 => z9.2.2.1) hX_1037).symm, (congrArg (fun z9 => z9.2.2.2.1) hX_1037).symm, (congrArg (fun z9 => z9.2.2.2.2.1) hX_1037).symm, (congrArg (fun z9 => z9.2.2.2.2.2.1) hX_1037).symm, (congrArg (fun z9 => z9.2.2.2.2.2.2) hX_1037).symm, hpost⟩
          · have b_1038 := z_feqF c_801
            refine lv_aload_n hx hb dX12_judge_60 rfl (lv_at hl 0 rfl) ?_
            refine lv_iconst (v := 0) hx hb dX12_judge_61 (by decide) ?_
            refine lv_iconst (v := 0) hx hb dX12_judge_62 (by decide) ?_
            refine z_callVv (As := [.int 0, .int 0]) (rest := []) (wr := [(a_tried, .inl (cA.1 0, 10, .inl g_tried)), (a_order, .inl (cA.1 0, 10, .inl g_order))]) ⟨hx, hb, hml, hown, hts⟩ hK hE hT hP hD hS hA (r_meanFrom l G cA h0 m_status m_thrown m_above m_under a_traySort a_trayMany a_numbers a_tape m_taped m_textEnd m_faultKind m_faultAt m_bad m_badAt m_token m_at m_behind m_number m_letters m_word a_c a_words m_markMany a_there a_tried a_best a_found m_thereMany m_foundMany m_orderHow m_orderRing m_orderMany m_hasBest m_bestTop m_bestBy a_weights a_shared m_random m_truePlace m_trueWay m_seconds m_done m_feelings m_tries m_leftOver m_playDoor m_playRing m_isOpen m_isOver m_wasTried m_hasPlayed a_feltNow a_last a_kept m_hasSeconds m_hasTurned m_hasRound a_hasFeels a_isOn m_firstAct m_meanTop m_meanBy a_order m_rowMany m_newSteps g_c g_87 0 0 (by decide +kernel) (by decide +kernel) hr_m_thereMany hC_g_c hC_g_87 (by omega)) lk_RX12_396 ⟨rfl, rfl⟩ ⟨Nat.le_of_ble_eq_true rfl, Nat.le_of_ble_eq_true rfl⟩ 12 rfl rfl rfl [0, 1, 2] [3, 4] rfl rfl (by decide) rfl hl.1 rfl (lv_room (Nat.le_of_ble_eq_true rfl)) dX12_judge_63 ⟨Nat.le_of_ble_eq_true rfl, Nat.le_of_ble_eq_true rfl⟩ (fun u_1042 H locs hw hP hD hS => ?_)
            obtain ⟨n_1039, n_1040⟩ := u_1042
            try dsimp only at hw
            obtain ⟨he_n_1039, he_n_1040, hw⟩ := hw
            obtain ⟨hr_n_1040, hf_1044⟩ := hw
            have hone : 1 ≤ n_1040.toInt := (hf_1044).elim (fun h => h.1) (fun h => absurd (by rw [hp_0]; exact zMB_eq hEq (hp_1 (by omega))) h.2)
            refine lv_goto (tgt := 73) hx hb dX12_judge_66 (by decide) ?_
            refine lv_aload_n hx hb dX12_judge_73 rfl (lv_at hl 0 rfl) ?_
            refine va_get (D := G) (ci := 12) (v := .int m_hasBest) (C := RX12) (T := TX12) (N := 65) hx hb hts inT12 hown hK hP 2 rfl rfl 32 (by decide) (hts _ tw_1916) (fun _ h9 => h9) rfl dX12_judge_74 ?_
            refine lv_if_eq (tgt := 103) hx hb dX12_judge_77 (by decide) (fun c_1045 => ?_) (fun c_1045 => ?_)
            · have b_1046 := z_feqT c_1045
              refine lv_aload_n hx hb dX12_judge_103 rfl (lv_at hl 0 rfl) ?_
              refine lv_iconst (v := 1) hx hb dX12_judge_104 (by decide) ?_
              refine va_put (D := G) (ci := 12) (v := .int 1) (ty := .boolean) (C := RX12) (T := TX12) (N := 65) hx hb hts inT12 tyX12 tyX12_ok nmX12 hown hK hP hD hS 2 rfl rfl 32 (by decide) (hts _ tw_1916) (fun _ h9 => h9) rfl (tyX12_ok 32 (by decide)) rfl rfl (Nat.le_of_ble_eq_true rfl) dX12_judge_105 (fun H locs hP hD hS => ?_)
              refine lv_aload_n hx hb dX12_judge_108 rfl (lv_at hl 0 rfl) ?_
              refine lv_aload_n hx hb dX12_judge_109 rfl (lv_at hl 0 rfl) ?_
              refine va_get (D := G) (ci := 12) (v := .long n_1039) (C := RX12) (T := TX12) (N := 65) hx hb hts inT12 hown hK hP 2 rfl rfl 60 (by decide) (hts _ tw_1943) (fun _ h9 => h9) rfl dX12_judge_110 ?_
              refine va_put (D := G) (ci := 12) (v := .long n_1039) (ty := .long) (C := RX12) (T := TX12) (N := 65) hx hb hts inT12 tyX12 tyX12_ok nmX12 hown hK hP hD hS 2 rfl rfl 33 (by decide) (hts _ tw_1917) (fun _ h9 => h9) rfl (tyX12_ok 33 (by decide)) rfl rfl (Nat.le_of_ble_eq_true rfl) dX12_judge_113 (fun H locs hP hD hS => ?_)
              refine lv_aload_n hx hb dX12_judge_116 rfl (lv_at hl 0 rfl) ?_
              refine lv_aload_n hx hb dX12_judge_117 rfl (lv_at hl 0 rfl) ?_
              refine va_get (D := G) (ci := 12) (v := .long n_1040) (C := RX12) (T := TX12) (N := 65) hx hb hts inT12 hown hK hP 2 rfl rfl 61 (by decide) (hts _ tw_1944) (fun _ h9 => h9) rfl dX12_judge_118 ?_
              refine va_put (D := G) (ci := 12) (v := .long n_1040) (ty := .long) (C := RX12) (T := TX12) (N := 65) hx hb hts inT12 tyX12 tyX12_ok nmX12 hown hK hP hD hS 2 rfl rfl 34 (by decide) (hts _ tw_1918) (fun _ h9 => h9) rfl (tyX12_ok 34 (by decide)) rfl rfl (Nat.le_of_ble_eq_true rfl) dX12_judge_121 (fun H locs hP hD hS => ?_)
              refine lv_iconst (v := 0) hx hb dX12_judge_124 (by decide) ?_
              refine lv_istore_n (lv' := [(1, .int 0), (0, .ref h0)]) hx hb dX12_judge_125 rfl hl (by decide) rfl (fun ls hl => ?_)
              have hlp_1146 : ∀ (n_L126c : Nat) (v_1132 : Int32) (g_1133 : Nat → Int32) (H : Heap) (locs : List Loc) (ls : Array Slot), (2147483647 - v_1132.toInt).toNat < n_L126c → (0 ≤ v_1132.toInt ∧ v_1132.toInt ≤ 10) → (zRg 10 0 9 g_1133) → (F_r_judge m_thereMany m_orderHow m_orderMany m_hasBest m_bestTop m_bestBy m_meanTop m_meanBy g_c g_there g_tried g_order = F_r_judge_L126c m_orderMany g_tried g_87 n_1039 n_1040 n_L126c v_1132 g_1133) → va_P G vwCl [(a_tried, .inl (cA.1 0, 10, .inl g_tried)), (a_order, .inl (cA.1 0, 10, .inl g_1133)), (h0, .inr (12, [.int m_status, .int m_thrown, .long m_above, .long m_under, .ref a_traySort, .ref a_trayMany, .ref a_numbers, .ref a_tape, .int m_taped, .int m_textEnd, .int m_faultKind, .int m_faultAt, .int m_bad, .int m_badAt, .int m_token, .int m_at, .int m_behind, .int m_number, .int m_letters, .long m_word, .ref a_c, .ref a_words, .int m_markMany, .ref a_there, .ref a_tried, .ref a_best, .ref a_found, .int m_thereMany, .int m_foundMany, .int m_orderHow, .int m_orderRing, .int m_orderMany, .int 1, .long n_1039, .long n_1040, .ref a_weights, .ref a_shared, .int m_random, .int m_truePlace, .int m_trueWay, .int m_seconds, .int m_done, .int m_feelings, .int m_tries, .int m_leftOver, .int m_playDoor, .int m_playRing, .int m_isOpen, .int m_isOver, .int m_wasTried, .int m_hasPlayed, .ref a_feltNow, .ref a_last, .ref a_kept, .int m_hasSeconds, .int m_hasTurned, .int m_hasRound, .ref a_hasFeels, .ref a_isOn, .int m_firstAct, .long n_1039, .long n_1040, .ref a_order, .int m_rowMany, .int m_newSteps])), (a_c, .inl (cA.1 0, 1825, .inl g_c)), (a_there, .inl (cA.1 0, 10, .inl g_87))] H → va_D A [(a_tried, .inl (cA.1 0, 10, .inl g_tried)), (a_order, .inl (cA.1 0, 10, .inl g_1133)), (h0, .inr (12, [.int m_status, .int m_thrown, .long m_above, .long m_under, .ref a_traySort, .ref a_trayMany, .ref a_numbers, .ref a_tape, .int m_taped, .int m_textEnd, .int m_faultKind, .int m_faultAt, .int m_bad, .int m_badAt, .int m_token, .int m_at, .int m_behind, .int m_number, .int m_letters, .long m_word, .ref a_c, .ref a_words, .int m_markMany, .ref a_there, .ref a_tried, .ref a_best, .ref a_found, .int m_thereMany, .int m_foundMany, .int m_orderHow, .int m_orderRing, .int m_orderMany, .int 1, .long n_1039, .long n_1040, .ref a_weights, .ref a_shared, .int m_random, .int m_truePlace, .int m_trueWay, .int m_seconds, .int m_done, .int m_feelings, .int m_tries, .int m_leftOver, .int m_playDoor, .int m_playRing, .int m_isOpen, .int m_isOver, .int m_wasTried, .int m_hasPlayed, .ref a_feltNow, .ref a_last, .ref a_kept, .int m_hasSeconds, .int m_hasTurned, .int m_hasRound, .ref a_hasFeels, .ref a_isOn, .int m_firstAct, .long n_1039, .long n_1040, .ref a_order, .int m_rowMany, .int m_newSteps])), (a_c, .inl (cA.1 0, 1825, .inl g_c)), (a_there, .inl (cA.1 0, 10, .inl g_87))] → va_S A s.heap H locs → lv_has ls 2 [(0, .ref h0), (1, .int v_1132)] → W p l e ({ frames := 4, cells := 0, slots := 0, locals := 97 }) s m args below meth c H locs 0 0 Q (F0 m 126 ls []) := by
                intro n_L126c
                induction n_L126c with
                | zero =>
                  intro v_1132 g_1133 H locs ls hmu_hlp_1146 hr_v_1132 hC_g_1133 hF_L126c hP hD hS hl
                  exact absurd hmu_hlp_1146 (Nat.not_lt_zero _)
                | succ n_L126c ih_1147 =>
                  intro v_1132 g_1133 H locs ls hmu_hlp_1146 hr_v_1132 hC_g_1133 hF_L126c hP hD hS hl
                  refine lv_iload_n hx hb dX12_judge_126 rfl (lv_at hl 1 rfl) ?_
                  refine lv_aload_n hx hb dX12_judge_127 rfl (lv_at hl 0 rfl) ?_
                  refine va_get (D := G) (ci := 12) (v := .int m_orderMany) (C := RX12) (T := TX12) (N := 65) hx hb hts inT12 hown hK hP 2 rfl rfl 31 (by decide) (hts _ tw_1915) (fun _ h9 => h9) rfl dX12_judge_128 ?_
                  refine lv_icmp_ge (tgt := 152) hx hb dX12_judge_131 (by decide) (fun c_1148 => ?_) (fun c_1148 => ?_)
                  · have b_1149 := z_fgeT c_1148
                    have hpost : ((1 : Int32) = 0 ∨ (1 : Int32) = 1) ∧ (0 ≤ (1 : Int32).toInt ∧ (1 : Int32).toInt ≤ 1) ∧ (0 ≤ n_1040.toInt ∧ n_1040.toInt ≤ 79200) ∧ (zRg 10 0 9 g_87) ∧ (zRg 10 0 9 g_1133) ∧ ((1 : Int32).toInt = 1 ∧ 1 ≤ n_1040.toInt) := ⟨(Or.inr rfl), (by decide +kernel), (z_rgw hr_n_1040 (by decide) (by decide)), hC_g_87, hC_g_1133, (by omega)⟩
                    have hX_1150 : F_r_judge m_thereMany m_orderHow m_orderMany m_hasBest m_bestTop m_bestBy m_meanTop m_meanBy g_c g_there g_tried g_order = (((1 : Int32), n_1039, n_1040, n_1039, n_1040, g_87, g_1133) : Int32 × Int64 × Int64 × Int64 × Int64 × (Nat → Int32) × (Nat → Int32)) := by
                      refine hF_L126c.trans ?_
                      refine (F_r_judge_L126c_s ..).trans ?_
                      refine (if_pos c_1148).trans ?_
                      exact rfl
                    exact hret _ _ _ _ _ (1, n_1039, n_1040, n_1039, n_1040, g_87, g_1133) [2, 3, 4, 0, 1] hP hD hS rfl (by decide) dX12_judge_152 ⟨(congrArg (fun z9 => z9.1) hX_1150).symm, (congrArg (fun z9 => z9.2.1) hX_1150).symm, (congrArg (fun z9 => z9.2.2.1) hX_1150).symm, (congrArg (fun z9 => z9.2.2.2.1) hX_1150).symm, (congrArg (fun z9 => z9.2.2.2.2.1) hX_1150).symm, (congrArg (fun z9 => z9.2.2.2.2.2.1) hX_1150).symm, (congrArg (fun z9 => z9.2.2.2.2.2.2) hX_1150).symm, hpost⟩
                  · have b_1151 := z_fltF c_1148
                    refine lv_aload_n hx hb dX12_judge_134 rfl (lv_at hl 0 rfl) ?_
                    refine va_get (D := G) (ci := 12) (v := .ref a_order) (C := RX12) (T := TX12) (N := 65) hx hb hts inT12 hown hK hP 2 rfl rfl 62 (by decide) (hts _ tw_1945) (fun _ h9 => h9) rfl dX12_judge_135 ?_
                    refine lv_iload_n hx hb dX12_judge_138 rfl (lv_at hl 1 rfl) ?_
                    refine lv_aload_n hx hb dX12_judge_139 rfl (lv_at hl 0 rfl) ?_
                    refine va_get (D := G) (ci := 12) (v := .ref a_tried) (C := RX12) (T := TX12) (N := 65) hx hb hts inT12 hown hK hP 2 rfl rfl 24 (by decide) (hts _ tw_1909) (fun _ h9 => h9) rfl dX12_judge_140 ?_
                    refine lv_iload_n hx hb dX12_judge_143 rfl (lv_at hl 1 rfl) ?_
                    refine va_iald hx hb hK hP 0 0 rfl rfl (z_inN (by omega) (by omega)) dX12_judge_144 ?_
                    refine lv_topi (fun x_1152 he_x_1152 => ?_)
                    have hr_x_1152 := z_rg hC_g_tried he_x_1152 (by omega) (by omega)
                    refine z_iast hx hb hK hP hD hS 1 0 rfl rfl (z_inN (by omega) (by omega)) dX12_judge_145 (fun g_1153 hg_g_1153 H locs hP hD hS => ?_)
                    have hC_g_1153 := z_rgU hC_g_1133 hg_g_1153 (by omega)
                    obtain ⟨x_1154, he_x_1154⟩ : ∃ z : Int32, z = v_1132 + 1 := ⟨_, rfl⟩
                    have hq_x_1154 := z_addq he_x_1154 (rfl : v_1132.toInt = _) hk_1 (by omega) (by omega)
                    refine lv_iinc (v := x_1154) (lv' := [(1, .int x_1154), (0, .ref h0)]) hx hb dX12_judge_146 hl (k := 1) rfl ((z_ofi (by decide +kernel)).trans he_x_1154.symm) (by decide) rfl (fun ls hl => ?_)
                    refine lv_goto (tgt := 126) hx hb dX12_judge_149 (by decide) ?_
                    have hX_1155 : F_r_judge m_thereMany m_orderHow m_orderMany m_hasBest m_bestTop m_bestBy m_meanTop m_meanBy g_c g_there g_tried g_order = F_r_judge_L126c m_orderMany g_tried g_87 n_1039 n_1040 n_L126c x_1154 g_1153 := by
                      refine hF_L126c.trans ?_
                      refine (F_r_judge_L126c_s ..).trans ?_
                      refine (if_neg c_1148).trans ?_
                      try (extract_lets -merge -useContext +onlyGivenNames y9; have e9 : x_1152 = y9 := (by first | exact he_x_1152 | exact he_x_1152.symm); clear_value y9; subst e9)
                      try (extract_lets -merge -useContext +onlyGivenNames y9; have e9 : g_1153 = y9 := (by first | exact hg_g_1153 | exact hg_g_1153.symm); clear_value y9; subst e9)
                      try (extract_lets -merge -useContext +onlyGivenNames y9; have e9 : x_1154 = y9 := (by first | exact he_x_1154 | exact he_x_1154.symm); clear_value y9; subst e9)
                      exact rfl
                    exact ih_1147 x_1154 g_1153 H locs ls (by omega) (by omega) hC_g_1153 hX_1155 hP hD hS (lv_sub hl [1, 0] rfl)
              have hX_1156 : F_r_judge m_thereMany m_orderHow m_orderMany m_hasBest m_bestTop m_bestBy m_meanTop m_meanBy g_c g_there g_tried g_order = F_r_judge_L126c m_orderMany g_tried g_87 n_1039 n_1040 ((2147483647 - (0 : Int32).toInt).toNat + 1) (0 : Int32) g_order := by
                refine hF_L2a.trans ?_
                refine (F_r_judge_L2a_s ..).trans ?_
                refine (if_pos c_797).trans ?_
                refine (if_neg c_799).trans ?_
                refine (if_pos c_801).trans ?_
                extract_lets -merge -useContext +onlyGivenNames w9 y3_0 y3_1; have e9 : (n_1039, n_1040) = w9 := ((z_tS he_n_1039 he_n_1040.symm)).symm; clear_value w9; subst e9
                refine (if_pos c_1045).trans ?_
                exact rfl
              exact hlp_1146 ((2147483647 - (0 : Int32).toInt).toNat + 1) 0 g_order _ _ _ (Nat.lt_succ_self _) (by decide +kernel) hC_g_order hX_1156 hP hD hS (lv_sub hl [1, 0] rfl)
            · have b_1157 := z_fneF c_1045
              refine lv_aload_n hx hb dX12_judge_80 rfl (lv_at hl 0 rfl) ?_
              refine va_get (D := G) (ci := 12) (v := .long n_1039) (C := RX12) (T := TX12) (N := 65) hx hb hts inT12 hown hK hP 2 rfl rfl 60 (by decide) (hts _ tw_1943) (fun _ h9 => h9) rfl dX12_judge_81 ?_
              refine lv_aload_n hx hb dX12_judge_84 rfl (lv_at hl 0 rfl) ?_
              refine va_get (D := G) (ci := 12) (v := .long m_bestBy) (C := RX12) (T := TX12) (N := 65) hx hb hts inT12 hown hK hP 2 rfl rfl 34 (by decide) (hts _ tw_1918) (fun _ h9 => h9) rfl dX12_judge_85 ?_
              refine lv_lmul hx hb dX12_judge_88 ?_
              have hL_n_1039 := z_fulll n_1039
              have hL_m_bestBy := z_fulll m_bestBy
              refine lv_topl (fun x_1158 he_x_1158 => ?_)
              refine lv_aload_n hx hb dX12_judge_89 rfl (lv_at hl 0 rfl) ?_
              refine va_get (D := G) (ci := 12) (v := .long m_bestTop) (C := RX12) (T := TX12) (N := 65) hx hb hts inT12 hown hK hP 2 rfl rfl 33 (by decide) (hts _ tw_1917) (fun _ h9 => h9) rfl dX12_judge_90 ?_
              refine lv_aload_n hx hb dX12_judge_93 rfl (lv_at hl 0 rfl) ?_
              refine va_get (D := G) (ci := 12) (v := .long n_1040) (C := RX12) (T := TX12) (N := 65) hx hb hts inT12 hown hK hP 2 rfl rfl 61 (by decide) (hts _ tw_1944) (fun _ h9 => h9) rfl dX12_judge_94 ?_
              refine lv_lmul hx hb dX12_judge_97 ?_
              have hL_m_bestTop := z_fulll m_bestTop
              refine lv_topl (fun x_1159 he_x_1159 => ?_)
              refine W.lcmp hx hb dX12_judge_98 ?_
              refine lv_if_lt (tgt := 103) hx hb dX12_judge_99 (by decide) (fun c_1160 => ?_) (fun c_1160 => ?_)
              · have b_1161 := z_fltTl c_1160
                refine lv_aload_n hx hb dX12_judge_103 rfl (lv_at hl 0 rfl) ?_
                refine lv_iconst (v := 1) hx hb dX12_judge_104 (by decide) ?_
                refine va_put (D := G) (ci := 12) (v := .int 1) (ty := .boolean) (C := RX12) (T := TX12) (N := 65) hx hb hts inT12 tyX12 tyX12_ok nmX12 hown hK hP hD hS 2 rfl rfl 32 (by decide) (hts _ tw_1916) (fun _ h9 => h9) rfl (tyX12_ok 32 (by decide)) rfl rfl (Nat.le_of_ble_eq_true rfl) dX12_judge_105 (fun H locs hP hD hS => ?_)
                refine lv_aload_n hx hb dX12_judge_108 rfl (lv_at hl 0 rfl) ?_
                refine lv_aload_n hx hb dX12_judge_109 rfl (lv_at hl 0 rfl) ?_
                refine va_get (D := G) (ci := 12) (v := .long n_1039) (C := RX12) (T := TX12) (N := 65) hx hb hts inT12 hown hK hP 2 rfl rfl 60 (by decide) (hts _ tw_1943) (fun _ h9 => h9) rfl dX12_judge_110 ?_
                refine va_put (D := G) (ci := 12) (v := .long n_1039) (ty := .long) (C := RX12) (T := TX12) (N := 65) hx hb hts inT12 tyX12 tyX12_ok nmX12 hown hK hP hD hS 2 rfl rfl 33 (by decide) (hts _ tw_1917) (fun _ h9 => h9) rfl (tyX12_ok 33 (by decide)) rfl rfl (Nat.le_of_ble_eq_true rfl) dX12_judge_113 (fun H locs hP hD hS => ?_)
                refine lv_aload_n hx hb dX12_judge_116 rfl (lv_at hl 0 rfl) ?_
                refine lv_aload_n hx hb dX12_judge_117 rfl (lv_at hl 0 rfl) ?_
                refine va_get (D := G) (ci := 12) (v := .long n_1040) (C := RX12) (T := TX12) (N := 65) hx hb hts inT12 hown hK hP 2 rfl rfl 61 (by decide) (hts _ tw_1944) (fun _ h9 => h9) rfl dX12_judge_118 ?_
                refine va_put (D := G) (ci := 12) (v := .long n_1040) (ty := .long) (C := RX12) (T := TX12) (N := 65) hx hb hts inT12 tyX12 tyX12_ok nmX12 hown hK hP hD hS 2 rfl rfl 34 (by decide) (hts _ tw_1918) (fun _ h9 => h9) rfl (tyX12_ok 34 (by decide)) rfl rfl (Nat.le_of_ble_eq_true rfl) dX12_judge_121 (fun H locs hP hD hS => ?_)
                refine lv_iconst (v := 0) hx hb dX12_judge_124 (by decide) ?_
                refine lv_istore_n (lv' := [(1, .int 0), (0, .ref h0)]) hx hb dX12_judge_125 rfl hl (by decide) rfl (fun ls hl => ?_)
                have hlp_1261 : ∀ (n_L126d : Nat) (v_1247 : Int32) (g_1248 : Nat → Int32) (H : Heap) (locs : List Loc) (ls : Array Slot), (2147483647 - v_1247.toInt).toNat < n_L126d → (0 ≤ v_1247.toInt ∧ v_1247.toInt ≤ 10) → (zRg 10 0 9 g_1248) → (F_r_judge m_thereMany m_orderHow m_orderMany m_hasBest m_bestTop m_bestBy m_meanTop m_meanBy g_c g_there g_tried g_order = F_r_judge_L126d m_orderMany g_tried g_87 n_1039 n_1040 n_L126d v_1247 g_1248) → va_P G vwCl [(a_tried, .inl (cA.1 0, 10, .inl g_tried)), (a_order, .inl (cA.1 0, 10, .inl g_1248)), (h0, .inr (12, [.int m_status, .int m_thrown, .long m_above, .long m_under, .ref a_traySort, .ref a_trayMany, .ref a_numbers, .ref a_tape, .int m_taped, .int m_textEnd, .int m_faultKind, .int m_faultAt, .int m_bad, .int m_badAt, .int m_token, .int m_at, .int m_behind, .int m_number, .int m_letters, .long m_word, .ref a_c, .ref a_words, .int m_markMany, .ref a_there, .ref a_tried, .ref a_best, .ref a_found, .int m_thereMany, .int m_foundMany, .int m_orderHow, .int m_orderRing, .int m_orderMany, .int 1, .long n_1039, .long n_1040, .ref a_weights, .ref a_shared, .int m_random, .int m_truePlace, .int m_trueWay, .int m_seconds, .int m_done, .int m_feelings, .int m_tries, .int m_leftOver, .int m_playDoor, .int m_playRing, .int m_isOpen, .int m_isOver, .int m_wasTried, .int m_hasPlayed, .ref a_feltNow, .ref a_last, .ref a_kept, .int m_hasSeconds, .int m_hasTurned, .int m_hasRound, .ref a_hasFeels, .ref a_isOn, .int m_firstAct, .long n_1039, .long n_1040, .ref a_order, .int m_rowMany, .int m_newSteps])), (a_c, .inl (cA.1 0, 1825, .inl g_c)), (a_there, .inl (cA.1 0, 10, .inl g_87))] H → va_D A [(a_tried, .inl (cA.1 0, 10, .inl g_tried)), (a_order, .inl (cA.1 0, 10, .inl g_1248)), (h0, .inr (12, [.int m_status, .int m_thrown, .long m_above, .long m_under, .ref a_traySort, .ref a_trayMany, .ref a_numbers, .ref a_tape, .int m_taped, .int m_textEnd, .int m_faultKind, .int m_faultAt, .int m_bad, .int m_badAt, .int m_token, .int m_at, .int m_behind, .int m_number, .int m_letters, .long m_word, .ref a_c, .ref a_words, .int m_markMany, .ref a_there, .ref a_tried, .ref a_best, .ref a_found, .int m_thereMany, .int m_foundMany, .int m_orderHow, .int m_orderRing, .int m_orderMany, .int 1, .long n_1039, .long n_1040, .ref a_weights, .ref a_shared, .int m_random, .int m_truePlace, .int m_trueWay, .int m_seconds, .int m_done, .int m_feelings, .int m_tries, .int m_leftOver, .int m_playDoor, .int m_playRing, .int m_isOpen, .int m_isOver, .int m_wasTried, .int m_hasPlayed, .ref a_feltNow, .ref a_last, .ref a_kept, .int m_hasSeconds, .int m_hasTurned, .int m_hasRound, .ref a_hasFeels, .ref a_isOn, .int m_firstAct, .long n_1039, .long n_1040, .ref a_order, .int m_rowMany, .int m_newSteps])), (a_c, .inl (cA.1 0, 1825, .inl g_c)), (a_there, .inl (cA.1 0, 10, .inl g_87))] → va_S A s.heap H locs → lv_has ls 2 [(0, .ref h0), (1, .int v_1247)] → W p l e ({ frames := 4, cells := 0, slots := 0, locals := 97 }) s m args below meth c H locs 0 0 Q (F0 m 126 ls []) := by
                  intro n_L126d
                  induction n_L126d with
                  | zero =>
                    intro v_1247 g_1248 H locs ls hmu_hlp_1261 hr_v_1247 hC_g_1248 hF_L126d hP hD hS hl
                    exact absurd hmu_hlp_1261 (Nat.not_lt_zero _)
                  | succ n_L126d ih_1262 =>
                    intro v_1247 g_1248 H locs ls hmu_hlp_1261 hr_v_1247 hC_g_1248 hF_L126d hP hD hS hl
                    refine lv_iload_n hx hb dX12_judge_126 rfl (lv_at hl 1 rfl) ?_
                    refine lv_aload_n hx hb dX12_judge_127 rfl (lv_at hl 0 rfl) ?_
                    refine va_get (D := G) (ci := 12) (v := .int m_orderMany) (C := RX12) (T := TX12) (N := 65) hx hb hts inT12 hown hK hP 2 rfl rfl 31 (by decide) (hts _ tw_1915) (fun _ h9 => h9) rfl dX12_judge_128 ?_
                    refine lv_icmp_ge (tgt := 152) hx hb dX12_judge_131 (by decide) (fun c_1263 => ?_) (fun c_1263 => ?_)
                    · have b_1264 := z_fgeT c_1263
                      have hpost : ((1 : Int32) = 0 ∨ (1 : Int32) = 1) ∧ (0 ≤ (1 : Int32).toInt ∧ (1 : Int32).toInt ≤ 1) ∧ (0 ≤ n_1040.toInt ∧ n_1040.toInt ≤ 79200) ∧ (zRg 10 0 9 g_87) ∧ (zRg 10 0 9 g_1248) ∧ ((1 : Int32).toInt = 1 ∧ 1 ≤ n_1040.toInt) := ⟨(Or.inr rfl), (by decide +kernel), (z_rgw hr_n_1040 (by decide) (by decide)), hC_g_87, hC_g_1248, (by omega)⟩
                      have hX_1265 : F_r_judge m_thereMany m_orderHow m_orderMany m_hasBest m_bestTop m_bestBy m_meanTop m_meanBy g_c g_there g_tried g_order = (((1 : Int32), n_1039, n_1040, n_1039, n_1040, g_87, g_1248) : Int32 × Int64 × Int64 × Int64 × Int64 × (Nat → Int32) × (Nat → Int32)) := by
                        refine hF_L126d.trans ?_
                        refine (F_r_judge_L126d_s ..).trans ?_
                        refine (if_pos c_1263).trans ?_
                        exact rfl
                      exact hret _ _ _ _ _ (1, n_1039, n_1040, n_1039, n_1040, g_87, g_1248) [2, 3, 4, 0, 1] hP hD hS rfl (by decide) dX12_judge_152 ⟨(congrArg (fun z9 => z9.1) hX_1265).symm, (congrArg (fun z9 => z9.2.1) hX_1265).symm, (congrArg (fun z9 => z9.2.2.1) hX_1265).symm, (congrArg (fun z9 => z9.2.2.2.1) hX_1265).symm, (congrArg (fun z9 => z9.2.2.2.2.1) hX_1265).symm, (congrArg (fun z9 => z9.2.2.2.2.2.1) hX_1265).symm, (congrArg (fun z9 => z9.2.2.2.2.2.2) hX_1265).symm, hpost⟩
                    · have b_1266 := z_fltF c_1263
                      refine lv_aload_n hx hb dX12_judge_134 rfl (lv_at hl 0 rfl) ?_
                      refine va_get (D := G) (ci := 12) (v := .ref a_order) (C := RX12) (T := TX12) (N := 65) hx hb hts inT12 hown hK hP 2 rfl rfl 62 (by decide) (hts _ tw_1945) (fun _ h9 => h9) rfl dX12_judge_135 ?_
                      refine lv_iload_n hx hb dX12_judge_138 rfl (lv_at hl 1 rfl) ?_
                      refine lv_aload_n hx hb dX12_judge_139 rfl (lv_at hl 0 rfl) ?_
                      refine va_get (D := G) (ci := 12) (v := .ref a_tried) (C := RX12) (T := TX12) (N := 65) hx hb hts inT12 hown hK hP 2 rfl rfl 24 (by decide) (hts _ tw_1909) (fun _ h9 => h9) rfl dX12_judge_140 ?_
                      refine lv_iload_n hx hb dX12_judge_143 rfl (lv_at hl 1 rfl) ?_
                      refine va_iald hx hb hK hP 0 0 rfl rfl (z_inN (by omega) (by omega)) dX12_judge_144 ?_
                      refine lv_topi (fun x_1267 he_x_1267 => ?_)
                      have hr_x_1267 := z_rg hC_g_tried he_x_1267 (by omega) (by omega)
                      refine z_iast hx hb hK hP hD hS 1 0 rfl rfl (z_inN (by omega) (by omega)) dX12_judge_145 (fun g_1268 hg_g_1268 H locs hP hD hS => ?_)
                      have hC_g_1268 := z_rgU hC_g_1248 hg_g_1268 (by omega)
                      obtain ⟨x_1269, he_x_1269⟩ : ∃ z : Int32, z = v_1247 + 1 := ⟨_, rfl⟩
                      have hq_x_1269 := z_addq he_x_1269 (rfl : v_1247.toInt = _) hk_1 (by omega) (by omega)
                      refine lv_iinc (v := x_1269) (lv' := [(1, .int x_1269), (0, .ref h0)]) hx hb dX12_judge_146 hl (k := 1) rfl ((z_ofi (by decide +kernel)).trans he_x_1269.symm) (by decide) rfl (fun ls hl => ?_)
                      refine lv_goto (tgt := 126) hx hb dX12_judge_149 (by decide) ?_
                      have hX_1270 : F_r_judge m_thereMany m_orderHow m_orderMany m_hasBest m_bestTop m_bestBy m_meanTop m_meanBy g_c g_there g_tried g_order = F_r_judge_L126d m_orderMany g_tried g_87 n_1039 n_1040 n_L126d x_1269 g_1268 := by
                        refine hF_L126d.trans ?_
                        refine (F_r_judge_L126d_s ..).trans ?_
                        refine (if_neg c_1263).trans ?_
                        try (extract_lets -merge -useContext +onlyGivenNames y9; have e9 : x_1267 = y9 := (by first | exact he_x_1267 | exact he_x_1267.symm); clear_value y9; subst e9)
                        try (extract_lets -merge -useContext +onlyGivenNames y9; have e9 : g_1268 = y9 := (by first | exact hg_g_1268 | exact hg_g_1268.symm); clear_value y9; subst e9)
                        try (extract_lets -merge -useContext +onlyGivenNames y9; have e9 : x_1269 = y9 := (by first | exact he_x_1269 | exact he_x_1269.symm); clear_value y9; subst e9)
                        exact rfl
                      exact ih_1262 x_1269 g_1268 H locs ls (by omega) (by omega) hC_g_1268 hX_1270 hP hD hS (lv_sub hl [1, 0] rfl)
                have hX_1271 : F_r_judge m_thereMany m_orderHow m_orderMany m_hasBest m_bestTop m_bestBy m_meanTop m_meanBy g_c g_there g_tried g_order = F_r_judge_L126d m_orderMany g_tried g_87 n_1039 n_1040 ((2147483647 - (0 : Int32).toInt).toNat + 1) (0 : Int32) g_order := by
                  refine hF_L2a.trans ?_
                  refine (F_r_judge_L2a_s ..).trans ?_
                  refine (if_pos c_797).trans ?_
                  refine (if_neg c_799).trans ?_
                  refine (if_pos c_801).trans ?_
                  extract_lets -merge -useContext +onlyGivenNames w9 y3_0 y3_1; have e9 : (n_1039, n_1040) = w9 := ((z_tS he_n_1039 he_n_1040.symm)).symm; clear_value w9; subst e9
                  refine (if_neg c_1045).trans ?_
                  try (extract_lets -merge -useContext +onlyGivenNames y9; have e9 : x_1158 = y9 := (by first | exact he_x_1158 | exact he_x_1158.symm); clear_value y9; subst e9)
                  try (extract_lets -merge -useContext +onlyGivenNames y9; have e9 : x_1159 = y9 := (by first | exact he_x_1159 | exact he_x_1159.symm); clear_value y9; subst e9)
                  refine (if_pos c_1160).trans ?_
                  exact rfl
                exact hlp_1261 ((2147483647 - (0 : Int32).toInt).toNat + 1) 0 g_order _ _ _ (Nat.lt_succ_self _) (by decide +kernel) hC_g_order hX_1271 hP hD hS (lv_sub hl [1, 0] rfl)
              · have b_1272 := z_fgeFl c_1160
                have hpost : (m_hasBest = 0 ∨ m_hasBest = 1) ∧ (0 ≤ m_hasBest.toInt ∧ m_hasBest.toInt ≤ 1) ∧ (0 ≤ n_1040.toInt ∧ n_1040.toInt ≤ 79200) ∧ (zRg 10 0 9 g_87) ∧ (zRg 10 0 9 g_order) ∧ (m_hasBest.toInt = 1 ∧ 1 ≤ m_bestBy.toInt) := ⟨hz_m_hasBest, hr_m_hasBest, (z_rgw hr_n_1040 (by decide) (by decide)), hC_g_87, hC_g_order, (by omega)⟩
                have hX_1273 : F_r_judge m_thereMany m_orderHow m_orderMany m_hasBest m_bestTop m_bestBy m_meanTop m_meanBy g_c g_there g_tried g_order = ((m_hasBest, m_bestTop, m_bestBy, n_1039, n_1040, g_87, g_order) : Int32 × Int64 × Int64 × Int64 × Int64 × (Nat → Int32) × (Nat → Int32)) := by
                  refine hF_L2a.trans ?_
                  refine (F_r_judge_L2a_s ..).trans ?_
                  refine (if_pos c_797).trans ?_
                  refine (if_neg c_799).trans ?_
                  refine (if_pos c_801).trans ?_
                  extract_lets -merge -useContext +onlyGivenNames w9 y3_0 y3_1; have e9 : (n_1039, n_1040) = w9 := ((z_tS he_n_1039 he_n_1040.symm)).symm; clear_value w9; subst e9
                  refine (if_neg c_1045).trans ?_
                  try (extract_lets -merge -useContext +onlyGivenNames y9; have e9 : x_1158 = y9 := (by first | exact he_x_1158 | exact he_x_1158.symm); clear_value y9; subst e9)
                  try (extract_lets -merge -useContext +onlyGivenNames y9; have e9 : x_1159 = y9 := (by first | exact he_x_1159 | exact he_x_1159.symm); clear_value y9; subst e9)
                  refine (if_neg c_1160).trans ?_
                  exact rfl
                exact hret _ _ _ _ _ (m_hasBest, m_bestTop, m_bestBy, n_1039, n_1040, g_87, g_order) [2, 3, 4, 0, 1] hP hD hS rfl (by decide) dX12_judge_102 ⟨(congrArg (fun z9 => z9.1) hX_1273).symm, (congrArg (fun z9 => z9.2.1) hX_1273).symm, (congrArg (fun z9 => z9.2.2.1) hX_1273).symm, (congrArg (fun z9 => z9.2.2.2.1) hX_1273).symm, (congrArg (fun z9 => z9.2.2.2.2.1) hX_1273).symm, (congrArg (fun z9 => z9.2.2.2.2.2.1) hX_1273).symm, (congrArg (fun z9 => z9.2.2.2.2.2.2) hX_1273).symm, hpost⟩
        · have b_1274 := z_feqF c_799
          refine lv_aload_n hx hb dX12_judge_36 rfl (lv_at hl 0 rfl) ?_
          refine lv_aload_n hx hb dX12_judge_37 rfl (lv_at hl 0 rfl) ?_
          refine z_callVi (As := []) (rest := [.ref h0]) (wr := [(a_tried, .inl (cA.1 0, 10, .inl g_tried)), (a_order, .inl (cA.1 0, 10, .inl g_order))]) ⟨hx, hb, hml, hown, hts⟩ hK hE hT hP hD hS hA (r_walk l G cA h0 m_status m_thrown m_above m_under a_traySort a_trayMany a_numbers a_tape m_taped m_textEnd m_faultKind m_faultAt m_bad m_badAt m_token m_at m_behind m_number m_letters m_word a_c a_words m_markMany a_there a_tried a_best a_found m_thereMany m_foundMany m_orderHow m_orderRing m_orderMany m_hasBest m_bestTop m_bestBy a_weights a_shared m_random m_truePlace m_trueWay m_seconds m_done m_feelings m_tries m_leftOver m_playDoor m_playRing m_isOpen m_isOver m_wasTried m_hasPlayed a_feltNow a_last a_kept m_hasSeconds m_hasTurned m_hasRound a_hasFeels a_isOn m_firstAct m_meanTop m_meanBy a_order m_rowMany m_newSteps g_c g_87 hr_m_thereMany hC_g_c hC_g_87) lk_RX12_408 ⟨rfl, rfl⟩ ⟨Nat.le_of_ble_eq_true rfl, Nat.le_of_ble_eq_true rfl⟩ 12 rfl rfl rfl [0, 1, 2] [3, 4] rfl rfl (by decide) rfl hl.1 rfl (lv_room (Nat.le_of_ble_eq_true rfl)) dX12_judge_38 ⟨Nat.le_of_ble_eq_true rfl, Nat.le_of_ble_eq_true rfl⟩ (fun r_1275 u_1276 H locs hw hP hD hS => ?_)
          obtain ⟨he_r_1275, hw⟩ := hw
          refine lv_i2l (v := (r_1275).toInt64) hx hb dX12_judge_41 rfl ?_
          refine lv_topl (fun x_1278 he_x_1278 => ?_)
          have hq_x_1278 := z_i2l he_x_1278
          have hL_r_1275 := z_full r_1275
          refine va_put (D := G) (ci := 12) (v := .long x_1278) (ty := .long) (C := RX12) (T := TX12) (N := 65) hx hb hts inT12 tyX12 tyX12_ok nmX12 hown hK hP hD hS 2 rfl rfl 60 (by decide) (hts _ tw_1943) (fun _ h9 => h9) rfl (tyX12_ok 60 (by decide)) rfl rfl (Nat.le_of_ble_eq_true rfl) dX12_judge_42 (fun H locs hP hD hS => ?_)
          refine lv_aload_n hx hb dX12_judge_45 rfl (lv_at hl 0 rfl) ?_
          refine lv_lconst (v := 1) hx hb dX12_judge_46 (by decide) ?_
          refine va_put (D := G) (ci := 12) (v := .long 1) (ty := .long) (C := RX12) (T := TX12) (N := 65) hx hb hts inT12 tyX12 tyX12_ok nmX12 hown hK hP hD hS 2 rfl rfl 61 (by decide) (hts _ tw_1944) (fun _ h9 => h9) rfl (tyX12_ok 61 (by decide)) rfl rfl (Nat.le_of_ble_eq_true rfl) dX12_judge_47 (fun H locs hP hD hS => ?_)
          refine lv_goto (tgt := 73) hx hb dX12_judge_50 (by decide) ?_
          refine lv_aload_n hx hb dX12_judge_73 rfl (lv_at hl 0 rfl) ?_
          refine va_get (D := G) (ci := 12) (v := .int m_hasBest) (C := RX12) (T := TX12) (N := 65) hx hb hts inT12 hown hK hP 2 rfl rfl 32 (by decide) (hts _ tw_1916) (fun _ h9 => h9) rfl dX12_judge_74 ?_
          refine lv_if_eq (tgt := 103) hx hb dX12_judge_77 (by decide) (fun c_1279 => ?_) (fun c_1279 => ?_)
          · have b_1280 := z_feqT c_1279
            refine lv_aload_n hx hb dX12_judge_103 rfl (lv_at hl 0 rfl) ?_
            refine lv_iconst (v := 1) hx hb dX12_judge_104 (by decide) ?_
            refine va_put (D := G) (ci := 12) (v := .int 1) (ty := .boolean) (C := RX12) (T := TX12) (N := 65) hx hb hts inT12 tyX12 tyX12_ok nmX12 hown hK hP hD hS 2 rfl rfl 32 (by decide) (hts _ tw_1916) (fun _ h9 => h9) rfl (tyX12_ok 32 (by decide)) rfl rfl (Nat.le_of_ble_eq_true rfl) dX12_judge_105 (fun H locs hP hD hS => ?_)
            refine lv_aload_n hx hb dX12_judge_108 rfl (lv_at hl 0 rfl) ?_
            refine lv_aload_n hx hb dX12_judge_109 rfl (lv_at hl 0 rfl) ?_
            refine va_get (D := G) (ci := 12) (v := .long x_1278) (C := RX12) (T := TX12) (N := 65) hx hb hts inT12 hown hK hP 2 rfl rfl 60 (by decide) (hts _ tw_1943) (fun _ h9 => h9) rfl dX12_judge_110 ?_
            refine va_put (D := G) (ci := 12) (v := .long x_1278) (ty := .long) (C := RX12) (T := TX12) (N := 65) hx hb hts inT12 tyX12 tyX12_ok nmX12 hown hK hP hD hS 2 rfl rfl 33 (by decide) (hts _ tw_1917) (fun _ h9 => h9) rfl (tyX12_ok 33 (by decide)) rfl rfl (Nat.le_of_ble_eq_true rfl) dX12_judge_113 (fun H locs hP hD hS => ?_)
            refine lv_aload_n hx hb dX12_judge_116 rfl (lv_at hl 0 rfl) ?_
            refine lv_aload_n hx hb dX12_judge_117 rfl (lv_at hl 0 rfl) ?_
            refine va_get (D := G) (ci := 12) (v := .long 1) (C := RX12) (T := TX12) (N := 65) hx hb hts inT12 hown hK hP 2 rfl rfl 61 (by decide) (hts _ tw_1944) (fun _ h9 => h9) rfl dX12_judge_118 ?_
            refine va_put (D := G) (ci := 12) (v := .long 1) (ty := .long) (C := RX12) (T := TX12) (N := 65) hx hb hts inT12 tyX12 tyX12_ok nmX12 hown hK hP hD hS 2 rfl rfl 34 (by decide) (hts _ tw_1918) (fun _ h9 => h9) rfl (tyX12_ok 34 (by decide)) rfl rfl (Nat.le_of_ble_eq_true rfl) dX12_judge_121 (fun H locs hP hD hS => ?_)
            refine lv_iconst (v := 0) hx hb dX12_judge_124 (by decide) ?_
            refine lv_istore_n (lv' := [(1, .int 0), (0, .ref h0)]) hx hb dX12_judge_125 rfl hl (by decide) rfl (fun ls hl => ?_)
            have hlp_1380 : ∀ (n_L126e : Nat) (v_1366 : Int32) (g_1367 : Nat → Int32) (H : Heap) (locs : List Loc) (ls : Array Slot), (2147483647 - v_1366.toInt).toNat < n_L126e → (0 ≤ v_1366.toInt ∧ v_1366.toInt ≤ 10) → (zRg 10 0 9 g_1367) → (F_r_judge m_thereMany m_orderHow m_orderMany m_hasBest m_bestTop m_bestBy m_meanTop m_meanBy g_c g_there g_tried g_order = F_r_judge_L126e m_orderMany g_tried g_87 x_1278 n_L126e v_1366 g_1367) → va_P G vwCl [(a_tried, .inl (cA.1 0, 10, .inl g_tried)), (a_order, .inl (cA.1 0, 10, .inl g_1367)), (h0, .inr (12, [.int m_status, .int m_thrown, .long m_above, .long m_under, .ref a_traySort, .ref a_trayMany, .ref a_numbers, .ref a_tape, .int m_taped, .int m_textEnd, .int m_faultKind, .int m_faultAt, .int m_bad, .int m_badAt, .int m_token, .int m_at, .int m_behind, .int m_number, .int m_letters, .long m_word, .ref a_c, .ref a_words, .int m_markMany, .ref a_there, .ref a_tried, .ref a_best, .ref a_found, .int m_thereMany, .int m_foundMany, .int m_orderHow, .int m_orderRing, .int m_orderMany, .int 1, .long x_1278, .long 1, .ref a_weights, .ref a_shared, .int m_random, .int m_truePlace, .int m_trueWay, .int m_seconds, .int m_done, .int m_feelings, .int m_tries, .int m_leftOver, .int m_playDoor, .int m_playRing, .int m_isOpen, .int m_isOver, .int m_wasTried, .int m_hasPlayed, .ref a_feltNow, .ref a_last, .ref a_kept, .int m_hasSeconds, .int m_hasTurned, .int m_hasRound, .ref a_hasFeels, .ref a_isOn, .int m_firstAct, .long x_1278, .long 1, .ref a_order, .int m_rowMany, .int m_newSteps])), (a_c, .inl (cA.1 0, 1825, .inl g_c)), (a_there, .inl (cA.1 0, 10, .inl g_87))] H → va_D A [(a_tried, .inl (cA.1 0, 10, .inl g_tried)), (a_order, .inl (cA.1 0, 10, .inl g_1367)), (h0, .inr (12, [.int m_status, .int m_thrown, .long m_above, .long m_under, .ref a_traySort, .ref a_trayMany, .ref a_numbers, .ref a_tape, .int m_taped, .int m_textEnd, .int m_faultKind, .int m_faultAt, .int m_bad, .int m_badAt, .int m_token, .int m_at, .int m_behind, .int m_number, .int m_letters, .long m_word, .ref a_c, .ref a_words, .int m_markMany, .ref a_there, .ref a_tried, .ref a_best, .ref a_found, .int m_thereMany, .int m_foundMany, .int m_orderHow, .int m_orderRing, .int m_orderMany, .int 1, .long x_1278, .long 1, .ref a_weights, .ref a_shared, .int m_random, .int m_truePlace, .int m_trueWay, .int m_seconds, .int m_done, .int m_feelings, .int m_tries, .int m_leftOver, .int m_playDoor, .int m_playRing, .int m_isOpen, .int m_isOver, .int m_wasTried, .int m_hasPlayed, .ref a_feltNow, .ref a_last, .ref a_kept, .int m_hasSeconds, .int m_hasTurned, .int m_hasRound, .ref a_hasFeels, .ref a_isOn, .int m_firstAct, .long x_1278, .long 1, .ref a_order, .int m_rowMany, .int m_newSteps])), (a_c, .inl (cA.1 0, 1825, .inl g_c)), (a_there, .inl (cA.1 0, 10, .inl g_87))] → va_S A s.heap H locs → lv_has ls 2 [(0, .ref h0), (1, .int v_1366)] → W p l e ({ frames := 4, cells := 0, slots := 0, locals := 97 }) s m args below meth c H locs 0 0 Q (F0 m 126 ls []) := by
              intro n_L126e
              induction n_L126e with
              | zero =>
                intro v_1366 g_1367 H locs ls hmu_hlp_1380 hr_v_1366 hC_g_1367 hF_L126e hP hD hS hl
                exact absurd hmu_hlp_1380 (Nat.not_lt_zero _)
              | succ n_L126e ih_1381 =>
                intro v_1366 g_1367 H locs ls hmu_hlp_1380 hr_v_1366 hC_g_1367 hF_L126e hP hD hS hl
                refine lv_iload_n hx hb dX12_judge_126 rfl (lv_at hl 1 rfl) ?_
                refine lv_aload_n hx hb dX12_judge_127 rfl (lv_at hl 0 rfl) ?_
                refine va_get (D := G) (ci := 12) (v := .int m_orderMany) (C := RX12) (T := TX12) (N := 65) hx hb hts inT12 hown hK hP 2 rfl rfl 31 (by decide) (hts _ tw_1915) (fun _ h9 => h9) rfl dX12_judge_128 ?_
                refine lv_icmp_ge (tgt := 152) hx hb dX12_judge_131 (by decide) (fun c_1382 => ?_) (fun c_1382 => ?_)
                · have b_1383 := z_fgeT c_1382
                  have hpost : ((1 : Int32) = 0 ∨ (1 : Int32) = 1) ∧ (0 ≤ (1 : Int32).toInt ∧ (1 : Int32).toInt ≤ 1) ∧ (0 ≤ (1 : Int64).toInt ∧ (1 : Int64).toInt ≤ 79200) ∧ (zRg 10 0 9 g_87) ∧ (zRg 10 0 9 g_1367) ∧ ((1 : Int32).toInt = 1 ∧ 1 ≤ (1 : Int64).toInt) := ⟨(Or.inr rfl), (by decide +kernel), (by decide +kernel), hC_g_87, hC_g_1367, (by omega)⟩
                  have hX_1384 : F_r_judge m_thereMany m_orderHow m_orderMany m_hasBest m_bestTop m_bestBy m_meanTop m_meanBy g_c g_there g_tried g_order = (((1 : Int32), x_1278, (1 : Int64), x_1278, (1 : Int64), g_87, g_1367) : Int32 × Int64 × Int64 × Int64 × Int64 × (Nat → Int32) × (Nat → Int32)) := by
                    refine hF_L126e.trans ?_
                    refine (F_r_judge_L126e_s ..).trans ?_
                    refine (if_pos c_1382).trans ?_
                    exact rfl
                  exact hret _ _ _ _ _ (1, x_1278, 1, x_1278, 1, g_87, g_1367) [2, 3, 4, 0, 1] hP hD hS rfl (by decide) dX12_judge_152 ⟨(congrArg (fun z9 => z9.1) hX_1384).symm, (congrArg (fun z9 => z9.2.1) hX_1384).symm, (congrArg (fun z9 => z9.2.2.1) hX_1384).symm, (congrArg (fun z9 => z9.2.2.2.1) hX_1384).symm, (congrArg (fun z9 => z9.2.2.2.2.1) hX_1384).symm, (congrArg (fun z9 => z9.2.2.2.2.2.1) hX_1384).symm, (congrArg (fun z9 => z9.2.2.2.2.2.2) hX_1384).symm, hpost⟩
                · have b_1385 := z_fltF c_1382
                  refine lv_aload_n hx hb dX12_judge_134 rfl (lv_at hl 0 rfl) ?_
                  refine va_get (D := G) (ci := 12) (v := .ref a_order) (C := RX12) (T := TX12) (N := 65) hx hb hts inT12 hown hK hP 2 rfl rfl 62 (by decide) (hts _ tw_1945) (fun _ h9 => h9) rfl dX12_judge_135 ?_
                  refine lv_iload_n hx hb dX12_judge_138 rfl (lv_at hl 1 rfl) ?_
                  refine lv_aload_n hx hb dX12_judge_139 rfl (lv_at hl 0 rfl) ?_
                  refine va_get (D := G) (ci := 12) (v := .ref a_tried) (C := RX12) (T := TX12) (N := 65) hx hb hts inT12 hown hK hP 2 rfl rfl 24 (by decide) (hts _ tw_1909) (fun _ h9 => h9) rfl dX12_judge_140 ?_
                  refine lv_iload_n hx hb dX12_judge_143 rfl (lv_at hl 1 rfl) ?_
                  refine va_iald hx hb hK hP 0 0 rfl rfl (z_inN (by omega) (by omega)) dX12_judge_144 ?_
                  refine lv_topi (fun x_1386 he_x_1386 => ?_)
                  have hr_x_1386 := z_rg hC_g_tried he_x_1386 (by omega) (by omega)
                  refine z_iast hx hb hK hP hD hS 1 0 rfl rfl (z_inN (by omega) (by omega)) dX12_judge_145 (fun g_1387 hg_g_1387 H locs hP hD hS => ?_)
                  have hC_g_1387 := z_rgU hC_g_1367 hg_g_1387 (by omega)
                  obtain ⟨x_1388, he_x_1388⟩ : ∃ z : Int32, z = v_1366 + 1 := ⟨_, rfl⟩
                  have hq_x_1388 := z_addq he_x_1388 (rfl : v_1366.toInt = _) hk_1 (by omega) (by omega)
                  refine lv_iinc (v := x_1388) (lv' := [(1, .int x_1388), (0, .ref h0)]) hx hb dX12_judge_146 hl (k := 1) rfl ((z_ofi (by decide +kernel)).trans he_x_1388.symm) (by decide) rfl (fun ls hl => ?_)
                  refine lv_goto (tgt := 126) hx hb dX12_judge_149 (by decide) ?_
                  have hX_1389 : F_r_judge m_thereMany m_orderHow m_orderMany m_hasBest m_bestTop m_bestBy m_meanTop m_meanBy g_c g_there g_tried g_order = F_r_judge_L126e m_orderMany g_tried g_87 x_1278 n_L126e x_1388 g_1387 := by
                    refine hF_L126e.trans ?_
                    refine (F_r_judge_L126e_s ..).trans ?_
                    refine (if_neg c_1382).trans ?_
                    try (extract_lets -merge -useContext +onlyGivenNames y9; have e9 : x_1386 = y9 := (by first | exact he_x_1386 | exact he_x_1386.symm); clear_value y9; subst e9)
                    try (extract_lets -merge -useContext +onlyGivenNames y9; have e9 : g_1387 = y9 := (by first | exact hg_g_1387 | exact hg_g_1387.symm); clear_value y9; subst e9)
                    try (extract_lets -merge -useContext +onlyGivenNames y9; have e9 : x_1388 = y9 := (by first | exact he_x_1388 | exact he_x_1388.symm); clear_value y9; subst e9)
                    exact rfl
                  exact ih_1381 x_1388 g_1387 H locs ls (by omega) (by omega) hC_g_1387 hX_1389 hP hD hS (lv_sub hl [1, 0] rfl)
            have hX_1390 : F_r_judge m_thereMany m_orderHow m_orderMany m_hasBest m_bestTop m_bestBy m_meanTop m_meanBy g_c g_there g_tried g_order = F_r_judge_L126e m_orderMany g_tried g_87 x_1278 ((2147483647 - (0 : Int32).toInt).toNat + 1) (0 : Int32) g_order := by
              refine hF_L2a.trans ?_
              refine (F_r_judge_L2a_s ..).trans ?_
              refine (if_pos c_797).trans ?_
              refine (if_pos c_799).trans ?_
              extract_lets -merge -useContext +onlyGivenNames w9 y9; have e9 : r_1275 = w9 := he_r_1275; clear_value w9; subst e9
              try (extract_lets -merge -useContext +onlyGivenNames y9; have e9 : x_1278 = y9 := (by first | exact he_x_1278 | exact he_x_1278.symm); clear_value y9; subst e9)
              refine (if_pos c_1279).trans ?_
              exact rfl
            exact hlp_1380 ((2147483647 - (0 : Int32).toInt).toNat + 1) 0 g_order _ _ _ (Nat.lt_succ_self _) (by decide +kernel) hC_g_order hX_1390 hP hD hS (lv_sub hl [1, 0] rfl)
          · have b_1391 := z_fneF c_1279
            refine lv_aload_n hx hb dX12_judge_80 rfl (lv_at hl 0 rfl) ?_
            refine va_get (D := G) (ci := 12) (v := .long x_1278) (C := RX12) (T := TX12) (N := 65) hx hb hts inT12 hown hK hP 2 rfl rfl 60 (by decide) (hts _ tw_1943) (fun _ h9 => h9) rfl dX12_judge_81 ?_
            refine lv_aload_n hx hb dX12_judge_84 rfl (lv_at hl 0 rfl) ?_
            refine va_get (D := G) (ci := 12) (v := .long m_bestBy) (C := RX12) (T := TX12) (N := 65) hx hb hts inT12 hown hK hP 2 rfl rfl 34 (by decide) (hts _ tw_1918) (fun _ h9 => h9) rfl dX12_judge_85 ?_
            refine lv_lmul hx hb dX12_judge_88 ?_
            have hL_m_bestBy := z_fulll m_bestBy
            refine lv_topl (fun x_1392 he_x_1392 => ?_)
            refine lv_aload_n hx hb dX12_judge_89 rfl (lv_at hl 0 rfl) ?_
            refine va_get (D := G) (ci := 12) (v := .long m_bestTop) (C := RX12) (T := TX12) (N := 65) hx hb hts inT12 hown hK hP 2 rfl rfl 33 (by decide) (hts _ tw_1917) (fun _ h9 => h9) rfl dX12_judge_90 ?_
            refine lv_aload_n hx hb dX12_judge_93 rfl (lv_at hl 0 rfl) ?_
            refine va_get (D := G) (ci := 12) (v := .long 1) (C := RX12) (T := TX12) (N := 65) hx hb hts inT12 hown hK hP 2 rfl rfl 61 (by decide) (hts _ tw_1944) (fun _ h9 => h9) rfl dX12_judge_94 ?_
            refine lv_lmul hx hb dX12_judge_97 ?_
            have hL_m_bestTop := z_fulll m_bestTop
            refine lv_topl (fun x_1393 he_x_1393 => ?_)
            have hq_x_1393 := z_mulql he_x_1393 (rfl : m_bestTop.toInt = _) hkl_1 (by omega) (by omega)
            refine W.lcmp hx hb dX12_judge_98 ?_
            refine lv_if_lt (tgt := 103) hx hb dX12_judge_99 (by decide) (fun c_1394 => ?_) (fun c_1394 => ?_)
            · have b_1395 := z_fltTl c_1394
              refine lv_aload_n hx hb dX12_judge_103 rfl (lv_at hl 0 rfl) ?_
              refine lv_iconst (v := 1) hx hb dX12_judge_104 (by decide) ?_
              refine va_put (D := G) (ci := 12) (v := .int 1) (ty := .boolean) (C := RX12) (T := TX12) (N := 65) hx hb hts inT12 tyX12 tyX12_ok nmX12 hown hK hP hD hS 2 rfl rfl 32 (by decide) (hts _ tw_1916) (fun _ h9 => h9) rfl (tyX12_ok 32 (by decide)) rfl rfl (Nat.le_of_ble_eq_true rfl) dX12_judge_105 (fun H locs hP hD hS => ?_)
              refine lv_aload_n hx hb dX12_judge_108 rfl (lv_at hl 0 rfl) ?_
              refine lv_aload_n hx hb dX12_judge_109 rfl (lv_at hl 0 rfl) ?_
              refine va_get (D := G) (ci := 12) (v := .long x_1278) (C := RX12) (T := TX12) (N := 65) hx hb hts inT12 hown hK hP 2 rfl rfl 60 (by decide) (hts _ tw_1943) (fun _ h9 => h9) rfl dX12_judge_110 ?_
              refine va_put (D := G) (ci := 12) (v := .long x_1278) (ty := .long) (C := RX12) (T := TX12) (N := 65) hx hb hts inT12 tyX12 tyX12_ok nmX12 hown hK hP hD hS 2 rfl rfl 33 (by decide) (hts _ tw_1917) (fun _ h9 => h9) rfl (tyX12_ok 33 (by decide)) rfl rfl (Nat.le_of_ble_eq_true rfl) dX12_judge_113 (fun H locs hP hD hS => ?_)
              refine lv_aload_n hx hb dX12_judge_116 rfl (lv_at hl 0 rfl) ?_
              refine lv_aload_n hx hb dX12_judge_117 rfl (lv_at hl 0 rfl) ?_
              refine va_get (D := G) (ci := 12) (v := .long 1) (C := RX12) (T := TX12) (N := 65) hx hb hts inT12 hown hK hP 2 rfl rfl 61 (by decide) (hts _ tw_1944) (fun _ h9 => h9) rfl dX12_judge_118 ?_
              refine va_put (D := G) (ci := 12) (v := .long 1) (ty := .long) (C := RX12) (T := TX12) (N := 65) hx hb hts inT12 tyX12 tyX12_ok nmX12 hown hK hP hD hS 2 rfl rfl 34 (by decide) (hts _ tw_1918) (fun _ h9 => h9) rfl (tyX12_ok 34 (by decide)) rfl rfl (Nat.le_of_ble_eq_true rfl) dX12_judge_121 (fun H locs hP hD hS => ?_)
              refine lv_iconst (v := 0) hx hb dX12_judge_124 (by decide) ?_
              refine lv_istore_n (lv' := [(1, .int 0), (0, .ref h0)]) hx hb dX12_judge_125 rfl hl (by decide) rfl (fun ls hl => ?_)
              have hlp_1495 : ∀ (n_L126f : Nat) (v_1481 : Int32) (g_1482 : Nat → Int32) (H : Heap) (locs : List Loc) (ls : Array Slot), (2147483647 - v_1481.toInt).toNat < n_L126f → (0 ≤ v_1481.toInt ∧ v_1481.toInt ≤ 10) → (zRg 10 0 9 g_1482) → (F_r_judge m_thereMany m_orderHow m_orderMany m_hasBest m_bestTop m_bestBy m_meanTop m_meanBy g_c g_there g_tried g_order = F_r_judge_L126f m_orderMany g_tried g_87 x_1278 n_L126f v_1481 g_1482) → va_P G vwCl [(a_tried, .inl (cA.1 0, 10, .inl g_tried)), (a_order, .inl (cA.1 0, 10, .inl g_1482)), (h0, .inr (12, [.int m_status, .int m_thrown, .long m_above, .long m_under, .ref a_traySort, .ref a_trayMany, .ref a_numbers, .ref a_tape, .int m_taped, .int m_textEnd, .int m_faultKind, .int m_faultAt, .int m_bad, .int m_badAt, .int m_token, .int m_at, .int m_behind, .int m_number, .int m_letters, .long m_word, .ref a_c, .ref a_words, .int m_markMany, .ref a_there, .ref a_tried, .ref a_best, .ref a_found, .int m_thereMany, .int m_foundMany, .int m_orderHow, .int m_orderRing, .int m_orderMany, .int 1, .long x_1278, .long 1, .ref a_weights, .ref a_shared, .int m_random, .int m_truePlace, .int m_trueWay, .int m_seconds, .int m_done, .int m_feelings, .int m_tries, .int m_leftOver, .int m_playDoor, .int m_playRing, .int m_isOpen, .int m_isOver, .int m_wasTried, .int m_hasPlayed, .ref a_feltNow, .ref a_last, .ref a_kept, .int m_hasSeconds, .int m_hasTurned, .int m_hasRound, .ref a_hasFeels, .ref a_isOn, .int m_firstAct, .long x_1278, .long 1, .ref a_order, .int m_rowMany, .int m_newSteps])), (a_c, .inl (cA.1 0, 1825, .inl g_c)), (a_there, .inl (cA.1 0, 10, .inl g_87))] H → va_D A [(a_tried, .inl (cA.1 0, 10, .inl g_tried)), (a_order, .inl (cA.1 0, 10, .inl g_1482)), (h0, .inr (12, [.int m_status, .int m_thrown, .long m_above, .long m_under, .ref a_traySort, .ref a_trayMany, .ref a_numbers, .ref a_tape, .int m_taped, .int m_textEnd, .int m_faultKind, .int m_faultAt, .int m_bad, .int m_badAt, .int m_token, .int m_at, .int m_behind, .int m_number, .int m_letters, .long m_word, .ref a_c, .ref a_words, .int m_markMany, .ref a_there, .ref a_tried, .ref a_best, .ref a_found, .int m_thereMany, .int m_foundMany, .int m_orderHow, .int m_orderRing, .int m_orderMany, .int 1, .long x_1278, .long 1, .ref a_weights, .ref a_shared, .int m_random, .int m_truePlace, .int m_trueWay, .int m_seconds, .int m_done, .int m_feelings, .int m_tries, .int m_leftOver, .int m_playDoor, .int m_playRing, .int m_isOpen, .int m_isOver, .int m_wasTried, .int m_hasPlayed, .ref a_feltNow, .ref a_last, .ref a_kept, .int m_hasSeconds, .int m_hasTurned, .int m_hasRound, .ref a_hasFeels, .ref a_isOn, .int m_firstAct, .long x_1278, .long 1, .ref a_order, .int m_rowMany, .int m_newSteps])), (a_c, .inl (cA.1 0, 1825, .inl g_c)), (a_there, .inl (cA.1 0, 10, .inl g_87))] → va_S A s.heap H locs → lv_has ls 2 [(0, .ref h0), (1, .int v_1481)] → W p l e ({ frames := 4, cells := 0, slots := 0, locals := 97 }) s m args below meth c H locs 0 0 Q (F0 m 126 ls []) := by
                intro n_L126f
                induction n_L126f with
                | zero =>
                  intro v_1481 g_1482 H locs ls hmu_hlp_1495 hr_v_1481 hC_g_1482 hF_L126f hP hD hS hl
                  exact absurd hmu_hlp_1495 (Nat.not_lt_zero _)
                | succ n_L126f ih_1496 =>
                  intro v_1481 g_1482 H locs ls hmu_hlp_1495 hr_v_1481 hC_g_1482 hF_L126f hP hD hS hl
                  refine lv_iload_n hx hb dX12_judge_126 rfl (lv_at hl 1 rfl) ?_
                  refine lv_aload_n hx hb dX12_judge_127 rfl (lv_at hl 0 rfl) ?_
                  refine va_get (D := G) (ci := 12) (v := .int m_orderMany) (C := RX12) (T := TX12) (N := 65) hx hb hts inT12 hown hK hP 2 rfl rfl 31 (by decide) (hts _ tw_1915) (fun _ h9 => h9) rfl dX12_judge_128 ?_
                  refine lv_icmp_ge (tgt := 152) hx hb dX12_judge_131 (by decide) (fun c_1497 => ?_) (fun c_1497 => ?_)
                  · have b_1498 := z_fgeT c_1497
                    have hpost : ((1 : Int32) = 0 ∨ (1 : Int32) = 1) ∧ (0 ≤ (1 : Int32).toInt ∧ (1 : Int32).toInt ≤ 1) ∧ (0 ≤ (1 : Int64).toInt ∧ (1 : Int64).toInt ≤ 79200) ∧ (zRg 10 0 9 g_87) ∧ (zRg 10 0 9 g_1482) ∧ ((1 : Int32).toInt = 1 ∧ 1 ≤ (1 : Int64).toInt) := ⟨(Or.inr rfl), (by decide +kernel), (by decide +kernel), hC_g_87, hC_g_1482, (by omega)⟩
                    have hX_1499 : F_r_judge m_thereMany m_orderHow m_orderMany m_hasBest m_bestTop m_bestBy m_meanTop m_meanBy g_c g_there g_tried g_order = (((1 : Int32), x_1278, (1 : Int64), x_1278, (1 : Int64), g_87, g_1482) : Int32 × Int64 × Int64 × Int64 × Int64 × (Nat → Int32) × (Nat → Int32)) := by
                      refine hF_L126f.trans ?_
                      refine (F_r_judge_L126f_s ..).trans ?_
                      refine (if_pos c_1497).trans ?_
                      exact rfl
                    exact hret _ _ _ _ _ (1, x_1278, 1, x_1278, 1, g_87, g_1482) [2, 3, 4, 0, 1] hP hD hS rfl (by decide) dX12_judge_152 ⟨(congrArg (fun z9 => z9.1) hX_1499).symm, (congrArg (fun z9 => z9.2.1) hX_1499).symm, (congrArg (fun z9 => z9.2.2.1) hX_1499).symm, (congrArg (fun z9 => z9.2.2.2.1) hX_1499).symm, (congrArg (fun z9 => z9.2.2.2.2.1) hX_1499).symm, (congrArg (fun z9 => z9.2.2.2.2.2.1) hX_1499).symm, (congrArg (fun z9 => z9.2.2.2.2.2.2) hX_1499).symm, hpost⟩
                  · have b_1500 := z_fltF c_1497
                    refine lv_aload_n hx hb dX12_judge_134 rfl (lv_at hl 0 rfl) ?_
                    refine va_get (D := G) (ci := 12) (v := .ref a_order) (C := RX12) (T := TX12) (N := 65) hx hb hts inT12 hown hK hP 2 rfl rfl 62 (by decide) (hts _ tw_1945) (fun _ h9 => h9) rfl dX12_judge_135 ?_
                    refine lv_iload_n hx hb dX12_judge_138 rfl (lv_at hl 1 rfl) ?_
                    refine lv_aload_n hx hb dX12_judge_139 rfl (lv_at hl 0 rfl) ?_
                    refine va_get (D := G) (ci := 12) (v := .ref a_tried) (C := RX12) (T := TX12) (N := 65) hx hb hts inT12 hown hK hP 2 rfl rfl 24 (by decide) (hts _ tw_1909) (fun _ h9 => h9) rfl dX12_judge_140 ?_
                    refine lv_iload_n hx hb dX12_judge_143 rfl (lv_at hl 1 rfl) ?_
                    refine va_iald hx hb hK hP 0 0 rfl rfl (z_inN (by omega) (by omega)) dX12_judge_144 ?_
                    refine lv_topi (fun x_1501 he_x_1501 => ?_)
                    have hr_x_1501 := z_rg hC_g_tried he_x_1501 (by omega) (by omega)
                    refine z_iast hx hb hK hP hD hS 1 0 rfl rfl (z_inN (by omega) (by omega)) dX12_judge_145 (fun g_1502 hg_g_1502 H locs hP hD hS => ?_)
                    have hC_g_1502 := z_rgU hC_g_1482 hg_g_1502 (by omega)
                    obtain ⟨x_1503, he_x_1503⟩ : ∃ z : Int32, z = v_1481 + 1 := ⟨_, rfl⟩
                    have hq_x_1503 := z_addq he_x_1503 (rfl : v_1481.toInt = _) hk_1 (by omega) (by omega)
                    refine lv_iinc (v := x_1503) (lv' := [(1, .int x_1503), (0, .ref h0)]) hx hb dX12_judge_146 hl (k := 1) rfl ((z_ofi (by decide +kernel)).trans he_x_1503.symm) (by decide) rfl (fun ls hl => ?_)
                    refine lv_goto (tgt := 126) hx hb dX12_judge_149 (by decide) ?_
                    have hX_1504 : F_r_judge m_thereMany m_orderHow m_orderMany m_hasBest m_bestTop m_bestBy m_meanTop m_meanBy g_c g_there g_tried g_order = F_r_judge_L126f m_orderMany g_tried g_87 x_1278 n_L126f x_1503 g_1502 := by
                      refine hF_L126f.trans ?_
                      refine (F_r_judge_L126f_s ..).trans ?_
                      refine (if_neg c_1497).trans ?_
                      try (extract_lets -merge -useContext +onlyGivenNames y9; have e9 : x_1501 = y9 := (by first | exact he_x_1501 | exact he_x_1501.symm); clear_value y9; subst e9)
                      try (extract_lets -merge -useContext +onlyGivenNames y9; have e9 : g_1502 = y9 := (by first | exact hg_g_1502 | exact hg_g_1502.symm); clear_value y9; subst e9)
                      try (extract_lets -merge -useContext +onlyGivenNames y9; have e9 : x_1503 = y9 := (by first | exact he_x_1503 | exact he_x_1503.symm); clear_value y9; subst e9)
                      exact rfl
                    exact ih_1496 x_1503 g_1502 H locs ls (by omega) (by omega) hC_g_1502 hX_1504 hP hD hS (lv_sub hl [1, 0] rfl)
              have hX_1505 : F_r_judge m_thereMany m_orderHow m_orderMany m_hasBest m_bestTop m_bestBy m_meanTop m_meanBy g_c g_there g_tried g_order = F_r_judge_L126f m_orderMany g_tried g_87 x_1278 ((2147483647 - (0 : Int32).toInt).toNat + 1) (0 : Int32) g_order := by
                refine hF_L2a.trans ?_
                refine (F_r_judge_L2a_s ..).trans ?_
                refine (if_pos c_797).trans ?_
                refine (if_pos c_799).trans ?_
                extract_lets -merge -useContext +onlyGivenNames w9 y9; have e9 : r_1275 = w9 := he_r_1275; clear_value w9; subst e9
                try (extract_lets -merge -useContext +onlyGivenNames y9; have e9 : x_1278 = y9 := (by first | exact he_x_1278 | exact he_x_1278.symm); clear_value y9; subst e9)
                refine (if_neg c_1279).trans ?_
                try (extract_lets -merge -useContext +onlyGivenNames y9; have e9 : x_1392 = y9 := (by first | exact he_x_1392 | exact he_x_1392.symm); clear_value y9; subst e9)
                try (extract_lets -merge -useContext +onlyGivenNames y9; have e9 : x_1393 = y9 := (by first | exact he_x_1393 | exact he_x_1393.symm); clear_value y9; subst e9)
                refine (if_pos c_1394).trans ?_
                exact rfl
              exact hlp_1495 ((2147483647 - (0 : Int32).toInt).toNat + 1) 0 g_order _ _ _ (Nat.lt_succ_self _) (by decide +kernel) hC_g_order hX_1505 hP hD hS (lv_sub hl [1, 0] rfl)
            · have b_1506 := z_fgeFl c_1394
              have hpost : (m_hasBest = 0 ∨ m_hasBest = 1) ∧ (0 ≤ m_hasBest.toInt ∧ m_hasBest.toInt ≤ 1) ∧ (0 ≤ (1 : Int64).toInt ∧ (1 : Int64).toInt ≤ 79200) ∧ (zRg 10 0 9 g_87) ∧ (zRg 10 0 9 g_order) ∧ (m_hasBest.toInt = 1 ∧ 1 ≤ m_bestBy.toInt) := ⟨hz_m_hasBest, hr_m_hasBest, (by decide +kernel), hC_g_87, hC_g_order, (by omega)⟩
              have hX_1507 : F_r_judge m_thereMany m_orderHow m_orderMany m_hasBest m_bestTop m_bestBy m_meanTop m_meanBy g_c g_there g_tried g_order = ((m_hasBest, m_bestTop, m_bestBy, x_1278, (1 : Int64), g_87, g_order) : Int32 × Int64 × Int64 × Int64 × Int64 × (Nat → Int32) × (Nat → Int32)) := by
                refine hF_L2a.trans ?_
                refine (F_r_judge_L2a_s ..).trans ?_
                refine (if_pos c_797).trans ?_
                refine (if_pos c_799).trans ?_
                extract_lets -merge -useContext +onlyGivenNames w9 y9; have e9 : r_1275 = w9 := he_r_1275; clear_value w9; subst e9
                try (extract_lets -merge -useContext +onlyGivenNames y9; have e9 : x_1278 = y9 := (by first | exact he_x_1278 | exact he_x_1278.symm); clear_value y9; subst e9)
                refine (if_neg c_1279).trans ?_
                try (extract_lets -merge -useContext +onlyGivenNames y9; have e9 : x_1392 = y9 := (by first | exact he_x_1392 | exact he_x_1392.symm); clear_value y9; subst e9)
                try (extract_lets -merge -useContext +onlyGivenNames y9; have e9 : x_1393 = y9 := (by first | exact he_x_1393 | exact he_x_1393.symm); clear_value y9; subst e9)
                refine (if_neg c_1394).trans ?_
                exact rfl
              exact hret _ _ _ _ _ (m_hasBest, m_bestTop, m_bestBy, x_1278, 1, g_87, g_order) [2, 3, 4, 0, 1] hP hD hS rfl (by decide) dX12_judge_102 ⟨(congrArg (fun z9 => z9.1) hX_1507).symm, (congrArg (fun z9 => z9.2.1) hX_1507).symm, (congrArg (fun z9 => z9.2.2.1) hX_1507).symm, (congrArg (fun z9 => z9.2.2.2.1) hX_1507).symm, (congrArg (fun z9 => z9.2.2.2.2.1) hX_1507).symm, (congrArg (fun z9 => z9.2.2.2.2.2.1) hX_1507).symm, (congrArg (fun z9 => z9.2.2.2.2.2.2) hX_1507).symm, hpost⟩
      · have b_1508 := z_fltF c_797
        refine lv_aload_n hx hb dX12_judge_10 rfl (lv_at hl 0 rfl) ?_
        refine va_get (D := G) (ci := 12) (v := .ref a_there) (C := RX12) (T := TX12) (N := 65) hx hb hts inT12 hown hK hP 0 rfl rfl 23 (by decide) (hts _ tw_1908) (fun _ h9 => h9) rfl dX12_judge_11 ?_
        refine lv_iload_n hx hb dX12_judge_14 rfl (lv_at hl 1 rfl) ?_
        refine lv_aload_n hx hb dX12_judge_15 rfl (lv_at hl 0 rfl) ?_
        refine va_get (D := G) (ci := 12) (v := .ref a_tried) (C := RX12) (T := TX12) (N := 65) hx hb hts inT12 hown hK hP 0 rfl rfl 24 (by decide) (hts _ tw_1909) (fun _ h9 => h9) rfl dX12_judge_16 ?_
        refine lv_iload_n hx hb dX12_judge_19 rfl (lv_at hl 1 rfl) ?_
        refine va_iald hx hb hK hP 3 0 rfl rfl (z_inN (by omega) (by omega)) dX12_judge_20 ?_
        refine lv_topi (fun x_1509 he_x_1509 => ?_)
        have hr_x_1509 := z_rg hC_g_tried he_x_1509 (by omega) (by omega)
        refine z_iast hx hb hK hP hD hS 2 0 rfl rfl (z_inN (by omega) (by omega)) dX12_judge_21 (fun g_1510 hg_g_1510 H locs hP hD hS => ?_)
        have hC_g_1510 := z_rgU hC_g_87 hg_g_1510 (by omega)
        obtain ⟨x_1511, he_x_1511⟩ : ∃ z : Int32, z = v_86 + 1 := ⟨_, rfl⟩
        have hq_x_1511 := z_addq he_x_1511 (rfl : v_86.toInt = _) hk_1 (by omega) (by omega)
        refine lv_iinc (v := x_1511) (lv' := [(1, .int x_1511), (0, .ref h0)]) hx hb dX12_judge_22 hl (k := 1) rfl ((z_ofi (by decide +kernel)).trans he_x_1511.symm) (by decide) rfl (fun ls hl => ?_)
        refine lv_goto (tgt := 2) hx hb dX12_judge_25 (by decide) ?_
        have hX_1512 : F_r_judge m_thereMany m_orderHow m_orderMany m_hasBest m_bestTop m_bestBy m_meanTop m_meanBy g_c g_there g_tried g_order = F_r_judge_L2a m_thereMany m_orderHow m_orderMany m_hasBest m_bestTop m_bestBy m_meanTop m_meanBy g_c g_tried g_order n_L2a x_1511 g_1510 := by
          refine hF_L2a.trans ?_
          refine (F_r_judge_L2a_s ..).trans ?_
          refine (if_neg c_797).trans ?_
          try (extract_lets -merge -useContext +onlyGivenNames y9; have e9 : x_1509 = y9 := (by first | exact he_x_1509 | exact he_x_1509.symm); clear_value y9; subst e9)
          try (extract_lets -merge -useContext +onlyGivenNames y9; have e9 : g_1510 = y9 := (by first | exact hg_g_1510 | exact hg_g_1510.symm); clear_value y9; subst e9)
          try (extract_lets -merge -useContext +onlyGivenNames y9; have e9 : x_1511 = y9 := (by first | exact he_x_1511 | exact he_x_1511.symm); clear_value y9; subst e9)
          exact rfl
        exact ih_796 x_1511 g_1510 H locs ls (by omega) (by omega) hC_g_1510 (by rw [hq_x_1511]; exact zEq_step hi_94 hg_g_1510 (by omega) (by omega) he_x_1509 (by omega)) hX_1512 hP hD hS (lv_sub hl [1, 0] rfl)
  have hX_1513 : F_r_judge m_thereMany m_orderHow m_orderMany m_hasBest m_bestTop m_bestBy m_meanTop m_meanBy g_c g_there g_tried g_order = F_r_judge_L2a m_thereMany m_orderHow m_orderMany m_hasBest m_bestTop m_bestBy m_meanTop m_meanBy g_c g_tried g_order ((2147483647 - (0 : Int32).toInt).toNat + 1) (0 : Int32) g_there := by
    refine (F_r_judge_s ..).trans ?_
    exact rfl
  exact hlp_795 ((2147483647 - (0 : Int32).toInt).toNat + 1) 0 g_there _ _ _ (Nat.lt_succ_self _) (by decide +kernel) hC_g_there zEq_0 hX_1513 hP hD hS (lv_sub hl [1, 0] rfl)
