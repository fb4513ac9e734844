set_option maxHeartbeats 4000000 in
set_option maxRecDepth 100000 in
theorem r_fail (l : Launch) (G : va_G) (cA : zCA) (h0 : Nat) (m_status : Int32) (m_thrown : Int32) (m_above : Int64) (m_under : Int64) (a_traySort : Nat) (a_trayMany : Nat) (a_numbers : Nat) (a_tape : Nat) (m_taped : Int32) (m_textEnd : Int32) (m_faultKind : Int32) (m_faultAt : Int32) (m_bad : Int32) (m_badAt : Int32) (m_token : Int32) (m_at : Int32) (m_behind : Int32) (m_number : Int32) (m_letters : Int32) (m_word : Int64) (a_c : Nat) (a_words : Nat) (m_markMany : Int32) (a_there : Nat) (a_tried : Nat) (a_best : Nat) (a_found : Nat) (m_thereMany : Int32) (m_foundMany : Int32) (m_orderHow : Int32) (m_orderRing : Int32) (m_orderMany : Int32) (m_hasBest : Int32) (m_bestTop : Int64) (m_bestBy : Int64) (a_weights : Nat) (a_shared : Nat) (m_random : Int32) (m_truePlace : Int32) (m_trueWay : Int32) (m_seconds : Int32) (m_done : Int32) (m_feelings : Int32) (m_tries : Int32) (m_leftOver : Int32) (m_playDoor : Int32) (m_playRing : Int32) (m_isOpen : Int32) (m_isOver : Int32) (m_wasTried : Int32) (m_hasPlayed : Int32) (a_feltNow : Nat) (a_last : Nat) (a_kept : Nat) (m_hasSeconds : Int32) (m_hasTurned : Int32) (m_hasRound : Int32) (a_hasFeels : Nat) (a_isOn : Nat) (m_firstAct : Int32) (m_meanTop : Int64) (m_meanBy : Int64) (a_order : Nat) (m_rowMany : Int32) (m_newSteps : Int32) (k : Int32) (pp : Int32) (hr_k : 1 ≤ k.toInt ∧ k.toInt ≤ 9) (hr_m_bad : 0 ≤ m_bad.toInt ∧ m_bad.toInt ≤ 9) : zCv l yX12_fail cX12_fail 3 none ({ frames := 0, cells := 0, slots := 0, locals := 0 }) G cA [.ref h0, .int k, .int pp] [(h0, .inr (12, [.int m_status, .int m_thrown, .long m_above, .long m_under, .ref a_traySort, .ref a_trayMany, .ref a_numbers, .ref a_tape, .int m_taped, .int m_textEnd, .int m_faultKind, .int m_faultAt, .int m_bad, .int m_badAt, .int m_token, .int m_at, .int m_behind, .int m_number, .int m_letters, .long m_word, .ref a_c, .ref a_words, .int m_markMany, .ref a_there, .ref a_tried, .ref a_best, .ref a_found, .int m_thereMany, .int m_foundMany, .int m_orderHow, .int m_orderRing, .int m_orderMany, .int m_hasBest, .long m_bestTop, .long m_bestBy, .ref a_weights, .ref a_shared, .int m_random, .int m_truePlace, .int m_trueWay, .int m_seconds, .int m_done, .int m_feelings, .int m_tries, .int m_leftOver, .int m_playDoor, .int m_playRing, .int m_isOpen, .int m_isOver, .int m_wasTried, .int m_hasPlayed, .ref a_feltNow, .ref a_last, .ref a_kept, .int m_hasSeconds, .int m_hasTurned, .int m_hasRound, .ref a_hasFeels, .ref a_isOn, .int m_firstAct, .long m_meanTop, .long m_meanBy, .ref a_order, .int m_rowMany, .int m_newSteps]))] (S := Int32 × Int32) (fun (u : Int32 × Int32) => (u.1 = (F_r_fail m_bad m_badAt k pp).1) ∧ (u.2 = (F_r_fail m_bad m_badAt k pp).2) ∧ ((1 ≤ u.1.toInt ∧ u.1.toInt ≤ 9) ∧ (1 ≤ u.1.toInt))) (fun (u : Int32 × Int32) => [(h0, .inr (12, [.int m_status, .int m_thrown, .long m_above, .long m_under, .ref a_traySort, .ref a_trayMany, .ref a_numbers, .ref a_tape, .int m_taped, .int m_textEnd, .int m_faultKind, .int m_faultAt, .int u.1, .int u.2, .int m_token, .int m_at, .int m_behind, .int m_number, .int m_letters, .long m_word, .ref a_c, .ref a_words, .int m_markMany, .ref a_there, .ref a_tried, .ref a_best, .ref a_found, .int m_thereMany, .int m_foundMany, .int m_orderHow, .int m_orderRing, .int m_orderMany, .int m_hasBest, .long m_bestTop, .long m_bestBy, .ref a_weights, .ref a_shared, .int m_random, .int m_truePlace, .int m_trueWay, .int m_seconds, .int m_done, .int m_feelings, .int m_tries, .int m_leftOver, .int m_playDoor, .int m_playRing, .int m_isOpen, .int m_isOver, .int m_wasTried, .int m_hasPlayed, .ref a_feltNow, .ref a_last, .ref a_kept, .int m_hasSeconds, .int m_hasTurned, .int m_hasRound, .ref a_hasFeels, .ref a_isOn, .int m_firstAct, .long m_meanTop, .long m_meanBy, .ref a_order, .int m_rowMany, .int m_newSteps]))]) 0 0 := by
  have hk_0 : (0 : Int32).toInt = 0 := by decide +kernel
  refine z_start2v (own := RX12) (by decide) (Nat.le_of_ble_eq_true rfl) rfl ?_
  intro p e s m args below meth c A ls Q hx hb hml hts hown hK hE hT hP hD hS hA hl hret
  have hl : lv_has ls 3 [(0, .ref h0), (1, .int k), (2, .int pp)] := hl
  refine lv_aload_n hx hb dX12_fail_0 rfl (lv_at hl 0 rfl) ?_
  refine va_get (D := G) (ci := 12) (v := .int m_bad) (C := RX12) (T := TX12) (N := 65) hx hb hts inT12 hown hK hP 0 rfl rfl 12 (by decide) (hts _ tw_1897) (fun _ h9 => h9) rfl dX12_fail_1 ?_
  refine lv_if_le (tgt := 8) hx hb dX12_fail_4 (by decide) (fun c_1 => ?_) (fun c_1 => ?_)
  · have b_2 := z_fleT c_1
    refine lv_aload_n hx hb dX12_fail_8 rfl (lv_at hl 0 rfl) ?_
    refine lv_iload_n hx hb dX12_fail_9 rfl (lv_at hl 1 rfl) ?_
    refine va_put (D := G) (ci := 12) (v := .int k) (ty := .int) (C := RX12) (T := TX12) (N := 65) hx hb hts inT12 tyX12 tyX12_ok nmX12 hown hK hP hD hS 0 rfl rfl 12 (by decide) (hts _ tw_1897) (fun _ h9 => h9) rfl (tyX12_ok 12 (by decide)) rfl rfl (Nat.le_of_ble_eq_true rfl) dX12_fail_10 (fun H locs hP hD hS => ?_)
    refine lv_aload_n hx hb dX12_fail_13 rfl (lv_at hl 0 rfl) ?_
    refine lv_iload_n hx hb dX12_fail_14 rfl (lv_at hl 2 rfl) ?_
    refine va_put (D := G) (ci := 12) (v := .int pp) (ty := .int) (C := RX12) (T := TX12) (N := 65) hx hb hts inT12 tyX12 tyX12_ok nmX12 hown hK hP hD hS 0 rfl rfl 13 (by decide) (hts _ tw_1898) (fun _ h9 => h9) rfl (tyX12_ok 13 (by decide)) rfl rfl (Nat.le_of_ble_eq_true rfl) dX12_fail_15 (fun H locs hP hD hS => ?_)
    have hpost : (1 ≤ k.toInt ∧ k.toInt ≤ 9) ∧ (1 ≤ k.toInt) := ⟨hr_k, (by omega)⟩
    have hX_3 : F_r_fail m_bad m_badAt k pp = ((k, pp) : Int32 × Int32) := by
      clear hret hP hD hS hl hA hT hE hK hts hown hml
      refine (F_r_fail_s ..).trans ?_
      refine (if_pos c_1).trans ?_
      exact rfl
    exact hret _ _ _ _ _ (k, pp) [0] hP hD hS rfl (by decide) dX12_fail_18 ⟨(congrArg (fun z9 => z9.1) hX_3).symm, (congrArg (fun z9 => z9.2) hX_3).symm, hpost⟩
  · have b_4 := z_fgtF c_1
    have hpost : (1 ≤ m_bad.toInt ∧ m_bad.toInt ≤ 9) ∧ (1 ≤ m_bad.toInt) := ⟨(by omega), (by omega)⟩
    have hX_5 : F_r_fail m_bad m_badAt k pp = ((m_bad, m_badAt) : Int32 × Int32) := by
      clear hret hP hD hS hl hA hT hE hK hts hown hml
      refine (F_r_fail_s ..).trans ?_
      refine (if_neg c_1).trans ?_
      exact rfl
    exact hret _ _ _ _ _ (m_bad, m_badAt) [0] hP hD hS rfl (by decide) dX12_fail_7 ⟨(congrArg (fun z9 => z9.1) hX_5).symm, (congrArg (fun z9 => z9.2) hX_5).symm, hpost⟩
set_option maxHeartbeats 4000000 in
set_option maxRecDepth 100000 in
theorem r_wrong (l : Launch) (G : va_G) (cA : zCA) (h0 : Nat) (m_status : Int32) (m_thrown : Int32) (m_above : Int64) (m_under : Int64) (a_traySort : Nat) (a_trayMany : Nat) (a_numbers : Nat) (a_tape : Nat) (m_taped : Int32) (m_textEnd : Int32) (m_faultKind : Int32) (m_faultAt : Int32) (m_bad : Int32) (m_badAt : Int32) (m_token : Int32) (m_at : Int32) (m_behind : Int32) (m_number : Int32) (m_letters : Int32) (m_word : Int64) (a_c : Nat) (a_words : Nat) (m_markMany : Int32) (a_there : Nat) (a_tried : Nat) (a_best : Nat) (a_found : Nat) (m_thereMany : Int32) (m_foundMany : Int32) (m_orderHow : Int32) (m_orderRing : Int32) (m_orderMany : Int32) (m_hasBest : Int32) (m_bestTop : Int64) (m_bestBy : Int64) (a_weights : Nat) (a_shared : Nat) (m_random : Int32) (m_truePlace : Int32) (m_trueWay : Int32) (m_seconds : Int32) (m_done : Int32) (m_feelings : Int32) (m_tries : Int32) (m_leftOver : Int32) (m_playDoor : Int32) (m_playRing : Int32) (m_isOpen : Int32) (m_isOver : Int32) (m_wasTried : Int32) (m_hasPlayed : Int32) (a_feltNow : Nat) (a_last : Nat) (a_kept : Nat) (m_hasSeconds : Int32) (m_hasTurned : Int32) (m_hasRound : Int32) (a_hasFeels : Nat) (a_isOn : Nat) (m_firstAct : Int32) (m_meanTop : Int64) (m_meanBy : Int64) (a_order : Nat) (m_rowMany : Int32) (m_newSteps : Int32) (hr_m_at : 0 ≤ m_at.toInt ∧ m_at.toInt ≤ 900) (hr_m_bad : 0 ≤ m_bad.toInt ∧ m_bad.toInt ≤ 9) (hr_m_token : 0 ≤ m_token.toInt ∧ m_token.toInt ≤ 4) : zCv l yX12_wrong cX12_wrong 1 none ({ frames := 1, cells := 0, slots := 0, locals := 22 }) G cA [.ref h0] [(h0, .inr (12, [.int m_status, .int m_thrown, .long m_above, .long m_under, .ref a_traySort, .ref a_trayMany, .ref a_numbers, .ref a_tape, .int m_taped, .int m_textEnd, .int m_faultKind, .int m_faultAt, .int m_bad, .int m_badAt, .int m_token, .int m_at, .int m_behind, .int m_number, .int m_letters, .long m_word, .ref a_c, .ref a_words, .int m_markMany, .ref a_there, .ref a_tried, .ref a_best, .ref a_found, .int m_thereMany, .int m_foundMany, .int m_orderHow, .int m_orderRing, .int m_orderMany, .int m_hasBest, .long m_bestTop, .long m_bestBy, .ref a_weights, .ref a_shared, .int m_random, .int m_truePlace, .int m_trueWay, .int m_seconds, .int m_done, .int m_feelings, .int m_tries, .int m_leftOver, .int m_playDoor, .int m_playRing, .int m_isOpen, .int m_isOver, .int m_wasTried, .int m_hasPlayed, .ref a_feltNow, .ref a_last, .ref a_kept, .int m_hasSeconds, .int m_hasTurned, .int m_hasRound, .ref a_hasFeels, .ref a_isOn, .int m_firstAct, .long m_meanTop, .long m_meanBy, .ref a_order, .int m_rowMany, .int m_newSteps]))] (S := Int32 × Int32) (fun (u : Int32 × Int32) => (u.1 = (F_r_wrong m_bad m_badAt m_token m_at).1) ∧ (u.2 = (F_r_wrong m_bad m_badAt m_token m_at).2) ∧ ((1 ≤ u.1.toInt ∧ u.1.toInt ≤ 9))) (fun (u : Int32 × Int32) => [(h0, .inr (12, [.int m_status, .int m_thrown, .long m_above, .long m_under, .ref a_traySort, .ref a_trayMany, .ref a_numbers, .ref a_tape, .int m_taped, .int m_textEnd, .int m_faultKind, .int m_faultAt, .int u.1, .int u.2, .int m_token, .int m_at, .int m_behind, .int m_number, .int m_letters, .long m_word, .ref a_c, .ref a_words, .int m_markMany, .ref a_there, .ref a_tried, .ref a_best, .ref a_found, .int m_thereMany, .int m_foundMany, .int m_orderHow, .int m_orderRing, .int m_orderMany, .int m_hasBest, .long m_bestTop, .long m_bestBy, .ref a_weights, .ref a_shared, .int m_random, .int m_truePlace, .int m_trueWay, .int m_seconds, .int m_done, .int m_feelings, .int m_tries, .int m_leftOver, .int m_playDoor, .int m_playRing, .int m_isOpen, .int m_isOver, .int m_wasTried, .int m_hasPlayed, .ref a_feltNow, .ref a_last, .ref a_kept, .int m_hasSeconds, .int m_hasTurned, .int m_hasRound, .ref a_hasFeels, .ref a_isOn, .int m_firstAct, .long m_meanTop, .long m_meanBy, .ref a_order, .int m_rowMany, .int m_newSteps]))]) 0 0 := by
  have hk_1 : (1 : Int32).toInt = 1 := by decide +kernel
  have hk_2 : (2 : Int32).toInt = 2 := by decide +kernel
  have hk_4 : (4 : Int32).toInt = 4 := by decide +kernel
  refine z_start2v (own := RX12) (by decide) (Nat.le_of_ble_eq_true rfl) rfl ?_
  intro p e s m args below meth c A ls Q hx hb hml hts hown hK hE hT hP hD hS hA hl hret
  have hl : lv_has ls 1 [(0, .ref h0)] := hl
  refine lv_aload_n hx hb dX12_wrong_0 rfl (lv_at hl 0 rfl) ?_
  refine lv_aload_n hx hb dX12_wrong_1 rfl (lv_at hl 0 rfl) ?_
  refine va_get (D := G) (ci := 12) (v := .int m_token) (C := RX12) (T := TX12) (N := 65) hx hb hts inT12 hown hK hP 0 rfl rfl 14 (by decide) (hts _ tw_1899) (fun _ h9 => h9) rfl dX12_wrong_2 ?_
  refine lv_iconst (v := 4) hx hb dX12_wrong_5 (by decide) ?_
  refine lv_icmp_ne (tgt := 13) hx hb dX12_wrong_6 (by decide) (fun c_1 => ?_) (fun c_1 => ?_)
  · have b_2 := z_fneT c_1
    refine lv_iconst (v := 2) hx hb dX12_wrong_13 (by decide) ?_
    refine lv_aload_n hx hb dX12_wrong_14 rfl (lv_at hl 0 rfl) ?_
    refine va_get (D := G) (ci := 12) (v := .int m_at) (C := RX12) (T := TX12) (N := 65) hx hb hts inT12 hown hK hP 0 rfl rfl 15 (by decide) (hts _ tw_1900) (fun _ h9 => h9) rfl dX12_wrong_15 ?_
    refine z_callVv (As := [.int 2, .int m_at]) (rest := []) (wr := []) ⟨hx, hb, hml, hown, hts⟩ hK hE hT hP hD hS hA (r_fail l G cA h0 m_status m_thrown m_above m_under a_traySort a_trayMany a_numbers a_tape m_taped m_textEnd m_faultKind m_faultAt m_bad m_badAt m_token m_at m_behind m_number m_letters m_word a_c a_words m_markMany a_there a_tried a_best a_found m_thereMany m_foundMany m_orderHow m_orderRing m_orderMany m_hasBest m_bestTop m_bestBy a_weights a_shared m_random m_truePlace m_trueWay m_seconds m_done m_feelings m_tries m_leftOver m_playDoor m_playRing m_isOpen m_isOver m_wasTried m_hasPlayed a_feltNow a_last a_kept m_hasSeconds m_hasTurned m_hasRound a_hasFeels a_isOn m_firstAct m_meanTop m_meanBy a_order m_rowMany m_newSteps 2 m_at (by decide +kernel) hr_m_bad) lk_RX12_180 ⟨rfl, rfl⟩ ⟨Nat.le_of_ble_eq_true rfl, Nat.le_of_ble_eq_true rfl⟩ 12 rfl rfl rfl [0] [] rfl rfl (by decide) rfl hl.1 rfl (lv_room (Nat.le_of_ble_eq_true rfl)) dX12_wrong_18 ⟨Nat.le_of_ble_eq_true rfl, Nat.le_of_ble_eq_true rfl⟩ (fun u_6 H locs hw hP hD hS => ?_)
    obtain ⟨n_3, n_4⟩ := u_6
    try dsimp only at hw
    obtain ⟨he_n_3, he_n_4, hw⟩ := hw
    obtain ⟨hr_n_3, hf_8⟩ := hw
    have hpost : (1 ≤ n_3.toInt ∧ n_3.toInt ≤ 9) := hr_n_3
    have hX_9 : F_r_wrong m_bad m_badAt m_token m_at = ((n_3, n_4) : Int32 × Int32) := by
      clear hret hP hD hS hl hA hT hE hK hts hown hml
      subst he_n_3
      subst he_n_4
      refine (F_r_wrong_s ..).trans ?_
      refine (if_neg c_1).trans ?_
      exact rfl
    exact hret _ _ _ _ _ (n_3, n_4) [0] hP hD hS rfl (by decide) dX12_wrong_21 ⟨(congrArg (fun z9 => z9.1) hX_9).symm, (congrArg (fun z9 => z9.2) hX_9).symm, hpost⟩
  · have b_10 := z_feqF c_1
    refine lv_iconst (v := 1) hx hb dX12_wrong_9 (by decide) ?_
    refine lv_goto (tgt := 14) hx hb dX12_wrong_10 (by decide) ?_
    refine lv_aload_n hx hb dX12_wrong_14 rfl (lv_at hl 0 rfl) ?_
    refine va_get (D := G) (ci := 12) (v := .int m_at) (C := RX12) (T := TX12) (N := 65) hx hb hts inT12 hown hK hP 0 rfl rfl 15 (by decide) (hts _ tw_1900) (fun _ h9 => h9) rfl dX12_wrong_15 ?_
    refine z_callVv (As := [.int 1, .int m_at]) (rest := []) (wr := []) ⟨hx, hb, hml, hown, hts⟩ hK hE hT hP hD hS hA (r_fail l G cA h0 m_status m_thrown m_above m_under a_traySort a_trayMany a_numbers a_tape m_taped m_textEnd m_faultKind m_faultAt m_bad m_badAt m_token m_at m_behind m_number m_letters m_word a_c a_words m_markMany a_there a_tried a_best a_found m_thereMany m_foundMany m_orderHow m_orderRing m_orderMany m_hasBest m_bestTop m_bestBy a_weights a_shared m_random m_truePlace m_trueWay m_seconds m_done m_feelings m_tries m_leftOver m_playDoor m_playRing m_isOpen m_isOver m_wasTried m_hasPlayed a_feltNow a_last a_kept m_hasSeconds m_hasTurned m_hasRound a_hasFeels a_isOn m_firstAct m_meanTop m_meanBy a_order m_rowMany m_newSteps 1 m_at (by decide +kernel) hr_m_bad) lk_RX12_180 ⟨rfl, rfl⟩ ⟨Nat.le_of_ble_eq_true rfl, Nat.le_of_ble_eq_true rfl⟩ 12 rfl rfl rfl [0] [] rfl rfl (by decide) rfl hl.1 rfl (lv_room (Nat.le_of_ble_eq_true rfl)) dX12_wrong_18 ⟨Nat.le_of_ble_eq_true rfl, Nat.le_of_ble_eq_true rfl⟩ (fun u_14 H locs hw hP hD hS => ?_)
    obtain ⟨n_11, n_12⟩ := u_14
    try dsimp only at hw
    obtain ⟨he_n_11, he_n_12, hw⟩ := hw
    obtain ⟨hr_n_11, hf_16⟩ := hw
    have hpost : (1 ≤ n_11.toInt ∧ n_11.toInt ≤ 9) := hr_n_11
    have hX_17 : F_r_wrong m_bad m_badAt m_token m_at = ((n_11, n_12) : Int32 × Int32) := by
      clear hret hP hD hS hl hA hT hE hK hts hown hml
      subst he_n_11
      subst he_n_12
      refine (F_r_wrong_s ..).trans ?_
      refine (if_pos c_1).trans ?_
      exact rfl
    exact hret _ _ _ _ _ (n_11, n_12) [0] hP hD hS rfl (by decide) dX12_wrong_21 ⟨(congrArg (fun z9 => z9.1) hX_17).symm, (congrArg (fun z9 => z9.2) hX_17).symm, hpost⟩
set_option maxHeartbeats 4000000 in
set_option maxRecDepth 100000 in
theorem r_must_0 (l : Launch) (G : va_G) (cA : zCA) (h0 : Nat) (m_status : Int32) (m_thrown : Int32) (m_above : Int64) (m_under : Int64) (a_traySort : Nat) (a_trayMany : Nat) (a_numbers : Nat) (a_tape : Nat) (m_taped : Int32) (m_textEnd : Int32) (m_faultKind : Int32) (m_faultAt : Int32) (m_bad : Int32) (m_badAt : Int32) (m_token : Int32) (m_at : Int32) (m_behind : Int32) (m_number : Int32) (m_letters : Int32) (m_word : Int64) (a_c : Nat) (a_words : Nat) (m_markMany : Int32) (a_there : Nat) (a_tried : Nat) (a_best : Nat) (a_found : Nat) (m_thereMany : Int32) (m_foundMany : Int32) (m_orderHow : Int32) (m_orderRing : Int32) (m_orderMany : Int32) (m_hasBest : Int32) (m_bestTop : Int64) (m_bestBy : Int64) (a_weights : Nat) (a_shared : Nat) (m_random : Int32) (m_truePlace : Int32) (m_trueWay : Int32) (m_seconds : Int32) (m_done : Int32) (m_feelings : Int32) (m_tries : Int32) (m_leftOver : Int32) (m_playDoor : Int32) (m_playRing : Int32) (m_isOpen : Int32) (m_isOver : Int32) (m_wasTried : Int32) (m_hasPlayed : Int32) (a_feltNow : Nat) (a_last : Nat) (a_kept : Nat) (m_hasSeconds : Int32) (m_hasTurned : Int32) (m_hasRound : Int32) (a_hasFeels : Nat) (a_isOn : Nat) (m_firstAct : Int32) (m_meanTop : Int64) (m_meanBy : Int64) (a_order : Nat) (m_rowMany : Int32) (m_newSteps : Int32) (hr_m_at : 0 ≤ m_at.toInt ∧ m_at.toInt ≤ 900) (hr_m_bad : 0 ≤ m_bad.toInt ∧ m_bad.toInt ≤ 9) (hr_m_token : 0 ≤ m_token.toInt ∧ m_token.toInt ≤ 4) : zCv l yX12_must cX12_must 2 none ({ frames := 2, cells := 0, slots := 0, locals := 42 }) G cA [.ref h0, .int 0] [(h0, .inr (12, [.int m_status, .int m_thrown, .long m_above, .long m_under, .ref a_traySort, .ref a_trayMany, .ref a_numbers, .ref a_tape, .int m_taped, .int m_textEnd, .int m_faultKind, .int m_faultAt, .int m_bad, .int m_badAt, .int m_token, .int m_at, .int m_behind, .int m_number, .int m_letters, .long m_word, .ref a_c, .ref a_words, .int m_markMany, .ref a_there, .ref a_tried, .ref a_best, .ref a_found, .int m_thereMany, .int m_foundMany, .int m_orderHow, .int m_orderRing, .int m_orderMany, .int m_hasBest, .long m_bestTop, .long m_bestBy, .ref a_weights, .ref a_shared, .int m_random, .int m_truePlace, .int m_trueWay, .int m_seconds, .int m_done, .int m_feelings, .int m_tries, .int m_leftOver, .int m_playDoor, .int m_playRing, .int m_isOpen, .int m_isOver, .int m_wasTried, .int m_hasPlayed, .ref a_feltNow, .ref a_last, .ref a_kept, .int m_hasSeconds, .int m_hasTurned, .int m_hasRound, .ref a_hasFeels, .ref a_isOn, .int m_firstAct, .long m_meanTop, .long m_meanBy, .ref a_order, .int m_rowMany, .int m_newSteps]))] (S := Int32 × Int32) (fun (u : Int32 × Int32) => (u.1 = (F_r_must_0 m_bad m_badAt m_token m_at).1) ∧ (u.2 = (F_r_must_0 m_bad m_badAt m_token m_at).2) ∧ ((1 ≤ u.1.toInt ∧ u.1.toInt ≤ 9))) (fun (u : Int32 × Int32) => [(h0, .inr (12, [.int m_status, .int m_thrown, .long m_above, .long m_under, .ref a_traySort, .ref a_trayMany, .ref a_numbers, .ref a_tape, .int m_taped, .int m_textEnd, .int m_faultKind, .int m_faultAt, .int u.1, .int u.2, .int m_token, .int m_at, .int m_behind, .int m_number, .int m_letters, .long m_word, .ref a_c, .ref a_words, .int m_markMany, .ref a_there, .ref a_tried, .ref a_best, .ref a_found, .int m_thereMany, .int m_foundMany, .int m_orderHow, .int m_orderRing, .int m_orderMany, .int m_hasBest, .long m_bestTop, .long m_bestBy, .ref a_weights, .ref a_shared, .int m_random, .int m_truePlace, .int m_trueWay, .int m_seconds, .int m_done, .int m_feelings, .int m_tries, .int m_leftOver, .int m_playDoor, .int m_playRing, .int m_isOpen, .int m_isOver, .int m_wasTried, .int m_hasPlayed, .ref a_feltNow, .ref a_last, .ref a_kept, .int m_hasSeconds, .int m_hasTurned, .int m_hasRound, .ref a_hasFeels, .ref a_isOn, .int m_firstAct, .long m_meanTop, .long m_meanBy, .ref a_order, .int m_rowMany, .int m_newSteps]))]) 0 0 := by
  have hk_0 : (0 : Int32).toInt = 0 := by decide +kernel
  refine z_start2v (own := RX12) (by decide) (Nat.le_of_ble_eq_true rfl) rfl ?_
  intro p e s m args below meth c A ls Q hx hb hml hts hown hK hE hT hP hD hS hA hl hret
  have hl : lv_has ls 2 [(0, .ref h0), (1, .int 0)] := hl
  refine lv_aload_n hx hb dX12_must_0 rfl (lv_at hl 0 rfl) ?_
  refine va_get (D := G) (ci := 12) (v := .int m_bad) (C := RX12) (T := TX12) (N := 65) hx hb hts inT12 hown hK hP 0 rfl rfl 12 (by decide) (hts _ tw_1897) (fun _ h9 => h9) rfl dX12_must_1 ?_
  refine lv_if_le (tgt := 8) hx hb dX12_must_4 (by decide) (fun c_1 => ?_) (fun c_1 => ?_)
  · have b_2 := z_fleT c_1
    refine lv_iload_n hx hb dX12_must_8 rfl (lv_at hl 1 rfl) ?_
    refine lv_if_eq (tgt := 19) hx hb dX12_must_9 (by decide) (fun _ => ?_) (fun h9 => absurd (by decide +kernel) h9)
    refine lv_aload_n hx hb dX12_must_19 rfl (lv_at hl 0 rfl) ?_
    refine z_callVv (As := []) (rest := []) (wr := []) ⟨hx, hb, hml, hown, hts⟩ hK hE hT hP hD hS hA (r_wrong l G cA h0 m_status m_thrown m_above m_under a_traySort a_trayMany a_numbers a_tape m_taped m_textEnd m_faultKind m_faultAt m_bad m_badAt m_token m_at m_behind m_number m_letters m_word a_c a_words m_markMany a_there a_tried a_best a_found m_thereMany m_foundMany m_orderHow m_orderRing m_orderMany m_hasBest m_bestTop m_bestBy a_weights a_shared m_random m_truePlace m_trueWay m_seconds m_done m_feelings m_tries m_leftOver m_playDoor m_playRing m_isOpen m_isOver m_wasTried m_hasPlayed a_feltNow a_last a_kept m_hasSeconds m_hasTurned m_hasRound a_hasFeels a_isOn m_firstAct m_meanTop m_meanBy a_order m_rowMany m_newSteps hr_m_at hr_m_bad hr_m_token) lk_RX12_187 ⟨rfl, rfl⟩ ⟨Nat.le_of_ble_eq_true rfl, Nat.le_of_ble_eq_true rfl⟩ 12 rfl rfl rfl [0] [] rfl rfl (by decide) rfl hl.1 rfl (lv_room (Nat.le_of_ble_eq_true rfl)) dX12_must_20 ⟨Nat.le_of_ble_eq_true rfl, Nat.le_of_ble_eq_true rfl⟩ (fun u_6 H locs hw hP hD hS => ?_)
    obtain ⟨n_3, n_4⟩ := u_6
    try dsimp only at hw
    obtain ⟨he_n_3, he_n_4, hw⟩ := hw
    have hr_n_3 := hw
    have hpost : (1 ≤ n_3.toInt ∧ n_3.toInt ≤ 9) := hr_n_3
    have hX_8 : F_r_must_0 m_bad m_badAt m_token m_at = ((n_3, n_4) : Int32 × Int32) := by
      clear hret hP hD hS hl hA hT hE hK hts hown hml
      subst he_n_3
      subst he_n_4
      refine (F_r_must_0_s ..).trans ?_
      refine (if_pos c_1).trans ?_
      exact rfl
    exact hret _ _ _ _ _ (n_3, n_4) [0] hP hD hS rfl (by decide) dX12_must_23 ⟨(congrArg (fun z9 => z9.1) hX_8).symm, (congrArg (fun z9 => z9.2) hX_8).symm, hpost⟩
  · have b_9 := z_fgtF c_1
    have hpost : (1 ≤ m_bad.toInt ∧ m_bad.toInt ≤ 9) := (by omega)
    have hX_10 : F_r_must_0 m_bad m_badAt m_token m_at = ((m_bad, m_badAt) : Int32 × Int32) := by
      clear hret hP hD hS hl hA hT hE hK hts hown hml
      refine (F_r_must_0_s ..).trans ?_
      refine (if_neg c_1).trans ?_
      exact rfl
    exact hret _ _ _ _ _ (m_bad, m_badAt) [0] hP hD hS rfl (by decide) dX12_must_7 ⟨(congrArg (fun z9 => z9.1) hX_10).symm, (congrArg (fun z9 => z9.2) hX_10).symm, hpost⟩
set_option maxHeartbeats 4000000 in
set_option maxRecDepth 100000 in
theorem r_must_1 (l : Launch) (G : va_G) (cA : zCA) (h0 : Nat) (m_status : Int32) (m_thrown : Int32) (m_above : Int64) (m_under : Int64) (a_traySort : Nat) (a_trayMany : Nat) (a_numbers : Nat) (a_tape : Nat) (m_taped : Int32) (m_textEnd : Int32) (m_faultKind : Int32) (m_faultAt : Int32) (m_bad : Int32) (m_badAt : Int32) (m_token : Int32) (m_at : Int32) (m_behind : Int32) (m_number : Int32) (m_letters : Int32) (m_word : Int64) (a_c : Nat) (a_words : Nat) (m_markMany : Int32) (a_there : Nat) (a_tried : Nat) (a_best : Nat) (a_found : Nat) (m_thereMany : Int32) (m_foundMany : Int32) (m_orderHow : Int32) (m_orderRing : Int32) (m_orderMany : Int32) (m_hasBest : Int32) (m_bestTop : Int64) (m_bestBy : Int64) (a_weights : Nat) (a_shared : Nat) (m_random : Int32) (m_truePlace : Int32) (m_trueWay : Int32) (m_seconds : Int32) (m_done : Int32) (m_feelings : Int32) (m_tries : Int32) (m_leftOver : Int32) (m_playDoor : Int32) (m_playRing : Int32) (m_isOpen : Int32) (m_isOver : Int32) (m_wasTried : Int32) (m_hasPlayed : Int32) (a_feltNow : Nat) (a_last : Nat) (a_kept : Nat) (m_hasSeconds : Int32) (m_hasTurned : Int32) (m_hasRound : Int32) (a_hasFeels : Nat) (a_isOn : Nat) (m_firstAct : Int32) (m_meanTop : Int64) (m_meanBy : Int64) (a_order : Nat) (m_rowMany : Int32) (m_newSteps : Int32) (g_tape : Nat → Int32) (hr_m_textEnd : 0 ≤ m_textEnd.toInt ∧ m_textEnd.toInt ≤ 900) (hr_m_at : 0 ≤ m_at.toInt ∧ m_at.toInt ≤ 900) (hr_m_behind : 0 ≤ m_behind.toInt ∧ m_behind.toInt ≤ 900) (hr_m_bad : 0 ≤ m_bad.toInt ∧ m_bad.toInt ≤ 9) (hr_m_token : 0 ≤ m_token.toInt ∧ m_token.toInt ≤ 4) (hr_m_number : 0 ≤ m_number.toInt ∧ m_number.toInt ≤ 9999) (hr_m_letters : 0 ≤ m_letters.toInt ∧ m_letters.toInt ≤ 900) : zCv l yX12_must cX12_must 2 none ({ frames := 2, cells := 0, slots := 0, locals := 42 }) G cA [.ref h0, .int 1] [(h0, .inr (12, [.int m_status, .int m_thrown, .long m_above, .long m_under, .ref a_traySort, .ref a_trayMany, .ref a_numbers, .ref a_tape, .int m_taped, .int m_textEnd, .int m_faultKind, .int m_faultAt, .int m_bad, .int m_badAt, .int m_token, .int m_at, .int m_behind, .int m_number, .int m_letters, .long m_word, .ref a_c, .ref a_words, .int m_markMany, .ref a_there, .ref a_tried, .ref a_best, .ref a_found, .int m_thereMany, .int m_foundMany, .int m_orderHow, .int m_orderRing, .int m_orderMany, .int m_hasBest, .long m_bestTop, .long m_bestBy, .ref a_weights, .ref a_shared, .int m_random, .int m_truePlace, .int m_trueWay, .int m_seconds, .int m_done, .int m_feelings, .int m_tries, .int m_leftOver, .int m_playDoor, .int m_playRing, .int m_isOpen, .int m_isOver, .int m_wasTried, .int m_hasPlayed, .ref a_feltNow, .ref a_last, .ref a_kept, .int m_hasSeconds, .int m_hasTurned, .int m_hasRound, .ref a_hasFeels, .ref a_isOn, .int m_firstAct, .long m_meanTop, .long m_meanBy, .ref a_order, .int m_rowMany, .int m_newSteps])), (a_tape, .inl (cA.1 2, 900, .inl g_tape))] (S := Int32 × Int32 × Int32 × Int32 × Int32 × Int64) (fun (u : Int32 × Int32 × Int32 × Int32 × Int32 × Int64) => (u.1 = (F_r_must_1 m_textEnd m_bad m_token m_at m_behind m_number m_letters m_word g_tape).1) ∧ (u.2.1 = (F_r_must_1 m_textEnd m_bad m_token m_at m_behind m_number m_letters m_word g_tape).2.1) ∧ (u.2.2.1 = (F_r_must_1 m_textEnd m_bad m_token m_at m_behind m_number m_letters m_word g_tape).2.2.1) ∧ (u.2.2.2.1 = (F_r_must_1 m_textEnd m_bad m_token m_at m_behind m_number m_letters m_word g_tape).2.2.2.1) ∧ (u.2.2.2.2.1 = (F_r_must_1 m_textEnd m_bad m_token m_at m_behind m_number m_letters m_word g_tape).2.2.2.2.1) ∧ (u.2.2.2.2.2 = (F_r_must_1 m_textEnd m_bad m_token m_at m_behind m_number m_letters m_word g_tape).2.2.2.2.2) ∧ ((0 ≤ u.1.toInt ∧ u.1.toInt ≤ 4) ∧ (0 ≤ u.2.1.toInt ∧ u.2.1.toInt ≤ 900) ∧ (0 ≤ u.2.2.1.toInt ∧ u.2.2.1.toInt ≤ 900) ∧ (0 ≤ u.2.2.2.1.toInt ∧ u.2.2.2.1.toInt ≤ 9999) ∧ (0 ≤ u.2.2.2.2.1.toInt ∧ u.2.2.2.2.1.toInt ≤ 900) ∧ (m_behind.toInt ≤ u.2.2.1.toInt) ∧ (0 < m_bad.toInt → 0 < m_bad.toInt) ∧ (m_bad.toInt ≤ 0 → u.1.toInt = 0 ∨ m_behind.toInt < u.2.2.1.toInt))) (fun (u : Int32 × Int32 × Int32 × Int32 × Int32 × Int64) => [(h0, .inr (12, [.int m_status, .int m_thrown, .long m_above, .long m_under, .ref a_traySort, .ref a_trayMany, .ref a_numbers, .ref a_tape, .int m_taped, .int m_textEnd, .int m_faultKind, .int m_faultAt, .int m_bad, .int m_badAt, .int u.1, .int u.2.1, .int u.2.2.1, .int u.2.2.2.1, .int u.2.2.2.2.1, .long u.2.2.2.2.2, .ref a_c, .ref a_words, .int m_markMany, .ref a_there, .ref a_tried, .ref a_best, .ref a_found, .int m_thereMany, .int m_foundMany, .int m_orderHow, .int m_orderRing, .int m_orderMany, .int m_hasBest, .long m_bestTop, .long m_bestBy, .ref a_weights, .ref a_shared, .int m_random, .int m_truePlace, .int m_trueWay, .int m_seconds, .int m_done, .int m_feelings, .int m_tries, .int m_leftOver, .int m_playDoor, .int m_playRing, .int m_isOpen, .int m_isOver, .int m_wasTried, .int m_hasPlayed, .ref a_feltNow, .ref a_last, .ref a_kept, .int m_hasSeconds, .int m_hasTurned, .int m_hasRound, .ref a_hasFeels, .ref a_isOn, .int m_firstAct, .long m_meanTop, .long m_meanBy, .ref a_order, .int m_rowMany, .int m_newSteps])), (a_tape, .inl (cA.1 2, 900, .inl g_tape))]) 0 0 := by
  have hk_0 : (0 : Int32).toInt = 0 := by decide +kernel
  refine z_start2v (own := RX12) (by decide) (Nat.le_of_ble_eq_true rfl) rfl ?_
  intro p e s m args below meth c A ls Q hx hb hml hts hown hK hE hT hP hD hS hA hl hret
  have hl : lv_has ls 2 [(0, .ref h0), (1, .int 1)] := hl
  refine lv_aload_n hx hb dX12_must_0 rfl (lv_at hl 0 rfl) ?_
  refine va_get (D := G) (ci := 12) (v := .int m_bad) (C := RX12) (T := TX12) (N := 65) hx hb hts inT12 hown hK hP 0 rfl rfl 12 (by decide) (hts _ tw_1897) (fun _ h9 => h9) rfl dX12_must_1 ?_
  refine lv_if_le (tgt := 8) hx hb dX12_must_4 (by decide) (fun c_1 => ?_) (fun c_1 => ?_)
  · have b_2 := z_fleT c_1
    refine lv_iload_n hx hb dX12_must_8 rfl (lv_at hl 1 rfl) ?_
    refine lv_if_eq (tgt := 19) hx hb dX12_must_9 (by decide) (fun h9 => absurd h9 (by decide +kernel)) (fun _ => ?_)
    refine lv_aload_n hx hb dX12_must_12 rfl (lv_at hl 0 rfl) ?_
    refine z_callVv (As := []) (rest := []) (wr := []) ⟨hx, hb, hml, hown, hts⟩ hK hE hT hP hD hS hA (r_next2 l G cA h0 m_status m_thrown m_above m_under a_traySort a_trayMany a_numbers a_tape m_taped m_textEnd m_faultKind m_faultAt m_bad m_badAt m_token m_at m_behind m_number m_letters m_word a_c a_words m_markMany a_there a_tried a_best a_found m_thereMany m_foundMany m_orderHow m_orderRing m_orderMany m_hasBest m_bestTop m_bestBy a_weights a_shared m_random m_truePlace m_trueWay m_seconds m_done m_feelings m_tries m_leftOver m_playDoor m_playRing m_isOpen m_isOver m_wasTried m_hasPlayed a_feltNow a_last a_kept m_hasSeconds m_hasTurned m_hasRound a_hasFeels a_isOn m_firstAct m_meanTop m_meanBy a_order m_rowMany m_newSteps g_tape hr_m_textEnd hr_m_at hr_m_behind hr_m_token hr_m_number hr_m_letters) lk_RX12_184 ⟨rfl, rfl⟩ ⟨Nat.le_of_ble_eq_true rfl, Nat.le_of_ble_eq_true rfl⟩ 12 rfl rfl rfl [0, 1] [] rfl rfl (by decide) rfl hl.1 rfl (lv_room (Nat.le_of_ble_eq_true rfl)) dX12_must_13 ⟨Nat.le_of_ble_eq_true rfl, Nat.le_of_ble_eq_true rfl⟩ (fun u_10 H locs hw hP hD hS => ?_)
    obtain ⟨n_3, n_4, n_5, n_6, n_7, n_8⟩ := u_10
    try dsimp only at hw
    obtain ⟨he_n_3, he_n_4, he_n_5, he_n_6, he_n_7, he_n_8, hw⟩ := hw
    obtain ⟨hr_n_3, hr_n_4, hr_n_5, hr_n_6, hr_n_7, hf_12, hf_13⟩ := hw
    refine lv_goto (tgt := 23) hx hb dX12_must_16 (by decide) ?_
    have hpost : (0 ≤ n_3.toInt ∧ n_3.toInt ≤ 4) ∧ (0 ≤ n_4.toInt ∧ n_4.toInt ≤ 900) ∧ (0 ≤ n_5.toInt ∧ n_5.toInt ≤ 900) ∧ (0 ≤ n_6.toInt ∧ n_6.toInt ≤ 9999) ∧ (0 ≤ n_7.toInt ∧ n_7.toInt ≤ 900) ∧ (m_behind.toInt ≤ n_5.toInt) ∧ (0 < m_bad.toInt → 0 < m_bad.toInt) ∧ (m_bad.toInt ≤ 0 → n_3.toInt = 0 ∨ m_behind.toInt < n_5.toInt) := ⟨hr_n_3, hr_n_4, hr_n_5, hr_n_6, hr_n_7, (by omega), (by omega), (by omega)⟩
    have hX_14 : F_r_must_1 m_textEnd m_bad m_token m_at m_behind m_number m_letters m_word g_tape = ((n_3, n_4, n_5, n_6, n_7, n_8) : Int32 × Int32 × Int32 × Int32 × Int32 × Int64) := by
      clear hret hP hD hS hl hA hT hE hK hts hown hml
      subst he_n_3
      subst he_n_4
      subst he_n_5
      subst he_n_6
      subst he_n_7
      subst he_n_8
      refine (F_r_must_1_s ..).trans ?_
      refine (if_pos c_1).trans ?_
      exact rfl
    exact hret _ _ _ _ _ (n_3, n_4, n_5, n_6, n_7, n_8) [0, 1] hP hD hS rfl (by decide) dX12_must_23 ⟨(congrArg (fun z9 => z9.1) hX_14).symm, (congrArg (fun z9 => z9.2.1) hX_14).symm, (congrArg (fun z9 => z9.2.2.1) hX_14).symm, (congrArg (fun z9 => z9.2.2.2.1) hX_14).symm, (congrArg (fun z9 => z9.2.2.2.2.1) hX_14).symm, (congrArg (fun z9 => z9.2.2.2.2.2) hX_14).symm, hpost⟩
  · have b_15 := z_fgtF c_1
    have hpost : (0 ≤ m_token.toInt ∧ m_token.toInt ≤ 4) ∧ (0 ≤ m_at.toInt ∧ m_at.toInt ≤ 900) ∧ (0 ≤ m_behind.toInt ∧ m_behind.toInt ≤ 900) ∧ (0 ≤ m_number.toInt ∧ m_number.toInt ≤ 9999) ∧ (0 ≤ m_letters.toInt ∧ m_letters.toInt ≤ 900) ∧ (m_behind.toInt ≤ m_behind.toInt) ∧ (0 < m_bad.toInt → 0 < m_bad.toInt) ∧ (m_bad.toInt ≤ 0 → m_token.toInt = 0 ∨ m_behind.toInt < m_behind.toInt) := ⟨hr_m_token, hr_m_at, hr_m_behind, hr_m_number, hr_m_letters, (by omega), (by omega), (by omega)⟩
    have hX_16 : F_r_must_1 m_textEnd m_bad m_token m_at m_behind m_number m_letters m_word g_tape = ((m_token, m_at, m_behind, m_number, m_letters, m_word) : Int32 × Int32 × Int32 × Int32 × Int32 × Int64) := by
      clear hret hP hD hS hl hA hT hE hK hts hown hml
      refine (F_r_must_1_s ..).trans ?_
      refine (if_neg c_1).trans ?_
      exact rfl
    exact hret _ _ _ _ _ (m_token, m_at, m_behind, m_number, m_letters, m_word) [0, 1] hP hD hS rfl (by decide) dX12_must_7 ⟨(congrArg (fun z9 => z9.1) hX_16).symm, (congrArg (fun z9 => z9.2.1) hX_16).symm, (congrArg (fun z9 => z9.2.2.1) hX_16).symm, (congrArg (fun z9 => z9.2.2.2.1) hX_16).symm, (congrArg (fun z9 => z9.2.2.2.2.1) hX_16).symm, (congrArg (fun z9 => z9.2.2.2.2.2) hX_16).symm, hpost⟩
set_option maxHeartbeats 4000000 in
set_option maxRecDepth 100000 in
theorem r_count (l : Launch) (G : va_G) (cA : zCA) (h0 : Nat) (m_status : Int32) (m_thrown : Int32) (m_above : Int64) (m_under : Int64) (a_traySort : Nat) (a_trayMany : Nat) (a_numbers : Nat) (a_tape : Nat) (m_taped : Int32) (m_textEnd : Int32) (m_faultKind : Int32) (m_faultAt : Int32) (m_bad : Int32) (m_badAt : Int32) (m_token : Int32) (m_at : Int32) (m_behind : Int32) (m_number : Int32) (m_letters : Int32) (m_word : Int64) (a_c : Nat) (a_words : Nat) (m_markMany : Int32) (a_there : Nat) (a_tried : Nat) (a_best : Nat) (a_found : Nat) (m_thereMany : Int32) (m_foundMany : Int32) (m_orderHow : Int32) (m_orderRing : Int32) (m_orderMany : Int32) (m_hasBest : Int32) (m_bestTop : Int64) (m_bestBy : Int64) (a_weights : Nat) (a_shared : Nat) (m_random : Int32) (m_truePlace : Int32) (m_trueWay : Int32) (m_seconds : Int32) (m_done : Int32) (m_feelings : Int32) (m_tries : Int32) (m_leftOver : Int32) (m_playDoor : Int32) (m_playRing : Int32) (m_isOpen : Int32) (m_isOver : Int32) (m_wasTried : Int32) (m_hasPlayed : Int32) (a_feltNow : Nat) (a_last : Nat) (a_kept : Nat) (m_hasSeconds : Int32) (m_hasTurned : Int32) (m_hasRound : Int32) (a_hasFeels : Nat) (a_isOn : Nat) (m_firstAct : Int32) (m_meanTop : Int64) (m_meanBy : Int64) (a_order : Nat) (m_rowMany : Int32) (m_newSteps : Int32) (g_tape : Nat → Int32) (a : Int32) (b : Int32) (hr_a : 0 ≤ a.toInt ∧ a.toInt ≤ 99) (hr_b : 0 ≤ b.toInt ∧ b.toInt ≤ 99) (hr_m_textEnd : 0 ≤ m_textEnd.toInt ∧ m_textEnd.toInt ≤ 900) (hr_m_at : 0 ≤ m_at.toInt ∧ m_at.toInt ≤ 900) (hr_m_behind : 0 ≤ m_behind.toInt ∧ m_behind.toInt ≤ 900) (hr_m_bad : 0 ≤ m_bad.toInt ∧ m_bad.toInt ≤ 9) (hr_m_token : 0 ≤ m_token.toInt ∧ m_token.toInt ≤ 4) (hr_m_number : 0 ≤ m_number.toInt ∧ m_number.toInt ≤ 9999) (hr_m_letters : 0 ≤ m_letters.toInt ∧ m_letters.toInt ≤ 900) : zCi l yX12_count cX12_count 4 (some .int) ({ frames := 2, cells := 0, slots := 0, locals := 42 }) G cA [.ref h0, .int a, .int b] [(h0, .inr (12, [.int m_status, .int m_thrown, .long m_above, .long m_under, .ref a_traySort, .ref a_trayMany, .ref a_numbers, .ref a_tape, .int m_taped, .int m_textEnd, .int m_faultKind, .int m_faultAt, .int m_bad, .int m_badAt, .int m_token, .int m_at, .int m_behind, .int m_number, .int m_letters, .long m_word, .ref a_c, .ref a_words, .int m_markMany, .ref a_there, .ref a_tried, .ref a_best, .ref a_found, .int m_thereMany, .int m_foundMany, .int m_orderHow, .int m_orderRing, .int m_orderMany, .int m_hasBest, .long m_bestTop, .long m_bestBy, .ref a_weights, .ref a_shared, .int m_random, .int m_truePlace, .int m_trueWay, .int m_seconds, .int m_done, .int m_feelings, .int m_tries, .int m_leftOver, .int m_playDoor, .int m_playRing, .int m_isOpen, .int m_isOver, .int m_wasTried, .int m_hasPlayed, .ref a_feltNow, .ref a_last, .ref a_kept, .int m_hasSeconds, .int m_hasTurned, .int m_hasRound, .ref a_hasFeels, .ref a_isOn, .int m_firstAct, .long m_meanTop, .long m_meanBy, .ref a_order, .int m_rowMany, .int m_newSteps])), (a_tape, .inl (cA.1 2, 900, .inl g_tape))] (S := Int32 × Int32 × Int32 × Int32 × Int32 × Int32 × Int32 × Int64) (fun (r : Int32) (u : Int32 × Int32 × Int32 × Int32 × Int32 × Int32 × Int32 × Int64) => (r = (F_r_count m_textEnd m_bad m_badAt m_token m_at m_behind m_number m_letters m_word g_tape a b).1) ∧ (u.1 = (F_r_count m_textEnd m_bad m_badAt m_token m_at m_behind m_number m_letters m_word g_tape a b).2.1) ∧ (u.2.1 = (F_r_count m_textEnd m_bad m_badAt m_token m_at m_behind m_number m_letters m_word g_tape a b).2.2.1) ∧ (u.2.2.1 = (F_r_count m_textEnd m_bad m_badAt m_token m_at m_behind m_number m_letters m_word g_tape a b).2.2.2.1) ∧ (u.2.2.2.1 = (F_r_count m_textEnd m_bad m_badAt m_token m_at m_behind m_number m_letters m_word g_tape a b).2.2.2.2.1) ∧ (u.2.2.2.2.1 = (F_r_count m_textEnd m_bad m_badAt m_token m_at m_behind m_number m_letters m_word g_tape a b).2.2.2.2.2.1) ∧ (u.2.2.2.2.2.1 = (F_r_count m_textEnd m_bad m_badAt m_token m_at m_behind m_number m_letters m_word g_tape a b).2.2.2.2.2.2.1) ∧ (u.2.2.2.2.2.2.1 = (F_r_count m_textEnd m_bad m_badAt m_token m_at m_behind m_number m_letters m_word g_tape a b).2.2.2.2.2.2.2.1) ∧ (u.2.2.2.2.2.2.2 = (F_r_count m_textEnd m_bad m_badAt m_token m_at m_behind m_number m_letters m_word g_tape a b).2.2.2.2.2.2.2.2) ∧ ((0 ≤ r.toInt ∧ r.toInt ≤ 99) ∧ (0 ≤ u.1.toInt ∧ u.1.toInt ≤ 9) ∧ (0 ≤ u.2.2.1.toInt ∧ u.2.2.1.toInt ≤ 4) ∧ (0 ≤ u.2.2.2.1.toInt ∧ u.2.2.2.1.toInt ≤ 900) ∧ (0 ≤ u.2.2.2.2.1.toInt ∧ u.2.2.2.2.1.toInt ≤ 900) ∧ (0 ≤ u.2.2.2.2.2.1.toInt ∧ u.2.2.2.2.2.1.toInt ≤ 9999) ∧ (0 ≤ u.2.2.2.2.2.2.1.toInt ∧ u.2.2.2.2.2.2.1.toInt ≤ 900) ∧ (m_behind.toInt ≤ u.2.2.2.2.1.toInt) ∧ (0 < m_bad.toInt → 0 < u.1.toInt) ∧ (u.1.toInt ≤ 0 → u.2.2.1.toInt = 0 ∨ m_behind.toInt < u.2.2.2.2.1.toInt) ∧ (u.1.toInt ≤ 0 → a.toInt ≤ r.toInt ∧ r.toInt ≤ b.toInt) ∧ (r.toInt ≤ b.toInt) ∧ (a.toInt ≤ r.toInt ∨ r.toInt = 0))) (fun (u : Int32 × Int32 × Int32 × Int32 × Int32 × Int32 × Int32 × Int64) => [(h0, .inr (12, [.int m_status, .int m_thrown, .long m_above, .long m_under, .ref a_traySort, .ref a_trayMany, .ref a_numbers, .ref a_tape, .int m_taped, .int m_textEnd, .int m_faultKind, .int m_faultAt, .int u.1, .int u.2.1, .int u.2.2.1, .int u.2.2.2.1, .int u.2.2.2.2.1, .int u.2.2.2.2.2.1, .int u.2.2.2.2.2.2.1, .long u.2.2.2.2.2.2.2, .ref a_c, .ref a_words, .int m_markMany, .ref a_there, .ref a_tried, .ref a_best, .ref a_found, .int m_thereMany, .int m_foundMany, .int m_orderHow, .int m_orderRing, .int m_orderMany, .int m_hasBest, .long m_bestTop, .long m_bestBy, .ref a_weights, .ref a_shared, .int m_random, .int m_truePlace, .int m_trueWay, .int m_seconds, .int m_done, .int m_feelings, .int m_tries, .int m_leftOver, .int m_playDoor, .int m_playRing, .int m_isOpen, .int m_isOver, .int m_wasTried, .int m_hasPlayed, .ref a_feltNow, .ref a_last, .ref a_kept, .int m_hasSeconds, .int m_hasTurned, .int m_hasRound, .ref a_hasFeels, .ref a_isOn, .int m_firstAct, .long m_meanTop, .long m_meanBy, .ref a_order, .int m_rowMany, .int m_newSteps])), (a_tape, .inl (cA.1 2, 900, .inl g_tape))]) 0 0 := by
  have hk_0 : (0 : Int32).toInt = 0 := by decide +kernel
  have hk_2 : (2 : Int32).toInt = 2 := by decide +kernel
  have hk_4 : (4 : Int32).toInt = 4 := by decide +kernel
  refine z_start2i (own := RX12) (by decide) (Nat.le_of_ble_eq_true rfl) rfl ?_
  intro p e s m args below meth c A ls Q hx hb hml hts hown hK hE hT hP hD hS hA hl hret
  have hl : lv_has ls 4 [(0, .ref h0), (1, .int a), (2, .int b)] := hl
  refine lv_aload_n hx hb dX12_count_0 rfl (lv_at hl 0 rfl) ?_
  refine va_get (D := G) (ci := 12) (v := .int m_bad) (C := RX12) (T := TX12) (N := 65) hx hb hts inT12 hown hK hP 0 rfl rfl 12 (by decide) (hts _ tw_1897) (fun _ h9 => h9) rfl dX12_count_1 ?_
  refine lv_if_ne (tgt := 19) hx hb dX12_count_4 (by decide) (fun c_1 => ?_) (fun c_1 => ?_)
  · have b_2 := z_fneT c_1
    refine lv_aload_n hx hb dX12_count_19 rfl (lv_at hl 0 rfl) ?_
    refine va_get (D := G) (ci := 12) (v := .int m_bad) (C := RX12) (T := TX12) (N := 65) hx hb hts inT12 hown hK hP 0 rfl rfl 12 (by decide) (hts _ tw_1897) (fun _ h9 => h9) rfl dX12_count_20 ?_
    refine lv_if_ne (tgt := 50) hx hb dX12_count_23 (by decide) (fun c_3 => ?_) (fun h9 => (z_no (by have h8 := z_feqF h9; omega)))
    have b_4 := z_fneT c_3
    refine lv_aload_n hx hb dX12_count_50 rfl (lv_at hl 0 rfl) ?_
    refine va_get (D := G) (ci := 12) (v := .int m_bad) (C := RX12) (T := TX12) (N := 65) hx hb hts inT12 hown hK hP 0 rfl rfl 12 (by decide) (hts _ tw_1897) (fun _ h9 => h9) rfl dX12_count_51 ?_
    refine lv_if_le (tgt := 59) hx hb dX12_count_54 (by decide) (fun h9 => (z_no (by have h8 := z_fleT h9; omega))) (fun c_5 => ?_)
    have b_6 := z_fgtF c_5
    refine lv_iconst (v := 0) hx hb dX12_count_57 (by decide) ?_
    have hpost : (0 ≤ (0 : Int32).toInt ∧ (0 : Int32).toInt ≤ 99) ∧ (0 ≤ m_bad.toInt ∧ m_bad.toInt ≤ 9) ∧ (0 ≤ m_token.toInt ∧ m_token.toInt ≤ 4) ∧ (0 ≤ m_at.toInt ∧ m_at.toInt ≤ 900) ∧ (0 ≤ m_behind.toInt ∧ m_behind.toInt ≤ 900) ∧ (0 ≤ m_number.toInt ∧ m_number.toInt ≤ 9999) ∧ (0 ≤ m_letters.toInt ∧ m_letters.toInt ≤ 900) ∧ (m_behind.toInt ≤ m_behind.toInt) ∧ (0 < m_bad.toInt → 0 < m_bad.toInt) ∧ (m_bad.toInt ≤ 0 → m_token.toInt = 0 ∨ m_behind.toInt < m_behind.toInt) ∧ (m_bad.toInt ≤ 0 → a.toInt ≤ (0 : Int32).toInt ∧ (0 : Int32).toInt ≤ b.toInt) ∧ ((0 : Int32).toInt ≤ b.toInt) ∧ (a.toInt ≤ (0 : Int32).toInt ∨ (0 : Int32).toInt = 0) := ⟨(by decide +kernel), hr_m_bad, hr_m_token, hr_m_at, hr_m_behind, hr_m_number, hr_m_letters, (by omega), (by omega), (by omega), (by omega), (by omega), (by omega)⟩
    have hX_7 : F_r_count m_textEnd m_bad m_badAt m_token m_at m_behind m_number m_letters m_word g_tape a b = (((0 : Int32), m_bad, m_badAt, m_token, m_at, m_behind, m_number, m_letters, m_word) : Int32 × Int32 × Int32 × Int32 × Int32 × Int32 × Int32 × Int32 × Int64) := by
      clear hret hP hD hS hl hA hT hE hK hts hown hml
      refine (F_r_count_s ..).trans ?_
      refine (if_neg c_1).trans ?_
      exact rfl
    exact hret _ _ _ _ _ _ (m_bad, m_badAt, m_token, m_at, m_behind, m_number, m_letters, m_word) [0, 1] hP hD hS rfl (by decide) dX12_count_58 ⟨(congrArg (fun z9 => z9.1) hX_7).symm, (congrArg (fun z9 => z9.2.1) hX_7).symm, (congrArg (fun z9 => z9.2.2.1) hX_7).symm, (congrArg (fun z9 => z9.2.2.2.1) hX_7).symm, (congrArg (fun z9 => z9.2.2.2.2.1) hX_7).symm, (congrArg (fun z9 => z9.2.2.2.2.2.1) hX_7).symm, (congrArg (fun z9 => z9.2.2.2.2.2.2.1) hX_7).symm, (congrArg (fun z9 => z9.2.2.2.2.2.2.2.1) hX_7).symm, (congrArg (fun z9 => z9.2.2.2.2.2.2.2.2) hX_7).symm, hpost⟩
  · have b_8 := z_feqF c_1
    refine lv_aload_n hx hb dX12_count_7 rfl (lv_at hl 0 rfl) ?_
    refine va_get (D := G) (ci := 12) (v := .int m_token) (C := RX12) (T := TX12) (N := 65) hx hb hts inT12 hown hK hP 0 rfl rfl 14 (by decide) (hts _ tw_1899) (fun _ h9 => h9) rfl dX12_count_8 ?_
    refine lv_iconst (v := 2) hx hb dX12_count_11 (by decide) ?_
    refine lv_icmp_eq (tgt := 19) hx hb dX12_count_12 (by decide) (fun c_9 => ?_) (fun c_9 => ?_)
    · have b_10 := z_feqT c_9
      refine lv_aload_n hx hb dX12_count_19 rfl (lv_at hl 0 rfl) ?_
      refine va_get (D := G) (ci := 12) (v := .int m_bad) (C := RX12) (T := TX12) (N := 65) hx hb hts inT12 hown hK hP 0 rfl rfl 12 (by decide) (hts _ tw_1897) (fun _ h9 => h9) rfl dX12_count_20 ?_
      refine lv_if_ne (tgt := 50) hx hb dX12_count_23 (by decide) (fun h9 => (z_no (by have h8 := z_fneT h9; omega))) (fun c_11 => ?_)
      have b_12 := z_feqF c_11
      refine lv_aload_n hx hb dX12_count_26 rfl (lv_at hl 0 rfl) ?_
      refine va_get (D := G) (ci := 12) (v := .int m_number) (C := RX12) (T := TX12) (N := 65) hx hb hts inT12 hown hK hP 0 rfl rfl 17 (by decide) (hts _ tw_1902) (fun _ h9 => h9) rfl dX12_count_27 ?_
      refine lv_i2l (v := (m_number).toInt64) hx hb dX12_count_30 rfl ?_
      refine lv_topl (fun x_13 he_x_13 => ?_)
      have hq_x_13 := z_i2l he_x_13
      refine lv_iload_n hx hb dX12_count_31 rfl (lv_at hl 1 rfl) ?_
      refine lv_i2l (v := (a).toInt64) hx hb dX12_count_32 rfl ?_
      refine lv_topl (fun x_14 he_x_14 => ?_)
      have hq_x_14 := z_i2l he_x_14
      refine lv_iload_n hx hb dX12_count_33 rfl (lv_at hl 2 rfl) ?_
      refine lv_i2l (v := (b).toInt64) hx hb dX12_count_34 rfl ?_
      refine lv_topl (fun x_15 he_x_15 => ?_)
      have hq_x_15 := z_i2l he_x_15
      refine z_callSi (As := [.long x_13, .long x_14, .long x_15]) (rest := []) (wr := [(h0, .inr (12, [.int m_status, .int m_thrown, .long m_above, .long m_under, .ref a_traySort, .ref a_trayMany, .ref a_numbers, .ref a_tape, .int m_taped, .int m_textEnd, .int m_faultKind, .int m_faultAt, .int m_bad, .int m_badAt, .int m_token, .int m_at, .int m_behind, .int m_number, .int m_letters, .long m_word, .ref a_c, .ref a_words, .int m_markMany, .ref a_there, .ref a_tried, .ref a_best, .ref a_found, .int m_thereMany, .int m_foundMany, .int m_orderHow, .int m_orderRing, .int m_orderMany, .int m_hasBest, .long m_bestTop, .long m_bestBy, .ref a_weights, .ref a_shared, .int m_random, .int m_truePlace, .int m_trueWay, .int m_seconds, .int m_done, .int m_feelings, .int m_tries, .int m_leftOver, .int m_playDoor, .int m_playRing, .int m_isOpen, .int m_isOver, .int m_wasTried, .int m_hasPlayed, .ref a_feltNow, .ref a_last, .ref a_kept, .int m_hasSeconds, .int m_hasTurned, .int m_hasRound, .ref a_hasFeels, .ref a_isOn, .int m_firstAct, .long m_meanTop, .long m_meanBy, .ref a_order, .int m_rowMany, .int m_newSteps])), (a_tape, .inl (cA.1 2, 900, .inl g_tape))]) ⟨hx, hb, hml, hown, hts⟩ hK hE hT hP hD hS hA (r_isIn l G cA x_13 x_14 x_15) lk_RX12_117 ⟨rfl, rfl⟩ ⟨Nat.le_of_ble_eq_true rfl, Nat.le_of_ble_eq_true rfl⟩ [] [0, 1] rfl rfl (by decide) rfl hl.1 rfl (lv_room (Nat.le_of_ble_eq_true rfl)) dX12_count_35 ⟨Nat.le_of_ble_eq_true rfl, Nat.le_of_ble_eq_true rfl⟩ (fun r_16 u_17 H locs hw hP hD hS => ?_)
      obtain ⟨he_r_16, hw⟩ := hw
      rcases hw with ⟨rfl, hf_19⟩ | ⟨rfl, hf_20⟩
      · skip
        refine lv_if_ne (tgt := 50) hx hb dX12_count_38 (by decide) (fun h9 => absurd (by decide +kernel) h9) (fun _ => ?_)
        refine lv_aload_n hx hb dX12_count_41 rfl (lv_at hl 0 rfl) ?_
        refine lv_iconst (v := 4) hx hb dX12_count_42 (by decide) ?_
        refine lv_aload_n hx hb dX12_count_43 rfl (lv_at hl 0 rfl) ?_
        refine va_get (D := G) (ci := 12) (v := .int m_at) (C := RX12) (T := TX12) (N := 65) hx hb hts inT12 hown hK hP 0 rfl rfl 15 (by decide) (hts _ tw_1900) (fun _ h9 => h9) rfl dX12_count_44 ?_
        refine z_callVv (As := [.int 4, .int m_at]) (rest := []) (wr := [(a_tape, .inl (cA.1 2, 900, .inl g_tape))]) ⟨hx, hb, hml, hown, hts⟩ hK hE hT hP hD hS hA (r_fail l G cA h0 m_status m_thrown m_above m_under a_traySort a_trayMany a_numbers a_tape m_taped m_textEnd m_faultKind m_faultAt m_bad m_badAt m_token m_at m_behind m_number m_letters m_word a_c a_words m_markMany a_there a_tried a_best a_found m_thereMany m_foundMany m_orderHow m_orderRing m_orderMany m_hasBest m_bestTop m_bestBy a_weights a_shared m_random m_truePlace m_trueWay m_seconds m_done m_feelings m_tries m_leftOver m_playDoor m_playRing m_isOpen m_isOver m_wasTried m_hasPlayed a_feltNow a_last a_kept m_hasSeconds m_hasTurned m_hasRound a_hasFeels a_isOn m_firstAct m_meanTop m_meanBy a_order m_rowMany m_newSteps 4 m_at (by decide +kernel) hr_m_bad) lk_RX12_180 ⟨rfl, rfl⟩ ⟨Nat.le_of_ble_eq_true rfl, Nat.le_of_ble_eq_true rfl⟩ 12 rfl rfl rfl [0] [1] rfl rfl (by decide) rfl hl.1 rfl (lv_room (Nat.le_of_ble_eq_true rfl)) dX12_count_47 ⟨Nat.le_of_ble_eq_true rfl, Nat.le_of_ble_eq_true rfl⟩ (fun u_24 H locs hw hP hD hS => ?_)
        obtain ⟨n_21, n_22⟩ := u_24
        try dsimp only at hw
        obtain ⟨he_n_21, he_n_22, hw⟩ := hw
        obtain ⟨hr_n_21, hf_26⟩ := hw
        refine lv_aload_n hx hb dX12_count_50 rfl (lv_at hl 0 rfl) ?_
        refine va_get (D := G) (ci := 12) (v := .int n_21) (C := RX12) (T := TX12) (N := 65) hx hb hts inT12 hown hK hP 1 rfl rfl 12 (by decide) (hts _ tw_1897) (fun _ h9 => h9) rfl dX12_count_51 ?_
        refine lv_if_le (tgt := 59) hx hb dX12_count_54 (by decide) (fun h9 => (z_no (by have h8 := z_fleT h9; omega))) (fun c_27 => ?_)
        have b_28 := z_fgtF c_27
        refine lv_iconst (v := 0) hx hb dX12_count_57 (by decide) ?_
        have hpost : (0 ≤ (0 : Int32).toInt ∧ (0 : Int32).toInt ≤ 99) ∧ (0 ≤ n_21.toInt ∧ n_21.toInt ≤ 9) ∧ (0 ≤ m_token.toInt ∧ m_token.toInt ≤ 4) ∧ (0 ≤ m_at.toInt ∧ m_at.toInt ≤ 900) ∧ (0 ≤ m_behind.toInt ∧ m_behind.toInt ≤ 900) ∧ (0 ≤ m_number.toInt ∧ m_number.toInt ≤ 9999) ∧ (0 ≤ m_letters.toInt ∧ m_letters.toInt ≤ 900) ∧ (m_behind.toInt ≤ m_behind.toInt) ∧ (0 < m_bad.toInt → 0 < n_21.toInt) ∧ (n_21.toInt ≤ 0 → m_token.toInt = 0 ∨ m_behind.toInt < m_behind.toInt) ∧ (n_21.toInt ≤ 0 → a.toInt ≤ (0 : Int32).toInt ∧ (0 : Int32).toInt ≤ b.toInt) ∧ ((0 : Int32).toInt ≤ b.toInt) ∧ (a.toInt ≤ (0 : Int32).toInt ∨ (0 : Int32).toInt = 0) := ⟨(by decide +kernel), (z_rgw hr_n_21 (by decide) (by decide)), hr_m_token, hr_m_at, hr_m_behind, hr_m_number, hr_m_letters, (by omega), (by omega), (by omega), (by omega), (by omega), (by omega)⟩
        have hX_29 : F_r_count m_textEnd m_bad m_badAt m_token m_at m_behind m_number m_letters m_word g_tape a b = (((0 : Int32), n_21, n_22, m_token, m_at, m_behind, m_number, m_letters, m_word) : Int32 × Int32 × Int32 × Int32 × Int32 × Int32 × Int32 × Int32 × Int64) := by
          clear hret hP hD hS hl hA hT hE hK hts hown hml
          subst he_x_13
          subst he_x_14
          subst he_x_15
          subst he_n_21
          subst he_n_22
          refine (F_r_count_s ..).trans ?_
          refine (if_pos c_1).trans ?_
          refine (if_pos c_9).trans ?_
          refine (if_pos he_r_16.symm).trans ?_
          exact rfl
        exact hret _ _ _ _ _ _ (n_21, n_22, m_token, m_at, m_behind, m_number, m_letters, m_word) [1, 0] hP hD hS rfl (by decide) dX12_count_58 ⟨(congrArg (fun z9 => z9.1) hX_29).symm, (congrArg (fun z9 => z9.2.1) hX_29).symm, (congrArg (fun z9 => z9.2.2.1) hX_29).symm, (congrArg (fun z9 => z9.2.2.2.1) hX_29).symm, (congrArg (fun z9 => z9.2.2.2.2.1) hX_29).symm, (congrArg (fun z9 => z9.2.2.2.2.2.1) hX_29).symm, (congrArg (fun z9 => z9.2.2.2.2.2.2.1) hX_29).symm, (congrArg (fun z9 => z9.2.2.2.2.2.2.2.1) hX_29).symm, (congrArg (fun z9 => z9.2.2.2.2.2.2.2.2) hX_29).symm, hpost⟩
      · skip
        refine lv_if_ne (tgt := 50) hx hb dX12_count_38 (by decide) (fun _ => ?_) (fun h9 => absurd h9 (by decide +kernel))
        refine lv_aload_n hx hb dX12_count_50 rfl (lv_at hl 0 rfl) ?_
        refine va_get (D := G) (ci := 12) (v := .int m_bad) (C := RX12) (T := TX12) (N := 65) hx hb hts inT12 hown hK hP 0 rfl rfl 12 (by decide) (hts _ tw_1897) (fun _ h9 => h9) rfl dX12_count_51 ?_
        refine lv_if_le (tgt := 59) hx hb dX12_count_54 (by decide) (fun c_30 => ?_) (fun h9 => (z_no (by have h8 := z_fgtF h9; omega)))
        have b_31 := z_fleT c_30
        refine lv_aload_n hx hb dX12_count_59 rfl (lv_at hl 0 rfl) ?_
        refine va_get (D := G) (ci := 12) (v := .int m_number) (C := RX12) (T := TX12) (N := 65) hx hb hts inT12 hown hK hP 0 rfl rfl 17 (by decide) (hts _ tw_1902) (fun _ h9 => h9) rfl dX12_count_60 ?_
        refine lv_istore_n (lv' := [(3, .int m_number), (0, .ref h0), (1, .int a), (2, .int b)]) hx hb dX12_count_63 rfl hl (by decide) rfl (fun ls hl => ?_)
        refine lv_aload_n hx hb dX12_count_64 rfl (lv_at hl 1 rfl) ?_
        refine z_callVv (As := []) (rest := []) (wr := []) ⟨hx, hb, hml, hown, hts⟩ hK hE hT hP hD hS hA (r_next2 l G cA h0 m_status m_thrown m_above m_under a_traySort a_trayMany a_numbers a_tape m_taped m_textEnd m_faultKind m_faultAt m_bad m_badAt m_token m_at m_behind m_number m_letters m_word a_c a_words m_markMany a_there a_tried a_best a_found m_thereMany m_foundMany m_orderHow m_orderRing m_orderMany m_hasBest m_bestTop m_bestBy a_weights a_shared m_random m_truePlace m_trueWay m_seconds m_done m_feelings m_tries m_leftOver m_playDoor m_playRing m_isOpen m_isOver m_wasTried m_hasPlayed a_feltNow a_last a_kept m_hasSeconds m_hasTurned m_hasRound a_hasFeels a_isOn m_firstAct m_meanTop m_meanBy a_order m_rowMany m_newSteps g_tape hr_m_textEnd hr_m_at hr_m_behind hr_m_token hr_m_number hr_m_letters) lk_RX12_184 ⟨rfl, rfl⟩ ⟨Nat.le_of_ble_eq_true rfl, Nat.le_of_ble_eq_true rfl⟩ 12 rfl rfl rfl [0, 1] [] rfl rfl (by decide) rfl hl.1 rfl (lv_room (Nat.le_of_ble_eq_true rfl)) dX12_count_65 ⟨Nat.le_of_ble_eq_true rfl, Nat.le_of_ble_eq_true rfl⟩ (fun u_39 H locs hw hP hD hS => ?_)
        obtain ⟨n_32, n_33, n_34, n_35, n_36, n_37⟩ := u_39
        try dsimp only at hw
        obtain ⟨he_n_32, he_n_33, he_n_34, he_n_35, he_n_36, he_n_37, hw⟩ := hw
        obtain ⟨hr_n_32, hr_n_33, hr_n_34, hr_n_35, hr_n_36, hf_41, hf_42⟩ := hw
        refine lv_iload_n hx hb dX12_count_68 rfl (lv_at hl 0 rfl) ?_
        have hpost : (0 ≤ m_number.toInt ∧ m_number.toInt ≤ 99) ∧ (0 ≤ m_bad.toInt ∧ m_bad.toInt ≤ 9) ∧ (0 ≤ n_32.toInt ∧ n_32.toInt ≤ 4) ∧ (0 ≤ n_33.toInt ∧ n_33.toInt ≤ 900) ∧ (0 ≤ n_34.toInt ∧ n_34.toInt ≤ 900) ∧ (0 ≤ n_35.toInt ∧ n_35.toInt ≤ 9999) ∧ (0 ≤ n_36.toInt ∧ n_36.toInt ≤ 900) ∧ (m_behind.toInt ≤ n_34.toInt) ∧ (0 < m_bad.toInt → 0 < m_bad.toInt) ∧ (m_bad.toInt ≤ 0 → n_32.toInt = 0 ∨ m_behind.toInt < n_34.toInt) ∧ (m_bad.toInt ≤ 0 → a.toInt ≤ m_number.toInt ∧ m_number.toInt ≤ b.toInt) ∧ (m_number.toInt ≤ b.toInt) ∧ (a.toInt ≤ m_number.toInt ∨ m_number.toInt = 0) := ⟨(by omega), hr_m_bad, hr_n_32, hr_n_33, hr_n_34, hr_n_35, hr_n_36, (by omega), (by omega), (by omega), (by omega), (by omega), (by omega)⟩
        have hX_43 : F_r_count m_textEnd m_bad m_badAt m_token m_at m_behind m_number m_letters m_word g_tape a b = ((m_number, m_bad, m_badAt, n_32, n_33, n_34, n_35, n_36, n_37) : Int32 × Int32 × Int32 × Int32 × Int32 × Int32 × Int32 × Int32 × Int64) := by
          clear hret hP hD hS hl hA hT hE hK hts hown hml
          subst he_x_13
          subst he_x_14
          subst he_x_15
          subst he_n_32
          subst he_n_33
          subst he_n_34
          subst he_n_35
          subst he_n_36
          subst he_n_37
          refine (F_r_count_s ..).trans ?_
          refine (if_pos c_1).trans ?_
          refine (if_pos c_9).trans ?_
          refine (if_neg (fun h9 => absurd (he_r_16.trans h9) (by decide))).trans ?_
          exact rfl
        exact hret _ _ _ _ _ _ (m_bad, m_badAt, n_32, n_33, n_34, n_35, n_36, n_37) [0, 1] hP hD hS rfl (by decide) dX12_count_69 ⟨(congrArg (fun z9 => z9.1) hX_43).symm, (congrArg (fun z9 => z9.2.1) hX_43).symm, (congrArg (fun z9 => z9.2.2.1) hX_43).symm, (congrArg (fun z9 => z9.2.2.2.1) hX_43).symm, (congrArg (fun z9 => z9.2.2.2.2.1) hX_43).symm, (congrArg (fun z9 => z9.2.2.2.2.2.1) hX_43).symm, (congrArg (fun z9 => z9.2.2.2.2.2.2.1) hX_43).symm, (congrArg (fun z9 => z9.2.2.2.2.2.2.2.1) hX_43).symm, (congrArg (fun z9 => z9.2.2.2.2.2.2.2.2) hX_43).symm, hpost⟩
    · have b_44 := z_fneF c_9
      refine lv_aload_n hx hb dX12_count_15 rfl (lv_at hl 0 rfl) ?_
      refine z_callVv (As := []) (rest := []) (wr := [(a_tape, .inl (cA.1 2, 900, .inl g_tape))]) ⟨hx, hb, hml, hown, hts⟩ hK hE hT hP hD hS hA (r_wrong l G cA h0 m_status m_thrown m_above m_under a_traySort a_trayMany a_numbers a_tape m_taped m_textEnd m_faultKind m_faultAt m_bad m_badAt m_token m_at m_behind m_number m_letters m_word a_c a_words m_markMany a_there a_tried a_best a_found m_thereMany m_foundMany m_orderHow m_orderRing m_orderMany m_hasBest m_bestTop m_bestBy a_weights a_shared m_random m_truePlace m_trueWay m_seconds m_done m_feelings m_tries m_leftOver m_playDoor m_playRing m_isOpen m_isOver m_wasTried m_hasPlayed a_feltNow a_last a_kept m_hasSeconds m_hasTurned m_hasRound a_hasFeels a_isOn m_firstAct m_meanTop m_meanBy a_order m_rowMany m_newSteps hr_m_at hr_m_bad hr_m_token) lk_RX12_187 ⟨rfl, rfl⟩ ⟨Nat.le_of_ble_eq_true rfl, Nat.le_of_ble_eq_true rfl⟩ 12 rfl rfl rfl [0] [1] rfl rfl (by decide) rfl hl.1 rfl (lv_room (Nat.le_of_ble_eq_true rfl)) dX12_count_16 ⟨Nat.le_of_ble_eq_true rfl, Nat.le_of_ble_eq_true rfl⟩ (fun u_48 H locs hw hP hD hS => ?_)
      obtain ⟨n_45, n_46⟩ := u_48
      try dsimp only at hw
      obtain ⟨he_n_45, he_n_46, hw⟩ := hw
      have hr_n_45 := hw
      refine lv_aload_n hx hb dX12_count_19 rfl (lv_at hl 0 rfl) ?_
      refine va_get (D := G) (ci := 12) (v := .int n_45) (C := RX12) (T := TX12) (N := 65) hx hb hts inT12 hown hK hP 1 rfl rfl 12 (by decide) (hts _ tw_1897) (fun _ h9 => h9) rfl dX12_count_20 ?_
      refine lv_if_ne (tgt := 50) hx hb dX12_count_23 (by decide) (fun c_50 => ?_) (fun h9 => (z_no (by have h8 := z_feqF h9; omega)))
      have b_51 := z_fneT c_50
      refine lv_aload_n hx hb dX12_count_50 rfl (lv_at hl 0 rfl) ?_
      refine va_get (D := G) (ci := 12) (v := .int n_45) (C := RX12) (T := TX12) (N := 65) hx hb hts inT12 hown hK hP 1 rfl rfl 12 (by decide) (hts _ tw_1897) (fun _ h9 => h9) rfl dX12_count_51 ?_
      refine lv_if_le (tgt := 59) hx hb dX12_count_54 (by decide) (fun h9 => (z_no (by have h8 := z_fleT h9; omega))) (fun c_52 => ?_)
      have b_53 := z_fgtF c_52
      refine lv_iconst (v := 0) hx hb dX12_count_57 (by decide) ?_
      have hpost : (0 ≤ (0 : Int32).toInt ∧ (0 : Int32).toInt ≤ 99) ∧ (0 ≤ n_45.toInt ∧ n_45.toInt ≤ 9) ∧ (0 ≤ m_token.toInt ∧ m_token.toInt ≤ 4) ∧ (0 ≤ m_at.toInt ∧ m_at.toInt ≤ 900) ∧ (0 ≤ m_behind.toInt ∧ m_behind.toInt ≤ 900) ∧ (0 ≤ m_number.toInt ∧ m_number.toInt ≤ 9999) ∧ (0 ≤ m_letters.toInt ∧ m_letters.toInt ≤ 900) ∧ (m_behind.toInt ≤ m_behind.toInt) ∧ (0 < m_bad.toInt → 0 < n_45.toInt) ∧ (n_45.toInt ≤ 0 → m_token.toInt = 0 ∨ m_behind.toInt < m_behind.toInt) ∧ (n_45.toInt ≤ 0 → a.toInt ≤ (0 : Int32).toInt ∧ (0 : Int32).toInt ≤ b.toInt) ∧ ((0 : Int32).toInt ≤ b.toInt) ∧ (a.toInt ≤ (0 : Int32).toInt ∨ (0 : Int32).toInt = 0) := ⟨(by decide +kernel), (z_rgw hr_n_45 (by decide) (by decide)), hr_m_token, hr_m_at, hr_m_behind, hr_m_number, hr_m_letters, (by omega), (by omega), (by omega), (by omega), (by omega), (by omega)⟩
      have hX_54 : F_r_count m_textEnd m_bad m_badAt m_token m_at m_behind m_number m_letters m_word g_tape a b = (((0 : Int32), n_45, n_46, m_token, m_at, m_behind, m_number, m_letters, m_word) : Int32 × Int32 × Int32 × Int32 × Int32 × Int32 × Int32 × Int32 × Int64) := by
        clear hret hP hD hS hl hA hT hE hK hts hown hml
        subst he_n_45
        subst he_n_46
        refine (F_r_count_s ..).trans ?_
        refine (if_pos c_1).trans ?_
        refine (if_neg c_9).trans ?_
        exact rfl
      exact hret _ _ _ _ _ _ (n_45, n_46, m_token, m_at, m_behind, m_number, m_letters, m_word) [1, 0] hP hD hS rfl (by decide) dX12_count_58 ⟨(congrArg (fun z9 => z9.1) hX_54).symm, (congrArg (fun z9 => z9.2.1) hX_54).symm, (congrArg (fun z9 => z9.2.2.1) hX_54).symm, (congrArg (fun z9 => z9.2.2.2.1) hX_54).symm, (congrArg (fun z9 => z9.2.2.2.2.1) hX_54).symm, (congrArg (fun z9 => z9.2.2.2.2.2.1) hX_54).symm, (congrArg (fun z9 => z9.2.2.2.2.2.2.1) hX_54).symm, (congrArg (fun z9 => z9.2.2.2.2.2.2.2.1) hX_54).symm, (congrArg (fun z9 => z9.2.2.2.2.2.2.2.2) hX_54).symm, hpost⟩
set_option maxHeartbeats 4000000 in
set_option maxRecDepth 100000 in
theorem r_layByte (l : Launch) (G : va_G) (cA : zCA) (h0 : Nat) (m_status : Int32) (m_thrown : Int32) (m_above : Int64) (m_under : Int64) (a_traySort : Nat) (a_trayMany : Nat) (a_numbers : Nat) (a_tape : Nat) (m_taped : Int32) (m_textEnd : Int32) (m_faultKind : Int32) (m_faultAt : Int32) (m_bad : Int32) (m_badAt : Int32) (m_token : Int32) (m_at : Int32) (m_behind : Int32) (m_number : Int32) (m_letters : Int32) (m_word : Int64) (a_c : Nat) (a_words : Nat) (m_markMany : Int32) (a_there : Nat) (a_tried : Nat) (a_best : Nat) (a_found : Nat) (m_thereMany : Int32) (m_foundMany : Int32) (m_orderHow : Int32) (m_orderRing : Int32) (m_orderMany : Int32) (m_hasBest : Int32) (m_bestTop : Int64) (m_bestBy : Int64) (a_weights : Nat) (a_shared : Nat) (m_random : Int32) (m_truePlace : Int32) (m_trueWay : Int32) (m_seconds : Int32) (m_done : Int32) (m_feelings : Int32) (m_tries : Int32) (m_leftOver : Int32) (m_playDoor : Int32) (m_playRing : Int32) (m_isOpen : Int32) (m_isOver : Int32) (m_wasTried : Int32) (m_hasPlayed : Int32) (a_feltNow : Nat) (a_last : Nat) (a_kept : Nat) (m_hasSeconds : Int32) (m_hasTurned : Int32) (m_hasRound : Int32) (a_hasFeels : Nat) (a_isOn : Nat) (m_firstAct : Int32) (m_meanTop : Int64) (m_meanBy : Int64) (a_order : Nat) (m_rowMany : Int32) (m_newSteps : Int32) (g_tape : Nat → Int32) (x : Int32) (hr_m_taped : 0 ≤ m_taped.toInt ∧ m_taped.toInt ≤ 896) : zCv l yX12_layByte cX12_layByte 3 none ({ frames := 0, cells := 0, slots := 0, locals := 0 }) G cA [.ref h0, .int x] [(h0, .inr (12, [.int m_status, .int m_thrown, .long m_above, .long m_under, .ref a_traySort, .ref a_trayMany, .ref a_numbers, .ref a_tape, .int m_taped, .int m_textEnd, .int m_faultKind, .int m_faultAt, .int m_bad, .int m_badAt, .int m_token, .int m_at, .int m_behind, .int m_number, .int m_letters, .long m_word, .ref a_c, .ref a_words, .int m_markMany, .ref a_there, .ref a_tried, .ref a_best, .ref a_found, .int m_thereMany, .int m_foundMany, .int m_orderHow, .int m_orderRing, .int m_orderMany, .int m_hasBest, .long m_bestTop, .long m_bestBy, .ref a_weights, .ref a_shared, .int m_random, .int m_truePlace, .int m_trueWay, .int m_seconds, .int m_done, .int m_feelings, .int m_tries, .int m_leftOver, .int m_playDoor, .int m_playRing, .int m_isOpen, .int m_isOver, .int m_wasTried, .int m_hasPlayed, .ref a_feltNow, .ref a_last, .ref a_kept, .int m_hasSeconds, .int m_hasTurned, .int m_hasRound, .ref a_hasFeels, .ref a_isOn, .int m_firstAct, .long m_meanTop, .long m_meanBy, .ref a_order, .int m_rowMany, .int m_newSteps])), (a_tape, .inl (cA.1 2, 900, .inl g_tape))] (S := Int32 × (Nat → Int32)) (fun (u : Int32 × (Nat → Int32)) => (u.1 = (F_r_layByte m_taped g_tape x).1) ∧ (u.2 = (F_r_layByte m_taped g_tape x).2) ∧ ((0 ≤ u.1.toInt ∧ u.1.toInt ≤ 900) ∧ (u.1.toInt = m_taped.toInt + 4))) (fun (u : Int32 × (Nat → Int32)) => [(h0, .inr (12, [.int m_status, .int m_thrown, .long m_above, .long m_under, .ref a_traySort, .ref a_trayMany, .ref a_numbers, .ref a_tape, .int u.1, .int m_textEnd, .int m_faultKind, .int m_faultAt, .int m_bad, .int m_badAt, .int m_token, .int m_at, .int m_behind, .int m_number, .int m_letters, .long m_word, .ref a_c, .ref a_words, .int m_markMany, .ref a_there, .ref a_tried, .ref a_best, .ref a_found, .int m_thereMany, .int m_foundMany, .int m_orderHow, .int m_orderRing, .int m_orderMany, .int m_hasBest, .long m_bestTop, .long m_bestBy, .ref a_weights, .ref a_shared, .int m_random, .int m_truePlace, .int m_trueWay, .int m_seconds, .int m_done, .int m_feelings, .int m_tries, .int m_leftOver, .int m_playDoor, .int m_playRing, .int m_isOpen, .int m_isOver, .int m_wasTried, .int m_hasPlayed, .ref a_feltNow, .ref a_last, .ref a_kept, .int m_hasSeconds, .int m_hasTurned, .int m_hasRound, .ref a_hasFeels, .ref a_isOn, .int m_firstAct, .long m_meanTop, .long m_meanBy, .ref a_order, .int m_rowMany, .int m_newSteps])), (a_tape, .inl (cA.1 2, 900, .inl u.2))]) 0 0 := by
  have hk_m1 : ((-1) : Int32).toInt = (-1) := by decide +kernel
  have hk_0 : (0 : Int32).toInt = 0 := by decide +kernel
  have hk_1 : (1 : Int32).toInt = 1 := by decide +kernel
  have hk_3 : (3 : Int32).toInt = 3 := by decide +kernel
  have hk_8 : (8 : Int32).toInt = 8 := by decide +kernel
  refine z_start2v (own := RX12) (by decide) (Nat.le_of_ble_eq_true rfl) rfl ?_
  intro p e s m args below meth c A ls Q hx hb hml hts hown hK hE hT hP hD hS hA hl hret
  have hl : lv_has ls 3 [(0, .ref h0), (1, .int x)] := hl
  refine lv_iconst (v := 3) hx hb dX12_layByte_0 (by decide) ?_
  refine lv_istore_n (lv' := [(2, .int 3), (0, .ref h0), (1, .int x)]) hx hb dX12_layByte_1 rfl hl (by decide) rfl (fun ls hl => ?_)
  have hlp_79 : ∀ (n_L2a : Nat) (v_55 : Int32) (v_56 : Int32) (g_57 : Nat → Int32) (H : Heap) (locs : List Loc) (ls : Array Slot), (v_55.toInt + 2147483648).toNat < n_L2a → ((-1) ≤ v_55.toInt ∧ v_55.toInt ≤ 3) → (0 ≤ v_56.toInt ∧ v_56.toInt ≤ 900) → (v_56.toInt + v_55.toInt = m_taped.toInt + 3) → (F_r_layByte m_taped g_tape x = F_r_layByte_L2a x n_L2a v_55 v_56 g_57) → va_P G vwCl [(h0, .inr (12, [.int m_status, .int m_thrown, .long m_above, .long m_under, .ref a_traySort, .ref a_trayMany, .ref a_numbers, .ref a_tape, .int v_56, .int m_textEnd, .int m_faultKind, .int m_faultAt, .int m_bad, .int m_badAt, .int m_token, .int m_at, .int m_behind, .int m_number, .int m_letters, .long m_word, .ref a_c, .ref a_words, .int m_markMany, .ref a_there, .ref a_tried, .ref a_best, .ref a_found, .int m_thereMany, .int m_foundMany, .int m_orderHow, .int m_orderRing, .int m_orderMany, .int m_hasBest, .long m_bestTop, .long m_bestBy, .ref a_weights, .ref a_shared, .int m_random, .int m_truePlace, .int m_trueWay, .int m_seconds, .int m_done, .int m_feelings, .int m_tries, .int m_leftOver, .int m_playDoor, .int m_playRing, .int m_isOpen, .int m_isOver, .int m_wasTried, .int m_hasPlayed, .ref a_feltNow, .ref a_last, .ref a_kept, .int m_hasSeconds, .int m_hasTurned, .int m_hasRound, .ref a_hasFeels, .ref a_isOn, .int m_firstAct, .long m_meanTop, .long m_meanBy, .ref a_order, .int m_rowMany, .int m_newSteps])), (a_tape, .inl (cA.1 2, 900, .inl g_57))] H → va_D A [(h0, .inr (12, [.int m_status, .int m_thrown, .long m_above, .long m_under, .ref a_traySort, .ref a_trayMany, .ref a_numbers, .ref a_tape, .int v_56, .int m_textEnd, .int m_faultKind, .int m_faultAt, .int m_bad, .int m_badAt, .int m_token, .int m_at, .int m_behind, .int m_number, .int m_letters, .long m_word, .ref a_c, .ref a_words, .int m_markMany, .ref a_there, .ref a_tried, .ref a_best, .ref a_found, .int m_thereMany, .int m_foundMany, .int m_orderHow, .int m_orderRing, .int m_orderMany, .int m_hasBest, .long m_bestTop, .long m_bestBy, .ref a_weights, .ref a_shared, .int m_random, .int m_truePlace, .int m_trueWay, .int m_seconds, .int m_done, .int m_feelings, .int m_tries, .int m_leftOver, .int m_playDoor, .int m_playRing, .int m_isOpen, .int m_isOver, .int m_wasTried, .int m_hasPlayed, .ref a_feltNow, .ref a_last, .ref a_kept, .int m_hasSeconds, .int m_hasTurned, .int m_hasRound, .ref a_hasFeels, .ref a_isOn, .int m_firstAct, .long m_meanTop, .long m_meanBy, .ref a_order, .int m_rowMany, .int m_newSteps])), (a_tape, .inl (cA.1 2, 900, .inl g_57))] → va_S A s.heap H locs → lv_has ls 3 [(0, .ref h0), (1, .int x), (2, .int v_55)] → W p l e ({ frames := 0, cells := 0, slots := 0, locals := 0 }) s m args below meth c H locs 0 0 Q (F0 m 2 ls []) := by
    intro n_L2a
    induction n_L2a with
    | zero =>
      intro v_55 v_56 g_57 H locs ls hmu_hlp_79 hr_v_55 hr_v_56 hi_68 hF_L2a hP hD hS hl
      exact absurd hmu_hlp_79 (Nat.not_lt_zero _)
    | succ n_L2a ih_80 =>
      intro v_55 v_56 g_57 H locs ls hmu_hlp_79 hr_v_55 hr_v_56 hi_68 hF_L2a hP hD hS hl
      refine lv_iload_n hx hb dX12_layByte_2 rfl (lv_at hl 2 rfl) ?_
      refine lv_if_lt (tgt := 38) hx hb dX12_layByte_3 (by decide) (fun c_81 => ?_) (fun c_81 => ?_)
      · have b_82 := z_fltT c_81
        have hpost : (0 ≤ v_56.toInt ∧ v_56.toInt ≤ 900) ∧ (v_56.toInt = m_taped.toInt + 4) := ⟨hr_v_56, (by omega)⟩
        have hX_83 : F_r_layByte m_taped g_tape x = ((v_56, g_57) : Int32 × (Nat → Int32)) := by
          clear hret hP hD hS hl hA hT hE hK hts hown hml
          refine hF_L2a.trans ?_
          refine (F_r_layByte_L2a_s ..).trans ?_
          refine (if_pos c_81).trans ?_
          exact rfl
        exact hret _ _ _ _ _ (v_56, g_57) [0, 1] hP hD hS rfl (by decide) dX12_layByte_38 ⟨(congrArg (fun z9 => z9.1) hX_83).symm, (congrArg (fun z9 => z9.2) hX_83).symm, hpost⟩
      · have b_84 := z_fgeF c_81
        refine lv_aload_n hx hb dX12_layByte_6 rfl (lv_at hl 0 rfl) ?_
        refine va_get (D := G) (ci := 12) (v := .ref a_tape) (C := RX12) (T := TX12) (N := 65) hx hb hts inT12 hown hK hP 0 rfl rfl 7 (by decide) (hts _ tw_1892) (fun _ h9 => h9) rfl dX12_layByte_7 ?_
        refine lv_aload_n hx hb dX12_layByte_10 rfl (lv_at hl 0 rfl) ?_
        refine va_get (D := G) (ci := 12) (v := .int v_56) (C := RX12) (T := TX12) (N := 65) hx hb hts inT12 hown hK hP 0 rfl rfl 8 (by decide) (hts _ tw_1893) (fun _ h9 => h9) rfl dX12_layByte_11 ?_
        refine lv_iload_n hx hb dX12_layByte_14 rfl (lv_at hl 1 rfl) ?_
        refine lv_bipush (v := 8) hx hb dX12_layByte_15 (by decide) ?_
        refine lv_iload_n hx hb dX12_layByte_17 rfl (lv_at hl 2 rfl) ?_
        refine lv_imul hx hb dX12_layByte_18 ?_
        refine lv_topi (fun x_85 he_x_85 => ?_)
        have hq_x_85 := z_mulq he_x_85 hk_8 (rfl : v_55.toInt = _) (by omega) (by omega)
        refine lv_ishr hx hb dX12_layByte_19 ?_
        have hL_x := z_full x
        refine lv_topi (fun x_86 he_x_86 => ?_)
        refine lv_i2b (v := (x_86).toInt8.toInt32) hx hb dX12_layByte_20 rfl ?_
        refine lv_topi (fun x_87 he_x_87 => ?_)
        refine z_bast hx hb hK hP hD hS 1 2 rfl rfl (z_inN (by omega) (by omega)) dX12_layByte_21 (fun g_88 hg_g_88 H locs hP hD hS => ?_)
        have hn_k_89 : 0 ≤ v_56.toInt ∧ v_56.toInt ≤ 899 := by omega
        refine lv_aload_n hx hb dX12_layByte_22 rfl (lv_at hl 0 rfl) ?_
        refine lv_dup hx hb dX12_layByte_23 rfl ?_
        refine va_get (D := G) (ci := 12) (v := .int v_56) (C := RX12) (T := TX12) (N := 65) hx hb hts inT12 hown hK hP 0 rfl rfl 8 (by decide) (hts _ tw_1893) (fun _ h9 => h9) rfl dX12_layByte_24 ?_
        refine lv_iconst (v := 1) hx hb dX12_layByte_27 (by decide) ?_
        refine lv_iadd hx hb dX12_layByte_28 ?_
        refine lv_topi (fun x_90 he_x_90 => ?_)
        have hq_x_90 := z_addq he_x_90 (rfl : v_56.toInt = _) hk_1 (by omega) (by omega)
        refine va_put (D := G) (ci := 12) (v := .int x_90) (ty := .int) (C := RX12) (T := TX12) (N := 65) hx hb hts inT12 tyX12 tyX12_ok nmX12 hown hK hP hD hS 0 rfl rfl 8 (by decide) (hts _ tw_1893) (fun _ h9 => h9) rfl (tyX12_ok 8 (by decide)) rfl rfl (Nat.le_of_ble_eq_true rfl) dX12_layByte_29 (fun H locs hP hD hS => ?_)
        obtain ⟨x_91, he_x_91⟩ : ∃ z : Int32, z = v_55 + (-1) := ⟨_, rfl⟩
        have hq_x_91 := z_addq he_x_91 (rfl : v_55.toInt = _) hk_m1 (by omega) (by omega)
        refine lv_iinc (v := x_91) (lv' := [(2, .int x_91), (0, .ref h0), (1, .int x)]) hx hb dX12_layByte_32 hl (k := 2) rfl ((z_ofi (by decide +kernel)).trans he_x_91.symm) (by decide) rfl (fun ls hl => ?_)
        refine lv_goto (tgt := 2) hx hb dX12_layByte_35 (by decide) ?_
        have hX_92 : F_r_layByte m_taped g_tape x = F_r_layByte_L2a x n_L2a x_91 x_90 g_88 := by
          clear hret hP hD hS hl hA hT hE hK hts hown hml
          subst he_x_85
          subst he_x_86
          subst he_x_87
          subst hg_g_88
          subst he_x_90
          subst he_x_91
          refine hF_L2a.trans ?_
          refine (F_r_layByte_L2a_s ..).trans ?_
          refine (if_neg c_81).trans ?_
          exact rfl
        exact ih_80 x_91 x_90 g_88 H locs ls (by omega) (by omega) (by omega) (by omega) hX_92 hP hD hS (lv_sub hl [1, 2, 0] rfl)
  have hX_93 : F_r_layByte m_taped g_tape x = F_r_layByte_L2a x (((3 : Int32).toInt + 2147483648).toNat + 1) (3 : Int32) m_taped g_tape := by
    clear hret hP hD hS hl hA hT hE hK hts hown hml
    refine (F_r_layByte_s ..).trans ?_
    exact rfl
  exact hlp_79 (((3 : Int32).toInt + 2147483648).toNat + 1) 3 m_taped g_tape _ _ _ (Nat.lt_succ_self _) (by decide +kernel) (z_rgw hr_m_taped (by decide) (by decide)) (by omega) hX_93 hP hD hS (lv_sub hl [1, 2, 0] rfl)
def zFd (a r b : Int32) : Prop := (a.toInt ≤ 880 ∧ r.toInt = a.toInt + 20 ∧ b.toInt = a.toInt + 20) ∨ (880 < a.toInt ∧ r.toInt = -1 ∧ b.toInt = a.toInt)
def zHs (L : Int) (a n b : Int32) : Prop := ((n.toInt < 0 ∨ a.toInt < n.toInt ∨ L < n.toInt) ∧ b.toInt = a.toInt) ∨ (0 ≤ n.toInt ∧ n.toInt ≤ a.toInt ∧ n.toInt ≤ L ∧ b.toInt = 0)
theorem zFd_fn {a r b r2 b2 : Int32} (h : zFd a r b) (h2 : zFd a r2 b2) : r = r2 ∧ b = b2 := by
  unfold zFd at h h2
  exact ⟨Int32.toInt_inj.mp (by omega), Int32.toInt_inj.mp (by omega)⟩
theorem zHs_fn {L : Int} {a n b b2 : Int32} (h : zHs L a n b) (h2 : zHs L a n b2) : True ∧ b = b2 := by
  unfold zHs at h h2
  exact ⟨trivial, Int32.toInt_inj.mp (by omega)⟩
set_option maxHeartbeats 4000000 in
set_option maxRecDepth 100000 in
theorem r_feed (l : Launch) (G : va_G) (cA : zCA) (h0 : Nat) (m_status : Int32) (m_thrown : Int32) (m_above : Int64) (m_under : Int64) (a_traySort : Nat) (a_trayMany : Nat) (a_numbers : Nat) (a_tape : Nat) (m_taped : Int32) (m_textEnd : Int32) (m_faultKind : Int32) (m_faultAt : Int32) (m_bad : Int32) (m_badAt : Int32) (m_token : Int32) (m_at : Int32) (m_behind : Int32) (m_number : Int32) (m_letters : Int32) (m_word : Int64) (a_c : Nat) (a_words : Nat) (m_markMany : Int32) (a_there : Nat) (a_tried : Nat) (a_best : Nat) (a_found : Nat) (m_thereMany : Int32) (m_foundMany : Int32) (m_orderHow : Int32) (m_orderRing : Int32) (m_orderMany : Int32) (m_hasBest : Int32) (m_bestTop : Int64) (m_bestBy : Int64) (a_weights : Nat) (a_shared : Nat) (m_random : Int32) (m_truePlace : Int32) (m_trueWay : Int32) (m_seconds : Int32) (m_done : Int32) (m_feelings : Int32) (m_tries : Int32) (m_leftOver : Int32) (m_playDoor : Int32) (m_playRing : Int32) (m_isOpen : Int32) (m_isOver : Int32) (m_wasTried : Int32) (m_hasPlayed : Int32) (a_feltNow : Nat) (a_last : Nat) (a_kept : Nat) (m_hasSeconds : Int32) (m_hasTurned : Int32) (m_hasRound : Int32) (a_hasFeels : Nat) (a_isOn : Nat) (m_firstAct : Int32) (m_meanTop : Int64) (m_meanBy : Int64) (a_order : Nat) (m_rowMany : Int32) (m_newSteps : Int32) (g_tape : Nat → Int32) (x0 : Int32) (x1 : Int32) (x2 : Int32) (x3 : Int32) (x4 : Int32) (hr_m_taped : 0 ≤ m_taped.toInt ∧ m_taped.toInt ≤ 900) : zCi l yX12_feed cX12_feed 6 (some .int) ({ frames := 1, cells := 0, slots := 0, locals := 22 }) G cA [.ref h0, .int x0, .int x1, .int x2, .int x3, .int x4] [(h0, .inr (12, [.int m_status, .int m_thrown, .long m_above, .long m_under, .ref a_traySort, .ref a_trayMany, .ref a_numbers, .ref a_tape, .int m_taped, .int m_textEnd, .int m_faultKind, .int m_faultAt, .int m_bad, .int m_badAt, .int m_token, .int m_at, .int m_behind, .int m_number, .int m_letters, .long m_word, .ref a_c, .ref a_words, .int m_markMany, .ref a_there, .ref a_tried, .ref a_best, .ref a_found, .int m_thereMany, .int m_foundMany, .int m_orderHow, .int m_orderRing, .int m_orderMany, .int m_hasBest, .long m_bestTop, .long m_bestBy, .ref a_weights, .ref a_shared, .int m_random, .int m_truePlace, .int m_trueWay, .int m_seconds, .int m_done, .int m_feelings, .int m_tries, .int m_leftOver, .int m_playDoor, .int m_playRing, .int m_isOpen, .int m_isOver, .int m_wasTried, .int m_hasPlayed, .ref a_feltNow, .ref a_last, .ref a_kept, .int m_hasSeconds, .int m_hasTurned, .int m_hasRound, .ref a_hasFeels, .ref a_isOn, .int m_firstAct, .long m_meanTop, .long m_meanBy, .ref a_order, .int m_rowMany, .int m_newSteps])), (a_tape, .inl (cA.1 2, 900, .inl g_tape))] (S := Int32 × Int32 × (Nat → Int32)) (fun (r : Int32) (u : Int32 × Int32 × (Nat → Int32)) => (r = (F_r_feed m_taped g_tape x0 x1 x2 x3 x4).1) ∧ (u.1 = (F_r_feed m_taped g_tape x0 x1 x2 x3 x4).2.1) ∧ (u.2.1 = (F_r_feed m_taped g_tape x0 x1 x2 x3 x4).2.2.1) ∧ (u.2.2 = (F_r_feed m_taped g_tape x0 x1 x2 x3 x4).2.2.2) ∧ (((-1) ≤ r.toInt ∧ r.toInt ≤ 900) ∧ (0 ≤ u.1.toInt ∧ u.1.toInt ≤ 0) ∧ (20 ≤ u.2.1.toInt ∧ u.2.1.toInt ≤ 900) ∧ (zFd m_taped r u.2.1))) (fun (u : Int32 × Int32 × (Nat → Int32)) => [(h0, .inr (12, [.int m_status, .int u.1, .long m_above, .long m_under, .ref a_traySort, .ref a_trayMany, .ref a_numbers, .ref a_tape, .int u.2.1, .int m_textEnd, .int m_faultKind, .int m_faultAt, .int m_bad, .int m_badAt, .int m_token, .int m_at, .int m_behind, .int m_number, .int m_letters, .long m_word, .ref a_c, .ref a_words, .int m_markMany, .ref a_there, .ref a_tried, .ref a_best, .ref a_found, .int m_thereMany, .int m_foundMany, .int m_orderHow, .int m_orderRing, .int m_orderMany, .int m_hasBest, .long m_bestTop, .long m_bestBy, .ref a_weights, .ref a_shared, .int m_random, .int m_truePlace, .int m_trueWay, .int m_seconds, .int m_done, .int m_feelings, .int m_tries, .int m_leftOver, .int m_playDoor, .int m_playRing, .int m_isOpen, .int m_isOver, .int m_wasTried, .int m_hasPlayed, .ref a_feltNow, .ref a_last, .ref a_kept, .int m_hasSeconds, .int m_hasTurned, .int m_hasRound, .ref a_hasFeels, .ref a_isOn, .int m_firstAct, .long m_meanTop, .long m_meanBy, .ref a_order, .int m_rowMany, .int m_newSteps])), (a_tape, .inl (cA.1 2, 900, .inl u.2.2))]) 0 0 := by
  have hk_m1 : ((-1) : Int32).toInt = (-1) := by decide +kernel
  have hk_20 : (20 : Int32).toInt = 20 := by decide +kernel
  have hk_900 : (900 : Int32).toInt = 900 := by decide +kernel
  refine z_start2i (own := RX12) (by decide) (Nat.le_of_ble_eq_true rfl) rfl ?_
  intro p e s m args below meth c A ls Q hx hb hml hts hown hK hE hT hP hD hS hA hl hret
  have hl : lv_has ls 6 [(0, .ref h0), (1, .int x0), (2, .int x1), (3, .int x2), (4, .int x3), (5, .int x4)] := hl
  refine lv_aload_n hx hb dX12_feed_0 rfl (lv_at hl 0 rfl) ?_
  refine lv_iconst (v := 0) hx hb dX12_feed_1 (by decide) ?_
  refine va_put (D := G) (ci := 12) (v := .int 0) (ty := .int) (C := RX12) (T := TX12) (N := 65) hx hb hts inT12 tyX12 tyX12_ok nmX12 hown hK hP hD hS 0 rfl rfl 1 (by decide) (hts _ tw_1886) (fun _ h9 => h9) rfl (tyX12_ok 1 (by decide)) rfl rfl (Nat.le_of_ble_eq_true rfl) dX12_feed_2 (fun H locs hP hD hS => ?_)
  refine lv_aload_n hx hb dX12_feed_5 rfl (lv_at hl 0 rfl) ?_
  refine va_get (D := G) (ci := 12) (v := .int m_taped) (C := RX12) (T := TX12) (N := 65) hx hb hts inT12 hown hK hP 0 rfl rfl 8 (by decide) (hts _ tw_1893) (fun _ h9 => h9) rfl dX12_feed_6 ?_
  refine lv_bipush (v := 20) hx hb dX12_feed_9 (by decide) ?_
  refine lv_iadd hx hb dX12_feed_11 ?_
  refine lv_topi (fun x_1 he_x_1 => ?_)
  have hq_x_1 := z_addq he_x_1 (rfl : m_taped.toInt = _) hk_20 (by omega) (by omega)
  refine lv_sipush (v := 900) hx hb dX12_feed_12 (by decide) ?_
  refine lv_icmp_le (tgt := 20) hx hb dX12_feed_15 (by decide) (fun c_2 => ?_) (fun c_2 => ?_)
  · have b_3 := z_fleT c_2
    refine lv_aload_n hx hb dX12_feed_20 rfl (lv_at hl 0 rfl) ?_
    refine lv_iload_n hx hb dX12_feed_21 rfl (lv_at hl 1 rfl) ?_
    refine z_callVv (As := [.int x0]) (rest := []) (wr := []) ⟨hx, hb, hml, hown, hts⟩ hK hE hT hP hD hS hA (r_layByte l G cA h0 m_status 0 m_above m_under a_traySort a_trayMany a_numbers a_tape m_taped m_textEnd m_faultKind m_faultAt m_bad m_badAt m_token m_at m_behind m_number m_letters m_word a_c a_words m_markMany a_there a_tried a_best a_found m_thereMany m_foundMany m_orderHow m_orderRing m_orderMany m_hasBest m_bestTop m_bestBy a_weights a_shared m_random m_truePlace m_trueWay m_seconds m_done m_feelings m_tries m_leftOver m_playDoor m_playRing m_isOpen m_isOver m_wasTried m_hasPlayed a_feltNow a_last a_kept m_hasSeconds m_hasTurned m_hasRound a_hasFeels a_isOn m_firstAct m_meanTop m_meanBy a_order m_rowMany m_newSteps g_tape x0 (by omega)) lk_RX12_193 ⟨rfl, rfl⟩ ⟨Nat.le_of_ble_eq_true rfl, Nat.le_of_ble_eq_true rfl⟩ 12 rfl rfl rfl [0, 1] [] rfl rfl (by decide) rfl hl.1 rfl (lv_room (Nat.le_of_ble_eq_true rfl)) dX12_feed_22 ⟨Nat.le_of_ble_eq_true rfl, Nat.le_of_ble_eq_true rfl⟩ (fun u_7 H locs hw hP hD hS => ?_)
    obtain ⟨n_4, n_5⟩ := u_7
    try dsimp only at hw
    obtain ⟨he_n_4, he_n_5, hw⟩ := hw
    obtain ⟨hr_n_4, hf_9⟩ := hw
    refine lv_aload_n hx hb dX12_feed_25 rfl (lv_at hl 0 rfl) ?_
    refine lv_iload_n hx hb dX12_feed_26 rfl (lv_at hl 2 rfl) ?_
    refine z_callVv (As := [.int x1]) (rest := []) (wr := []) ⟨hx, hb, hml, hown, hts⟩ hK hE hT hP hD hS hA (r_layByte l G cA h0 m_status 0 m_above m_under a_traySort a_trayMany a_numbers a_tape n_4 m_textEnd m_faultKind m_faultAt m_bad m_badAt m_token m_at m_behind m_number m_letters m_word a_c a_words m_markMany a_there a_tried a_best a_found m_thereMany m_foundMany m_orderHow m_orderRing m_orderMany m_hasBest m_bestTop m_bestBy a_weights a_shared m_random m_truePlace m_trueWay m_seconds m_done m_feelings m_tries m_leftOver m_playDoor m_playRing m_isOpen m_isOver m_wasTried m_hasPlayed a_feltNow a_last a_kept m_hasSeconds m_hasTurned m_hasRound a_hasFeels a_isOn m_firstAct m_meanTop m_meanBy a_order m_rowMany m_newSteps n_5 x1 (by omega)) lk_RX12_193 ⟨rfl, rfl⟩ ⟨Nat.le_of_ble_eq_true rfl, Nat.le_of_ble_eq_true rfl⟩ 12 rfl rfl rfl [0, 1] [] rfl rfl (by decide) rfl hl.1 rfl (lv_room (Nat.le_of_ble_eq_true rfl)) dX12_feed_27 ⟨Nat.le_of_ble_eq_true rfl, Nat.le_of_ble_eq_true rfl⟩ (fun u_13 H locs hw hP hD hS => ?_)
    obtain ⟨n_10, n_11⟩ := u_13
    try dsimp only at hw
    obtain ⟨he_n_10, he_n_11, hw⟩ := hw
    obtain ⟨hr_n_10, hf_15⟩ := hw
    refine lv_aload_n hx hb dX12_feed_30 rfl (lv_at hl 0 rfl) ?_
    refine lv_iload_n hx hb dX12_feed_31 rfl (lv_at hl 3 rfl) ?_
    refine z_callVv (As := [.int x2]) (rest := []) (wr := []) ⟨hx, hb, hml, hown, hts⟩ hK hE hT hP hD hS hA (r_layByte l G cA h0 m_status 0 m_above m_under a_traySort a_trayMany a_numbers a_tape n_10 m_textEnd m_faultKind m_faultAt m_bad m_badAt m_token m_at m_behind m_number m_letters m_word a_c a_words m_markMany a_there a_tried a_best a_found m_thereMany m_foundMany m_orderHow m_orderRing m_orderMany m_hasBest m_bestTop m_bestBy a_weights a_shared m_random m_truePlace m_trueWay m_seconds m_done m_feelings m_tries m_leftOver m_playDoor m_playRing m_isOpen m_isOver m_wasTried m_hasPlayed a_feltNow a_last a_kept m_hasSeconds m_hasTurned m_hasRound a_hasFeels a_isOn m_firstAct m_meanTop m_meanBy a_order m_rowMany m_newSteps n_11 x2 (by omega)) lk_RX12_193 ⟨rfl, rfl⟩ ⟨Nat.le_of_ble_eq_true rfl, Nat.le_of_ble_eq_true rfl⟩ 12 rfl rfl rfl [0, 1] [] rfl rfl (by decide) rfl hl.1 rfl (lv_room (Nat.le_of_ble_eq_true rfl)) dX12_feed_32 ⟨Nat.le_of_ble_eq_true rfl, Nat.le_of_ble_eq_true rfl⟩ (fun u_19 H locs hw hP hD hS => ?_)
    obtain ⟨n_16, n_17⟩ := u_19
    try dsimp only at hw
    obtain ⟨he_n_16, he_n_17, hw⟩ := hw
    obtain ⟨hr_n_16, hf_21⟩ := hw
    refine lv_aload_n hx hb dX12_feed_35 rfl (lv_at hl 0 rfl) ?_
    refine lv_iload hx hb dX12_feed_36 (lv_at hl 4 rfl) ?_
    refine z_callVv (As := [.int x3]) (rest := []) (wr := []) ⟨hx, hb, hml, hown, hts⟩ hK hE hT hP hD hS hA (r_layByte l G cA h0 m_status 0 m_above m_under a_traySort a_trayMany a_numbers a_tape n_16 m_textEnd m_faultKind m_faultAt m_bad m_badAt m_token m_at m_behind m_number m_letters m_word a_c a_words m_markMany a_there a_tried a_best a_found m_thereMany m_foundMany m_orderHow m_orderRing m_orderMany m_hasBest m_bestTop m_bestBy a_weights a_shared m_random m_truePlace m_trueWay m_seconds m_done m_feelings m_tries m_leftOver m_playDoor m_playRing m_isOpen m_isOver m_wasTried m_hasPlayed a_feltNow a_last a_kept m_hasSeconds m_hasTurned m_hasRound a_hasFeels a_isOn m_firstAct m_meanTop m_meanBy a_order m_rowMany m_newSteps n_17 x3 (by omega)) lk_RX12_193 ⟨rfl, rfl⟩ ⟨Nat.le_of_ble_eq_true rfl, Nat.le_of_ble_eq_true rfl⟩ 12 rfl rfl rfl [0, 1] [] rfl rfl (by decide) rfl hl.1 rfl (lv_room (Nat.le_of_ble_eq_true rfl)) dX12_feed_38 ⟨Nat.le_of_ble_eq_true rfl, Nat.le_of_ble_eq_true rfl⟩ (fun u_25 H locs hw hP hD hS => ?_)
    obtain ⟨n_22, n_23⟩ := u_25
    try dsimp only at hw
    obtain ⟨he_n_22, he_n_23, hw⟩ := hw
    obtain ⟨hr_n_22, hf_27⟩ := hw
    refine lv_aload_n hx hb dX12_feed_41 rfl (lv_at hl 0 rfl) ?_
    refine lv_iload hx hb dX12_feed_42 (lv_at hl 5 rfl) ?_
    refine z_callVv (As := [.int x4]) (rest := []) (wr := []) ⟨hx, hb, hml, hown, hts⟩ hK hE hT hP hD hS hA (r_layByte l G cA h0 m_status 0 m_above m_under a_traySort a_trayMany a_numbers a_tape n_22 m_textEnd m_faultKind m_faultAt m_bad m_badAt m_token m_at m_behind m_number m_letters m_word a_c a_words m_markMany a_there a_tried a_best a_found m_thereMany m_foundMany m_orderHow m_orderRing m_orderMany m_hasBest m_bestTop m_bestBy a_weights a_shared m_random m_truePlace m_trueWay m_seconds m_done m_feelings m_tries m_leftOver m_playDoor m_playRing m_isOpen m_isOver m_wasTried m_hasPlayed a_feltNow a_last a_kept m_hasSeconds m_hasTurned m_hasRound a_hasFeels a_isOn m_firstAct m_meanTop m_meanBy a_order m_rowMany m_newSteps n_23 x4 (by omega)) lk_RX12_193 ⟨rfl, rfl⟩ ⟨Nat.le_of_ble_eq_true rfl, Nat.le_of_ble_eq_true rfl⟩ 12 rfl rfl rfl [0, 1] [] rfl rfl (by decide) rfl hl.1 rfl (lv_room (Nat.le_of_ble_eq_true rfl)) dX12_feed_44 ⟨Nat.le_of_ble_eq_true rfl, Nat.le_of_ble_eq_true rfl⟩ (fun u_31 H locs hw hP hD hS => ?_)
    obtain ⟨n_28, n_29⟩ := u_31
    try dsimp only at hw
    obtain ⟨he_n_28, he_n_29, hw⟩ := hw
    obtain ⟨hr_n_28, hf_33⟩ := hw
    refine lv_aload_n hx hb dX12_feed_47 rfl (lv_at hl 0 rfl) ?_
    refine va_get (D := G) (ci := 12) (v := .int n_28) (C := RX12) (T := TX12) (N := 65) hx hb hts inT12 hown hK hP 0 rfl rfl 8 (by decide) (hts _ tw_1893) (fun _ h9 => h9) rfl dX12_feed_48 ?_
    have hpost : ((-1) ≤ n_28.toInt ∧ n_28.toInt ≤ 900) ∧ (0 ≤ (0 : Int32).toInt ∧ (0 : Int32).toInt ≤ 0) ∧ (20 ≤ n_28.toInt ∧ n_28.toInt ≤ 900) ∧ (zFd m_taped n_28 n_28) := ⟨(z_rgw hr_n_28 (by decide) (by decide)), (by decide +kernel), (by omega), (by unfold zFd; omega)⟩
    have hX_34 : F_r_feed m_taped g_tape x0 x1 x2 x3 x4 = ((n_28, (0 : Int32), n_28, n_29) : Int32 × Int32 × Int32 × (Nat → Int32)) := by
      clear hret hP hD hS hl hA hT hE hK hts hown hml
      subst he_x_1
      subst he_n_4
      subst he_n_5
      subst he_n_10
      subst he_n_11
      subst he_n_16
      subst he_n_17
      subst he_n_22
      subst he_n_23
      subst he_n_28
      subst he_n_29
      refine (F_r_feed_s ..).trans ?_
      refine (if_pos c_2).trans ?_
      exact rfl
    exact hret _ _ _ _ _ _ (0, n_28, n_29) [0, 1] hP hD hS rfl (by decide) dX12_feed_51 ⟨(congrArg (fun z9 => z9.1) hX_34).symm, (congrArg (fun z9 => z9.2.1) hX_34).symm, (congrArg (fun z9 => z9.2.2.1) hX_34).symm, (congrArg (fun z9 => z9.2.2.2) hX_34).symm, hpost⟩
  · have b_35 := z_fgtF c_2
    refine lv_iconst (v := (-1)) hx hb dX12_feed_18 (by decide) ?_
    have hpost : ((-1) ≤ ((-1) : Int32).toInt ∧ ((-1) : Int32).toInt ≤ 900) ∧ (0 ≤ (0 : Int32).toInt ∧ (0 : Int32).toInt ≤ 0) ∧ (20 ≤ m_taped.toInt ∧ m_taped.toInt ≤ 900) ∧ (zFd m_taped ((-1) : Int32) m_taped) := ⟨(by decide +kernel), (by decide +kernel), (by omega), (by unfold zFd; omega)⟩
    have hX_36 : F_r_feed m_taped g_tape x0 x1 x2 x3 x4 = (((-1 : Int32), (0 : Int32), m_taped, g_tape) : Int32 × Int32 × Int32 × (Nat → Int32)) := by
      clear hret hP hD hS hl hA hT hE hK hts hown hml
      subst he_x_1
      refine (F_r_feed_s ..).trans ?_
      refine (if_neg c_2).trans ?_
      exact rfl
    exact hret _ _ _ _ _ _ (0, m_taped, g_tape) [0, 1] hP hD hS rfl (by decide) dX12_feed_19 ⟨(congrArg (fun z9 => z9.1) hX_36).symm, (congrArg (fun z9 => z9.2.1) hX_36).symm, (congrArg (fun z9 => z9.2.2.1) hX_36).symm, (congrArg (fun z9 => z9.2.2.2) hX_36).symm, hpost⟩
set_option maxHeartbeats 4000000 in
set_option maxRecDepth 100000 in
theorem r_begins_900 (l : Launch) (G : va_G) (cA : zCA) (h0 : Nat) (m_status : Int32) (m_thrown : Int32) (m_above : Int64) (m_under : Int64) (a_traySort : Nat) (a_trayMany : Nat) (a_numbers : Nat) (a_tape : Nat) (m_taped : Int32) (m_textEnd : Int32) (m_faultKind : Int32) (m_faultAt : Int32) (m_bad : Int32) (m_badAt : Int32) (m_token : Int32) (m_at : Int32) (m_behind : Int32) (m_number : Int32) (m_letters : Int32) (m_word : Int64) (a_c : Nat) (a_words : Nat) (m_markMany : Int32) (a_there : Nat) (a_tried : Nat) (a_best : Nat) (a_found : Nat) (m_thereMany : Int32) (m_foundMany : Int32) (m_orderHow : Int32) (m_orderRing : Int32) (m_orderMany : Int32) (m_hasBest : Int32) (m_bestTop : Int64) (m_bestBy : Int64) (a_weights : Nat) (a_shared : Nat) (m_random : Int32) (m_truePlace : Int32) (m_trueWay : Int32) (m_seconds : Int32) (m_done : Int32) (m_feelings : Int32) (m_tries : Int32) (m_leftOver : Int32) (m_playDoor : Int32) (m_playRing : Int32) (m_isOpen : Int32) (m_isOver : Int32) (m_wasTried : Int32) (m_hasPlayed : Int32) (a_feltNow : Nat) (a_last : Nat) (a_kept : Nat) (m_hasSeconds : Int32) (m_hasTurned : Int32) (m_hasRound : Int32) (a_hasFeels : Nat) (a_isOn : Nat) (m_firstAct : Int32) (m_meanTop : Int64) (m_meanBy : Int64) (a_order : Nat) (m_rowMany : Int32) (m_newSteps : Int32) (g_tape : Nat → Int32) (nn : Int32) (hr_m_taped : 0 ≤ m_taped.toInt ∧ m_taped.toInt ≤ 900) (hr_m_textEnd : 0 ≤ m_textEnd.toInt ∧ m_textEnd.toInt ≤ 900) (hr_m_at : 0 ≤ m_at.toInt ∧ m_at.toInt ≤ 900) (hr_m_behind : 0 ≤ m_behind.toInt ∧ m_behind.toInt ≤ 900) (hr_m_bad : 0 ≤ m_bad.toInt ∧ m_bad.toInt ≤ 9) (hr_m_token : 0 ≤ m_token.toInt ∧ m_token.toInt ≤ 4) (hr_m_number : 0 ≤ m_number.toInt ∧ m_number.toInt ≤ 9999) (hr_m_letters : 0 ≤ m_letters.toInt ∧ m_letters.toInt ≤ 900) : zCi l yX12_begins cX12_begins 3 (some .boolean) ({ frames := 2, cells := 0, slots := 0, locals := 42 }) G cA [.ref h0, .int nn, .int 900] [(h0, .inr (12, [.int m_status, .int m_thrown, .long m_above, .long m_under, .ref a_traySort, .ref a_trayMany, .ref a_numbers, .ref a_tape, .int m_taped, .int m_textEnd, .int m_faultKind, .int m_faultAt, .int m_bad, .int m_badAt, .int m_token, .int m_at, .int m_behind, .int m_number, .int m_letters, .long m_word, .ref a_c, .ref a_words, .int m_markMany, .ref a_there, .ref a_tried, .ref a_best, .ref a_found, .int m_thereMany, .int m_foundMany, .int m_orderHow, .int m_orderRing, .int m_orderMany, .int m_hasBest, .long m_bestTop, .long m_bestBy, .ref a_weights, .ref a_shared, .int m_random, .int m_truePlace, .int m_trueWay, .int m_seconds, .int m_done, .int m_feelings, .int m_tries, .int m_leftOver, .int m_playDoor, .int m_playRing, .int m_isOpen, .int m_isOver, .int m_wasTried, .int m_hasPlayed, .ref a_feltNow, .ref a_last, .ref a_kept, .int m_hasSeconds, .int m_hasTurned, .int m_hasRound, .ref a_hasFeels, .ref a_isOn, .int m_firstAct, .long m_meanTop, .long m_meanBy, .ref a_order, .int m_rowMany, .int m_newSteps])), (a_tape, .inl (cA.1 2, 900, .inl g_tape))] (S := Int32 × Int32 × Int32 × Int32 × Int32 × Int32 × Int32 × Int32 × Int32 × Int64) (fun (r : Int32) (u : Int32 × Int32 × Int32 × Int32 × Int32 × Int32 × Int32 × Int32 × Int32 × Int64) => (r = (F_r_begins_900 m_status m_taped m_textEnd m_bad m_token m_at m_behind m_number m_letters m_word g_tape nn).1) ∧ (u.1 = (F_r_begins_900 m_status m_taped m_textEnd m_bad m_token m_at m_behind m_number m_letters m_word g_tape nn).2.1) ∧ (u.2.1 = (F_r_begins_900 m_status m_taped m_textEnd m_bad m_token m_at m_behind m_number m_letters m_word g_tape nn).2.2.1) ∧ (u.2.2.1 = (F_r_begins_900 m_status m_taped m_textEnd m_bad m_token m_at m_behind m_number m_letters m_word g_tape nn).2.2.2.1) ∧ (u.2.2.2.1 = (F_r_begins_900 m_status m_taped m_textEnd m_bad m_token m_at m_behind m_number m_letters m_word g_tape nn).2.2.2.2.1) ∧ (u.2.2.2.2.1 = (F_r_begins_900 m_status m_taped m_textEnd m_bad m_token m_at m_behind m_number m_letters m_word g_tape nn).2.2.2.2.2.1) ∧ (u.2.2.2.2.2.1 = (F_r_begins_900 m_status m_taped m_textEnd m_bad m_token m_at m_behind m_number m_letters m_word g_tape nn).2.2.2.2.2.2.1) ∧ (u.2.2.2.2.2.2.1 = (F_r_begins_900 m_status m_taped m_textEnd m_bad m_token m_at m_behind m_number m_letters m_word g_tape nn).2.2.2.2.2.2.2.1) ∧ (u.2.2.2.2.2.2.2.1 = (F_r_begins_900 m_status m_taped m_textEnd m_bad m_token m_at m_behind m_number m_letters m_word g_tape nn).2.2.2.2.2.2.2.2.1) ∧ (u.2.2.2.2.2.2.2.2.1 = (F_r_begins_900 m_status m_taped m_textEnd m_bad m_token m_at m_behind m_number m_letters m_word g_tape nn).2.2.2.2.2.2.2.2.2.1) ∧ (u.2.2.2.2.2.2.2.2.2 = (F_r_begins_900 m_status m_taped m_textEnd m_bad m_token m_at m_behind m_number m_letters m_word g_tape nn).2.2.2.2.2.2.2.2.2.2) ∧ ((r = 0 ∧ (0 ≤ u.2.1.toInt ∧ u.2.1.toInt ≤ 900) ∧ (0 ≤ u.2.2.1.toInt ∧ u.2.2.1.toInt ≤ 900) ∧ (0 ≤ u.2.2.2.1.toInt ∧ u.2.2.2.1.toInt ≤ 9) ∧ (0 ≤ u.2.2.2.2.1.toInt ∧ u.2.2.2.2.1.toInt ≤ 4) ∧ (0 ≤ u.2.2.2.2.2.1.toInt ∧ u.2.2.2.2.2.1.toInt ≤ 900) ∧ (0 ≤ u.2.2.2.2.2.2.1.toInt ∧ u.2.2.2.2.2.2.1.toInt ≤ 900) ∧ (0 ≤ u.2.2.2.2.2.2.2.1.toInt ∧ u.2.2.2.2.2.2.2.1.toInt ≤ 9999) ∧ (0 ≤ u.2.2.2.2.2.2.2.2.1.toInt ∧ u.2.2.2.2.2.2.2.2.1.toInt ≤ 900) ∧ (nn.toInt < 0 ∨ m_taped.toInt < nn.toInt ∨ 900 < nn.toInt) ∧ (u.2.1.toInt = m_taped.toInt)) ∨ (r = 1 ∧ (0 ≤ u.2.1.toInt ∧ u.2.1.toInt ≤ 0) ∧ (0 ≤ u.2.2.1.toInt ∧ u.2.2.1.toInt ≤ 900) ∧ (0 ≤ u.2.2.2.1.toInt ∧ u.2.2.2.1.toInt ≤ 0) ∧ (0 ≤ u.2.2.2.2.1.toInt ∧ u.2.2.2.2.1.toInt ≤ 4) ∧ (0 ≤ u.2.2.2.2.2.1.toInt ∧ u.2.2.2.2.2.1.toInt ≤ 900) ∧ (0 ≤ u.2.2.2.2.2.2.1.toInt ∧ u.2.2.2.2.2.2.1.toInt ≤ 900) ∧ (0 ≤ u.2.2.2.2.2.2.2.1.toInt ∧ u.2.2.2.2.2.2.2.1.toInt ≤ 9999) ∧ (0 ≤ u.2.2.2.2.2.2.2.2.1.toInt ∧ u.2.2.2.2.2.2.2.2.1.toInt ≤ 900) ∧ (0 ≤ nn.toInt ∧ nn.toInt ≤ m_taped.toInt ∧ nn.toInt ≤ 900) ∧ (u.2.1.toInt = 0)))) (fun (u : Int32 × Int32 × Int32 × Int32 × Int32 × Int32 × Int32 × Int32 × Int32 × Int64) => [(h0, .inr (12, [.int u.1, .int m_thrown, .long m_above, .long m_under, .ref a_traySort, .ref a_trayMany, .ref a_numbers, .ref a_tape, .int u.2.1, .int u.2.2.1, .int m_faultKind, .int m_faultAt, .int u.2.2.2.1, .int m_badAt, .int u.2.2.2.2.1, .int u.2.2.2.2.2.1, .int u.2.2.2.2.2.2.1, .int u.2.2.2.2.2.2.2.1, .int u.2.2.2.2.2.2.2.2.1, .long u.2.2.2.2.2.2.2.2.2, .ref a_c, .ref a_words, .int m_markMany, .ref a_there, .ref a_tried, .ref a_best, .ref a_found, .int m_thereMany, .int m_foundMany, .int m_orderHow, .int m_orderRing, .int m_orderMany, .int m_hasBest, .long m_bestTop, .long m_bestBy, .ref a_weights, .ref a_shared, .int m_random, .int m_truePlace, .int m_trueWay, .int m_seconds, .int m_done, .int m_feelings, .int m_tries, .int m_leftOver, .int m_playDoor, .int m_playRing, .int m_isOpen, .int m_isOver, .int m_wasTried, .int m_hasPlayed, .ref a_feltNow, .ref a_last, .ref a_kept, .int m_hasSeconds, .int m_hasTurned, .int m_hasRound, .ref a_hasFeels, .ref a_isOn, .int m_firstAct, .long m_meanTop, .long m_meanBy, .ref a_order, .int m_rowMany, .int m_newSteps])), (a_tape, .inl (cA.1 2, 900, .inl g_tape))]) 0 0 := by
  have hk_0 : (0 : Int32).toInt = 0 := by decide +kernel
  have hk_5 : (5 : Int32).toInt = 5 := by decide +kernel
  have hk_900 : (900 : Int32).toInt = 900 := by decide +kernel
  refine z_start2z (own := RX12) (by decide) (Nat.le_of_ble_eq_true rfl) rfl ?_
  intro p e s m args below meth c A ls Q hx hb hml hts hown hK hE hT hP hD hS hA hl hret
  have hl : lv_has ls 3 [(0, .ref h0), (1, .int nn), (2, .int 900)] := hl
  refine lv_iload_n hx hb dX12_begins_0 rfl (lv_at hl 1 rfl) ?_
  refine lv_if_lt (tgt := 17) hx hb dX12_begins_1 (by decide) (fun c_1 => ?_) (fun c_1 => ?_)
  · have b_2 := z_fltT c_1
    refine lv_aload_n hx hb dX12_begins_17 rfl (lv_at hl 0 rfl) ?_
    refine lv_iconst (v := 5) hx hb dX12_begins_18 (by decide) ?_
    refine z_callVi (As := [.int 5]) (rest := []) (wr := [(a_tape, .inl (cA.1 2, 900, .inl g_tape))]) ⟨hx, hb, hml, hown, hts⟩ hK hE hT hP hD hS hA (r_no l G cA h0 m_status m_thrown m_above m_under a_traySort a_trayMany a_numbers a_tape m_taped m_textEnd m_faultKind m_faultAt m_bad m_badAt m_token m_at m_behind m_number m_letters m_word a_c a_words m_markMany a_there a_tried a_best a_found m_thereMany m_foundMany m_orderHow m_orderRing m_orderMany m_hasBest m_bestTop m_bestBy a_weights a_shared m_random m_truePlace m_trueWay m_seconds m_done m_feelings m_tries m_leftOver m_playDoor m_playRing m_isOpen m_isOver m_wasTried m_hasPlayed a_feltNow a_last a_kept m_hasSeconds m_hasTurned m_hasRound a_hasFeels a_isOn m_firstAct m_meanTop m_meanBy a_order m_rowMany m_newSteps 5) lk_RX12_97 ⟨rfl, rfl⟩ ⟨Nat.le_of_ble_eq_true rfl, Nat.le_of_ble_eq_true rfl⟩ 12 rfl rfl rfl [0] [1] rfl rfl (by decide) rfl hl.1 rfl (lv_room (Nat.le_of_ble_eq_true rfl)) dX12_begins_19 ⟨Nat.le_of_ble_eq_true rfl, Nat.le_of_ble_eq_true rfl⟩ (fun r_4 u_5 H locs hw hP hD hS => ?_)
    obtain ⟨n_3, rfl⟩ : ∃ z, z = u_5 := ⟨_, rfl⟩
    obtain ⟨he_r_4, he_n_3, hw⟩ := hw
    obtain ⟨rfl, -⟩ := hw
    have hpost : ((0 : Int32) = 0 ∧ (0 ≤ m_taped.toInt ∧ m_taped.toInt ≤ 900) ∧ (0 ≤ m_textEnd.toInt ∧ m_textEnd.toInt ≤ 900) ∧ (0 ≤ m_bad.toInt ∧ m_bad.toInt ≤ 9) ∧ (0 ≤ m_token.toInt ∧ m_token.toInt ≤ 4) ∧ (0 ≤ m_at.toInt ∧ m_at.toInt ≤ 900) ∧ (0 ≤ m_behind.toInt ∧ m_behind.toInt ≤ 900) ∧ (0 ≤ m_number.toInt ∧ m_number.toInt ≤ 9999) ∧ (0 ≤ m_letters.toInt ∧ m_letters.toInt ≤ 900) ∧ (nn.toInt < 0 ∨ m_taped.toInt < nn.toInt ∨ 900 < nn.toInt) ∧ (m_taped.toInt = m_taped.toInt)) ∨ ((0 : Int32) = 1 ∧ (0 ≤ m_taped.toInt ∧ m_taped.toInt ≤ 0) ∧ (0 ≤ m_textEnd.toInt ∧ m_textEnd.toInt ≤ 900) ∧ (0 ≤ m_bad.toInt ∧ m_bad.toInt ≤ 0) ∧ (0 ≤ m_token.toInt ∧ m_token.toInt ≤ 4) ∧ (0 ≤ m_at.toInt ∧ m_at.toInt ≤ 900) ∧ (0 ≤ m_behind.toInt ∧ m_behind.toInt ≤ 900) ∧ (0 ≤ m_number.toInt ∧ m_number.toInt ≤ 9999) ∧ (0 ≤ m_letters.toInt ∧ m_letters.toInt ≤ 900) ∧ (0 ≤ nn.toInt ∧ nn.toInt ≤ m_taped.toInt ∧ nn.toInt ≤ 900) ∧ (m_taped.toInt = 0)) := (Or.inl ⟨rfl, ⟨hr_m_taped, hr_m_textEnd, hr_m_bad, hr_m_token, hr_m_at, hr_m_behind, hr_m_number, hr_m_letters, (by omega), (by omega)⟩⟩)
    have hX_7 : F_r_begins_900 m_status m_taped m_textEnd m_bad m_token m_at m_behind m_number m_letters m_word g_tape nn = (((0 : Int32), n_3, m_taped, m_textEnd, m_bad, m_token, m_at, m_behind, m_number, m_letters, m_word) : Int32 × Int32 × Int32 × Int32 × Int32 × Int32 × Int32 × Int32 × Int32 × Int32 × Int64) := by
      clear hret hP hD hS hl hA hT hE hK hts hown hml
      subst he_n_3
      refine (F_r_begins_900_s ..).trans ?_
      refine (if_pos c_1).trans ?_
      exact rfl
    exact hret _ _ _ _ _ _ (n_3, m_taped, m_textEnd, m_bad, m_token, m_at, m_behind, m_number, m_letters, m_word) [1, 0] hP hD hS rfl (by decide) dX12_begins_22 (Or.inl rfl) ⟨(congrArg (fun z9 => z9.1) hX_7).symm, (congrArg (fun z9 => z9.2.1) hX_7).symm, (congrArg (fun z9 => z9.2.2.1) hX_7).symm, (congrArg (fun z9 => z9.2.2.2.1) hX_7).symm, (congrArg (fun z9 => z9.2.2.2.2.1) hX_7).symm, (congrArg (fun z9 => z9.2.2.2.2.2.1) hX_7).symm, (congrArg (fun z9 => z9.2.2.2.2.2.2.1) hX_7).symm, (congrArg (fun z9 => z9.2.2.2.2.2.2.2.1) hX_7).symm, (congrArg (fun z9 => z9.2.2.2.2.2.2.2.2.1) hX_7).symm, (congrArg (fun z9 => z9.2.2.2.2.2.2.2.2.2.1) hX_7).symm, (congrArg (fun z9 => z9.2.2.2.2.2.2.2.2.2.2) hX_7).symm, hpost⟩
  · have b_8 := z_fgeF c_1
    refine lv_iload_n hx hb dX12_begins_4 rfl (lv_at hl 1 rfl) ?_
    refine lv_aload_n hx hb dX12_begins_5 rfl (lv_at hl 0 rfl) ?_
    refine va_get (D := G) (ci := 12) (v := .int m_taped) (C := RX12) (T := TX12) (N := 65) hx hb hts inT12 hown hK hP 0 rfl rfl 8 (by decide) (hts _ tw_1893) (fun _ h9 => h9) rfl dX12_begins_6 ?_
    refine lv_icmp_gt (tgt := 17) hx hb dX12_begins_9 (by decide) (fun c_9 => ?_) (fun c_9 => ?_)
    · have b_10 := z_fgtT c_9
      refine lv_aload_n hx hb dX12_begins_17 rfl (lv_at hl 0 rfl) ?_
      refine lv_iconst (v := 5) hx hb dX12_begins_18 (by decide) ?_
      refine z_callVi (As := [.int 5]) (rest := []) (wr := [(a_tape, .inl (cA.1 2, 900, .inl g_tape))]) ⟨hx, hb, hml, hown, hts⟩ hK hE hT hP hD hS hA (r_no l G cA h0 m_status m_thrown m_above m_under a_traySort a_trayMany a_numbers a_tape m_taped m_textEnd m_faultKind m_faultAt m_bad m_badAt m_token m_at m_behind m_number m_letters m_word a_c a_words m_markMany a_there a_tried a_best a_found m_thereMany m_foundMany m_orderHow m_orderRing m_orderMany m_hasBest m_bestTop m_bestBy a_weights a_shared m_random m_truePlace m_trueWay m_seconds m_done m_feelings m_tries m_leftOver m_playDoor m_playRing m_isOpen m_isOver m_wasTried m_hasPlayed a_feltNow a_last a_kept m_hasSeconds m_hasTurned m_hasRound a_hasFeels a_isOn m_firstAct m_meanTop m_meanBy a_order m_rowMany m_newSteps 5) lk_RX12_97 ⟨rfl, rfl⟩ ⟨Nat.le_of_ble_eq_true rfl, Nat.le_of_ble_eq_true rfl⟩ 12 rfl rfl rfl [0] [1] rfl rfl (by decide) rfl hl.1 rfl (lv_room (Nat.le_of_ble_eq_true rfl)) dX12_begins_19 ⟨Nat.le_of_ble_eq_true rfl, Nat.le_of_ble_eq_true rfl⟩ (fun r_12 u_13 H locs hw hP hD hS => ?_)
      obtain ⟨n_11, rfl⟩ : ∃ z, z = u_13 := ⟨_, rfl⟩
      obtain ⟨he_r_12, he_n_11, hw⟩ := hw
      obtain ⟨rfl, -⟩ := hw
      have hpost : ((0 : Int32) = 0 ∧ (0 ≤ m_taped.toInt ∧ m_taped.toInt ≤ 900) ∧ (0 ≤ m_textEnd.toInt ∧ m_textEnd.toInt ≤ 900) ∧ (0 ≤ m_bad.toInt ∧ m_bad.toInt ≤ 9) ∧ (0 ≤ m_token.toInt ∧ m_token.toInt ≤ 4) ∧ (0 ≤ m_at.toInt ∧ m_at.toInt ≤ 900) ∧ (0 ≤ m_behind.toInt ∧ m_behind.toInt ≤ 900) ∧ (0 ≤ m_number.toInt ∧ m_number.toInt ≤ 9999) ∧ (0 ≤ m_letters.toInt ∧ m_letters.toInt ≤ 900) ∧ (nn.toInt < 0 ∨ m_taped.toInt < nn.toInt ∨ 900 < nn.toInt) ∧ (m_taped.toInt = m_taped.toInt)) ∨ ((0 : Int32) = 1 ∧ (0 ≤ m_taped.toInt ∧ m_taped.toInt ≤ 0) ∧ (0 ≤ m_textEnd.toInt ∧ m_textEnd.toInt ≤ 900) ∧ (0 ≤ m_bad.toInt ∧ m_bad.toInt ≤ 0) ∧ (0 ≤ m_token.toInt ∧ m_token.toInt ≤ 4) ∧ (0 ≤ m_at.toInt ∧ m_at.toInt ≤ 900) ∧ (0 ≤ m_behind.toInt ∧ m_behind.toInt ≤ 900) ∧ (0 ≤ m_number.toInt ∧ m_number.toInt ≤ 9999) ∧ (0 ≤ m_letters.toInt ∧ m_letters.toInt ≤ 900) ∧ (0 ≤ nn.toInt ∧ nn.toInt ≤ m_taped.toInt ∧ nn.toInt ≤ 900) ∧ (m_taped.toInt = 0)) := (Or.inl ⟨rfl, ⟨hr_m_taped, hr_m_textEnd, hr_m_bad, hr_m_token, hr_m_at, hr_m_behind, hr_m_number, hr_m_letters, (by omega), (by omega)⟩⟩)
      have hX_15 : F_r_begins_900 m_status m_taped m_textEnd m_bad m_token m_at m_behind m_number m_letters m_word g_tape nn = (((0 : Int32), n_11, m_taped, m_textEnd, m_bad, m_token, m_at, m_behind, m_number, m_letters, m_word) : Int32 × Int32 × Int32 × Int32 × Int32 × Int32 × Int32 × Int32 × Int32 × Int32 × Int64) := by
        clear hret hP hD hS hl hA hT hE hK hts hown hml
        subst he_n_11
        refine (F_r_begins_900_s ..).trans ?_
        refine (if_neg c_1).trans ?_
        refine (if_pos c_9).trans ?_
        exact rfl
      exact hret _ _ _ _ _ _ (n_11, m_taped, m_textEnd, m_bad, m_token, m_at, m_behind, m_number, m_letters, m_word) [1, 0] hP hD hS rfl (by decide) dX12_begins_22 (Or.inl rfl) ⟨(congrArg (fun z9 => z9.1) hX_15).symm, (congrArg (fun z9 => z9.2.1) hX_15).symm, (congrArg (fun z9 => z9.2.2.1) hX_15).symm, (congrArg (fun z9 => z9.2.2.2.1) hX_15).symm, (congrArg (fun z9 => z9.2.2.2.2.1) hX_15).symm, (congrArg (fun z9 => z9.2.2.2.2.2.1) hX_15).symm, (congrArg (fun z9 => z9.2.2.2.2.2.2.1) hX_15).symm, (congrArg (fun z9 => z9.2.2.2.2.2.2.2.1) hX_15).symm, (congrArg (fun z9 => z9.2.2.2.2.2.2.2.2.1) hX_15).symm, (congrArg (fun z9 => z9.2.2.2.2.2.2.2.2.2.1) hX_15).symm, (congrArg (fun z9 => z9.2.2.2.2.2.2.2.2.2.2) hX_15).symm, hpost⟩
    · have b_16 := z_fleF c_9
      refine lv_iload_n hx hb dX12_begins_12 rfl (lv_at hl 1 rfl) ?_
      refine lv_iload_n hx hb dX12_begins_13 rfl (lv_at hl 2 rfl) ?_
      refine lv_icmp_le (tgt := 23) hx hb dX12_begins_14 (by decide) (fun c_17 => ?_) (fun h9 => (z_no (by have h8 := z_fgtF h9; omega)))
      have b_18 := z_fleT c_17
      refine lv_aload_n hx hb dX12_begins_23 rfl (lv_at hl 0 rfl) ?_
      refine lv_iload_n hx hb dX12_begins_24 rfl (lv_at hl 1 rfl) ?_
      refine va_put (D := G) (ci := 12) (v := .int nn) (ty := .int) (C := RX12) (T := TX12) (N := 65) hx hb hts inT12 tyX12 tyX12_ok nmX12 hown hK hP hD hS 0 rfl rfl 9 (by decide) (hts _ tw_1894) (fun _ h9 => h9) rfl (tyX12_ok 9 (by decide)) rfl rfl (Nat.le_of_ble_eq_true rfl) dX12_begins_25 (fun H locs hP hD hS => ?_)
      refine lv_aload_n hx hb dX12_begins_28 rfl (lv_at hl 0 rfl) ?_
      refine lv_iconst (v := 0) hx hb dX12_begins_29 (by decide) ?_
      refine va_put (D := G) (ci := 12) (v := .int 0) (ty := .int) (C := RX12) (T := TX12) (N := 65) hx hb hts inT12 tyX12 tyX12_ok nmX12 hown hK hP hD hS 0 rfl rfl 8 (by decide) (hts _ tw_1893) (fun _ h9 => h9) rfl (tyX12_ok 8 (by decide)) rfl rfl (Nat.le_of_ble_eq_true rfl) dX12_begins_30 (fun H locs hP hD hS => ?_)
      refine lv_aload_n hx hb dX12_begins_33 rfl (lv_at hl 0 rfl) ?_
      refine lv_iconst (v := 0) hx hb dX12_begins_34 (by decide) ?_
      refine va_put (D := G) (ci := 12) (v := .int 0) (ty := .int) (C := RX12) (T := TX12) (N := 65) hx hb hts inT12 tyX12 tyX12_ok nmX12 hown hK hP hD hS 0 rfl rfl 16 (by decide) (hts _ tw_1901) (fun _ h9 => h9) rfl (tyX12_ok 16 (by decide)) rfl rfl (Nat.le_of_ble_eq_true rfl) dX12_begins_35 (fun H locs hP hD hS => ?_)
      refine lv_aload_n hx hb dX12_begins_38 rfl (lv_at hl 0 rfl) ?_
      refine lv_iconst (v := 0) hx hb dX12_begins_39 (by decide) ?_
      refine va_put (D := G) (ci := 12) (v := .int 0) (ty := .int) (C := RX12) (T := TX12) (N := 65) hx hb hts inT12 tyX12 tyX12_ok nmX12 hown hK hP hD hS 0 rfl rfl 12 (by decide) (hts _ tw_1897) (fun _ h9 => h9) rfl (tyX12_ok 12 (by decide)) rfl rfl (Nat.le_of_ble_eq_true rfl) dX12_begins_40 (fun H locs hP hD hS => ?_)
      refine lv_aload_n hx hb dX12_begins_43 rfl (lv_at hl 0 rfl) ?_
      refine z_callVv (As := []) (rest := []) (wr := []) ⟨hx, hb, hml, hown, hts⟩ hK hE hT hP hD hS hA (r_next2 l G cA h0 m_status m_thrown m_above m_under a_traySort a_trayMany a_numbers a_tape 0 nn m_faultKind m_faultAt 0 m_badAt m_token m_at 0 m_number m_letters m_word a_c a_words m_markMany a_there a_tried a_best a_found m_thereMany m_foundMany m_orderHow m_orderRing m_orderMany m_hasBest m_bestTop m_bestBy a_weights a_shared m_random m_truePlace m_trueWay m_seconds m_done m_feelings m_tries m_leftOver m_playDoor m_playRing m_isOpen m_isOver m_wasTried m_hasPlayed a_feltNow a_last a_kept m_hasSeconds m_hasTurned m_hasRound a_hasFeels a_isOn m_firstAct m_meanTop m_meanBy a_order m_rowMany m_newSteps g_tape (by omega) hr_m_at (by decide +kernel) hr_m_token hr_m_number hr_m_letters) lk_RX12_184 ⟨rfl, rfl⟩ ⟨Nat.le_of_ble_eq_true rfl, Nat.le_of_ble_eq_true rfl⟩ 12 rfl rfl rfl [0, 1] [] rfl rfl (by decide) rfl hl.1 rfl (lv_room (Nat.le_of_ble_eq_true rfl)) dX12_begins_44 ⟨Nat.le_of_ble_eq_true rfl, Nat.le_of_ble_eq_true rfl⟩ (fun u_26 H locs hw hP hD hS => ?_)
      obtain ⟨n_19, n_20, n_21, n_22, n_23, n_24⟩ := u_26
      try dsimp only at hw
      obtain ⟨he_n_19, he_n_20, he_n_21, he_n_22, he_n_23, he_n_24, hw⟩ := hw
      obtain ⟨hr_n_19, hr_n_20, hr_n_21, hr_n_22, hr_n_23, hf_28, hf_29⟩ := hw
      refine lv_iconst (v := 1) hx hb dX12_begins_47 (by decide) ?_
      have hpost : ((1 : Int32) = 0 ∧ (0 ≤ (0 : Int32).toInt ∧ (0 : Int32).toInt ≤ 900) ∧ (0 ≤ nn.toInt ∧ nn.toInt ≤ 900) ∧ (0 ≤ (0 : Int32).toInt ∧ (0 : Int32).toInt ≤ 9) ∧ (0 ≤ n_19.toInt ∧ n_19.toInt ≤ 4) ∧ (0 ≤ n_20.toInt ∧ n_20.toInt ≤ 900) ∧ (0 ≤ n_21.toInt ∧ n_21.toInt ≤ 900) ∧ (0 ≤ n_22.toInt ∧ n_22.toInt ≤ 9999) ∧ (0 ≤ n_23.toInt ∧ n_23.toInt ≤ 900) ∧ (nn.toInt < 0 ∨ m_taped.toInt < nn.toInt ∨ 900 < nn.toInt) ∧ ((0 : Int32).toInt = m_taped.toInt)) ∨ ((1 : Int32) = 1 ∧ (0 ≤ (0 : Int32).toInt ∧ (0 : Int32).toInt ≤ 0) ∧ (0 ≤ nn.toInt ∧ nn.toInt ≤ 900) ∧ (0 ≤ (0 : Int32).toInt ∧ (0 : Int32).toInt ≤ 0) ∧ (0 ≤ n_19.toInt ∧ n_19.toInt ≤ 4) ∧ (0 ≤ n_20.toInt ∧ n_20.toInt ≤ 900) ∧ (0 ≤ n_21.toInt ∧ n_21.toInt ≤ 900) ∧ (0 ≤ n_22.toInt ∧ n_22.toInt ≤ 9999) ∧ (0 ≤ n_23.toInt ∧ n_23.toInt ≤ 900) ∧ (0 ≤ nn.toInt ∧ nn.toInt ≤ m_taped.toInt ∧ nn.toInt ≤ 900) ∧ ((0 : Int32).toInt = 0)) := (Or.inr ⟨rfl, ⟨(by decide +kernel), (by omega), (by decide +kernel), hr_n_19, hr_n_20, hr_n_21, hr_n_22, hr_n_23, (by omega), (by omega)⟩⟩)
      have hX_30 : F_r_begins_900 m_status m_taped m_textEnd m_bad m_token m_at m_behind m_number m_letters m_word g_tape nn = (((1 : Int32), m_status, (0 : Int32), nn, (0 : Int32), n_19, n_20, n_21, n_22, n_23, n_24) : Int32 × Int32 × Int32 × Int32 × Int32 × Int32 × Int32 × Int32 × Int32 × Int32 × Int64) := by
        clear hret hP hD hS hl hA hT hE hK hts hown hml
        subst he_n_19
        subst he_n_20
        subst he_n_21
        subst he_n_22
        subst he_n_23
        subst he_n_24
        refine (F_r_begins_900_s ..).trans ?_
        refine (if_neg c_1).trans ?_
        refine (if_neg c_9).trans ?_
        exact rfl
      exact hret _ _ _ _ _ _ (m_status, 0, nn, 0, n_19, n_20, n_21, n_22, n_23, n_24) [0, 1] hP hD hS rfl (by decide) dX12_begins_48 (Or.inr rfl) ⟨(congrArg (fun z9 => z9.1) hX_30).symm, (congrArg (fun z9 => z9.2.1) hX_30).symm, (congrArg (fun z9 => z9.2.2.1) hX_30).symm, (congrArg (fun z9 => z9.2.2.2.1) hX_30).symm, (congrArg (fun z9 => z9.2.2.2.2.1) hX_30).symm, (congrArg (fun z9 => z9.2.2.2.2.2.1) hX_30).symm, (congrArg (fun z9 => z9.2.2.2.2.2.2.1) hX_30).symm, (congrArg (fun z9 => z9.2.2.2.2.2.2.2.1) hX_30).symm, (congrArg (fun z9 => z9.2.2.2.2.2.2.2.2.1) hX_30).symm, (congrArg (fun z9 => z9.2.2.2.2.2.2.2.2.2.1) hX_30).symm, (congrArg (fun z9 => z9.2.2.2.2.2.2.2.2.2.2) hX_30).symm, hpost⟩
set_option maxHeartbeats 4000000 in
set_option maxRecDepth 100000 in
theorem r_begins_300 (l : Launch) (G : va_G) (cA : zCA) (h0 : Nat) (m_status : Int32) (m_thrown : Int32) (m_above : Int64) (m_under : Int64) (a_traySort : Nat) (a_trayMany : Nat) (a_numbers : Nat) (a_tape : Nat) (m_taped : Int32) (m_textEnd : Int32) (m_faultKind : Int32) (m_faultAt : Int32) (m_bad : Int32) (m_badAt : Int32) (m_token : Int32) (m_at : Int32) (m_behind : Int32) (m_number : Int32) (m_letters : Int32) (m_word : Int64) (a_c : Nat) (a_words : Nat) (m_markMany : Int32) (a_there : Nat) (a_tried : Nat) (a_best : Nat) (a_found : Nat) (m_thereMany : Int32) (m_foundMany : Int32) (m_orderHow : Int32) (m_orderRing : Int32) (m_orderMany : Int32) (m_hasBest : Int32) (m_bestTop : Int64) (m_bestBy : Int64) (a_weights : Nat) (a_shared : Nat) (m_random : Int32) (m_truePlace : Int32) (m_trueWay : Int32) (m_seconds : Int32) (m_done : Int32) (m_feelings : Int32) (m_tries : Int32) (m_leftOver : Int32) (m_playDoor : Int32) (m_playRing : Int32) (m_isOpen : Int32) (m_isOver : Int32) (m_wasTried : Int32) (m_hasPlayed : Int32) (a_feltNow : Nat) (a_last : Nat) (a_kept : Nat) (m_hasSeconds : Int32) (m_hasTurned : Int32) (m_hasRound : Int32) (a_hasFeels : Nat) (a_isOn : Nat) (m_firstAct : Int32) (m_meanTop : Int64) (m_meanBy : Int64) (a_order : Nat) (m_rowMany : Int32) (m_newSteps : Int32) (g_tape : Nat → Int32) (nn : Int32) (hr_m_taped : 0 ≤ m_taped.toInt ∧ m_taped.toInt ≤ 900) (hr_m_textEnd : 0 ≤ m_textEnd.toInt ∧ m_textEnd.toInt ≤ 900) (hr_m_at : 0 ≤ m_at.toInt ∧ m_at.toInt ≤ 900) (hr_m_behind : 0 ≤ m_behind.toInt ∧ m_behind.toInt ≤ 900) (hr_m_bad : 0 ≤ m_bad.toInt ∧ m_bad.toInt ≤ 9) (hr_m_token : 0 ≤ m_token.toInt ∧ m_token.toInt ≤ 4) (hr_m_number : 0 ≤ m_number.toInt ∧ m_number.toInt ≤ 9999) (hr_m_letters : 0 ≤ m_letters.toInt ∧ m_letters.toInt ≤ 900) : zCi l yX12_begins cX12_begins 3 (some .boolean) ({ frames := 2, cells := 0, slots := 0, locals := 42 }) G cA [.ref h0, .int nn, .int 300] [(h0, .inr (12, [.int m_status, .int m_thrown, .long m_above, .long m_under, .ref a_traySort, .ref a_trayMany, .ref a_numbers, .ref a_tape, .int m_taped, .int m_textEnd, .int m_faultKind, .int m_faultAt, .int m_bad, .int m_badAt, .int m_token, .int m_at, .int m_behind, .int m_number, .int m_letters, .long m_word, .ref a_c, .ref a_words, .int m_markMany, .ref a_there, .ref a_tried, .ref a_best, .ref a_found, .int m_thereMany, .int m_foundMany, .int m_orderHow, .int m_orderRing, .int m_orderMany, .int m_hasBest, .long m_bestTop, .long m_bestBy, .ref a_weights, .ref a_shared, .int m_random, .int m_truePlace, .int m_trueWay, .int m_seconds, .int m_done, .int m_feelings, .int m_tries, .int m_leftOver, .int m_playDoor, .int m_playRing, .int m_isOpen, .int m_isOver, .int m_wasTried, .int m_hasPlayed, .ref a_feltNow, .ref a_last, .ref a_kept, .int m_hasSeconds, .int m_hasTurned, .int m_hasRound, .ref a_hasFeels, .ref a_isOn, .int m_firstAct, .long m_meanTop, .long m_meanBy, .ref a_order, .int m_rowMany, .int m_newSteps])), (a_tape, .inl (cA.1 2, 900, .inl g_tape))] (S := Int32 × Int32 × Int32 × Int32 × Int32 × Int32 × Int32 × Int32 × Int32 × Int64) (fun (r : Int32) (u : Int32 × Int32 × Int32 × Int32 × Int32 × Int32 × Int32 × Int32 × Int32 × Int64) => (r = (F_r_begins_300 m_status m_taped m_textEnd m_bad m_token m_at m_behind m_number m_letters m_word g_tape nn).1) ∧ (u.1 = (F_r_begins_300 m_status m_taped m_textEnd m_bad m_token m_at m_behind m_number m_letters m_word g_tape nn).2.1) ∧ (u.2.1 = (F_r_begins_300 m_status m_taped m_textEnd m_bad m_token m_at m_behind m_number m_letters m_word g_tape nn).2.2.1) ∧ (u.2.2.1 = (F_r_begins_300 m_status m_taped m_textEnd m_bad m_token m_at m_behind m_number m_letters m_word g_tape nn).2.2.2.1) ∧ (u.2.2.2.1 = (F_r_begins_300 m_status m_taped m_textEnd m_bad m_token m_at m_behind m_number m_letters m_word g_tape nn).2.2.2.2.1) ∧ (u.2.2.2.2.1 = (F_r_begins_300 m_status m_taped m_textEnd m_bad m_token m_at m_behind m_number m_letters m_word g_tape nn).2.2.2.2.2.1) ∧ (u.2.2.2.2.2.1 = (F_r_begins_300 m_status m_taped m_textEnd m_bad m_token m_at m_behind m_number m_letters m_word g_tape nn).2.2.2.2.2.2.1) ∧ (u.2.2.2.2.2.2.1 = (F_r_begins_300 m_status m_taped m_textEnd m_bad m_token m_at m_behind m_number m_letters m_word g_tape nn).2.2.2.2.2.2.2.1) ∧ (u.2.2.2.2.2.2.2.1 = (F_r_begins_300 m_status m_taped m_textEnd m_bad m_token m_at m_behind m_number m_letters m_word g_tape nn).2.2.2.2.2.2.2.2.1) ∧ (u.2.2.2.2.2.2.2.2.1 = (F_r_begins_300 m_status m_taped m_textEnd m_bad m_token m_at m_behind m_number m_letters m_word g_tape nn).2.2.2.2.2.2.2.2.2.1) ∧ (u.2.2.2.2.2.2.2.2.2 = (F_r_begins_300 m_status m_taped m_textEnd m_bad m_token m_at m_behind m_number m_letters m_word g_tape nn).2.2.2.2.2.2.2.2.2.2) ∧ ((r = 0 ∧ (0 ≤ u.2.1.toInt ∧ u.2.1.toInt ≤ 900) ∧ (0 ≤ u.2.2.1.toInt ∧ u.2.2.1.toInt ≤ 900) ∧ (0 ≤ u.2.2.2.1.toInt ∧ u.2.2.2.1.toInt ≤ 9) ∧ (0 ≤ u.2.2.2.2.1.toInt ∧ u.2.2.2.2.1.toInt ≤ 4) ∧ (0 ≤ u.2.2.2.2.2.1.toInt ∧ u.2.2.2.2.2.1.toInt ≤ 900) ∧ (0 ≤ u.2.2.2.2.2.2.1.toInt ∧ u.2.2.2.2.2.2.1.toInt ≤ 900) ∧ (0 ≤ u.2.2.2.2.2.2.2.1.toInt ∧ u.2.2.2.2.2.2.2.1.toInt ≤ 9999) ∧ (0 ≤ u.2.2.2.2.2.2.2.2.1.toInt ∧ u.2.2.2.2.2.2.2.2.1.toInt ≤ 900) ∧ (nn.toInt < 0 ∨ m_taped.toInt < nn.toInt ∨ 300 < nn.toInt) ∧ (u.2.1.toInt = m_taped.toInt)) ∨ (r = 1 ∧ (0 ≤ u.2.1.toInt ∧ u.2.1.toInt ≤ 0) ∧ (0 ≤ u.2.2.1.toInt ∧ u.2.2.1.toInt ≤ 300) ∧ (0 ≤ u.2.2.2.1.toInt ∧ u.2.2.2.1.toInt ≤ 0) ∧ (0 ≤ u.2.2.2.2.1.toInt ∧ u.2.2.2.2.1.toInt ≤ 4) ∧ (0 ≤ u.2.2.2.2.2.1.toInt ∧ u.2.2.2.2.2.1.toInt ≤ 900) ∧ (0 ≤ u.2.2.2.2.2.2.1.toInt ∧ u.2.2.2.2.2.2.1.toInt ≤ 900) ∧ (0 ≤ u.2.2.2.2.2.2.2.1.toInt ∧ u.2.2.2.2.2.2.2.1.toInt ≤ 9999) ∧ (0 ≤ u.2.2.2.2.2.2.2.2.1.toInt ∧ u.2.2.2.2.2.2.2.2.1.toInt ≤ 900) ∧ (0 ≤ nn.toInt ∧ nn.toInt ≤ m_taped.toInt ∧ nn.toInt ≤ 300) ∧ (u.2.1.toInt = 0)))) (fun (u : Int32 × Int32 × Int32 × Int32 × Int32 × Int32 × Int32 × Int32 × Int32 × Int64) => [(h0, .inr (12, [.int u.1, .int m_thrown, .long m_above, .long m_under, .ref a_traySort, .ref a_trayMany, .ref a_numbers, .ref a_tape, .int u.2.1, .int u.2.2.1, .int m_faultKind, .int m_faultAt, .int u.2.2.2.1, .int m_badAt, .int u.2.2.2.2.1, .int u.2.2.2.2.2.1, .int u.2.2.2.2.2.2.1, .int u.2.2.2.2.2.2.2.1, .int u.2.2.2.2.2.2.2.2.1, .long u.2.2.2.2.2.2.2.2.2, .ref a_c, .ref a_words, .int m_markMany, .ref a_there, .ref a_tried, .ref a_best, .ref a_found, .int m_thereMany, .int m_foundMany, .int m_orderHow, .int m_orderRing, .int m_orderMany, .int m_hasBest, .long m_bestTop, .long m_bestBy, .ref a_weights, .ref a_shared, .int m_random, .int m_truePlace, .int m_trueWay, .int m_seconds, .int m_done, .int m_feelings, .int m_tries, .int m_leftOver, .int m_playDoor, .int m_playRing, .int m_isOpen, .int m_isOver, .int m_wasTried, .int m_hasPlayed, .ref a_feltNow, .ref a_last, .ref a_kept, .int m_hasSeconds, .int m_hasTurned, .int m_hasRound, .ref a_hasFeels, .ref a_isOn, .int m_firstAct, .long m_meanTop, .long m_meanBy, .ref a_order, .int m_rowMany, .int m_newSteps])), (a_tape, .inl (cA.1 2, 900, .inl g_tape))]) 0 0 := by
  have hk_0 : (0 : Int32).toInt = 0 := by decide +kernel
  have hk_5 : (5 : Int32).toInt = 5 := by decide +kernel
  have hk_300 : (300 : Int32).toInt = 300 := by decide +kernel
  refine z_start2z (own := RX12) (by decide) (Nat.le_of_ble_eq_true rfl) rfl ?_
  intro p e s m args below meth c A ls Q hx hb hml hts hown hK hE hT hP hD hS hA hl hret
  have hl : lv_has ls 3 [(0, .ref h0), (1, .int nn), (2, .int 300)] := hl
  refine lv_iload_n hx hb dX12_begins_0 rfl (lv_at hl 1 rfl) ?_
  refine lv_if_lt (tgt := 17) hx hb dX12_begins_1 (by decide) (fun c_1 => ?_) (fun c_1 => ?_)
  · have b_2 := z_fltT c_1
    refine lv_aload_n hx hb dX12_begins_17 rfl (lv_at hl 0 rfl) ?_
    refine lv_iconst (v := 5) hx hb dX12_begins_18 (by decide) ?_
    refine z_callVi (As := [.int 5]) (rest := []) (wr := [(a_tape, .inl (cA.1 2, 900, .inl g_tape))]) ⟨hx, hb, hml, hown, hts⟩ hK hE hT hP hD hS hA (r_no l G cA h0 m_status m_thrown m_above m_under a_traySort a_trayMany a_numbers a_tape m_taped m_textEnd m_faultKind m_faultAt m_bad m_badAt m_token m_at m_behind m_number m_letters m_word a_c a_words m_markMany a_there a_tried a_best a_found m_thereMany m_foundMany m_orderHow m_orderRing m_orderMany m_hasBest m_bestTop m_bestBy a_weights a_shared m_random m_truePlace m_trueWay m_seconds m_done m_feelings m_tries m_leftOver m_playDoor m_playRing m_isOpen m_isOver m_wasTried m_hasPlayed a_feltNow a_last a_kept m_hasSeconds m_hasTurned m_hasRound a_hasFeels a_isOn m_firstAct m_meanTop m_meanBy a_order m_rowMany m_newSteps 5) lk_RX12_97 ⟨rfl, rfl⟩ ⟨Nat.le_of_ble_eq_true rfl, Nat.le_of_ble_eq_true rfl⟩ 12 rfl rfl rfl [0] [1] rfl rfl (by decide) rfl hl.1 rfl (lv_room (Nat.le_of_ble_eq_true rfl)) dX12_begins_19 ⟨Nat.le_of_ble_eq_true rfl, Nat.le_of_ble_eq_true rfl⟩ (fun r_4 u_5 H locs hw hP hD hS => ?_)
    obtain ⟨n_3, rfl⟩ : ∃ z, z = u_5 := ⟨_, rfl⟩
    obtain ⟨he_r_4, he_n_3, hw⟩ := hw
    obtain ⟨rfl, -⟩ := hw
    have hpost : ((0 : Int32) = 0 ∧ (0 ≤ m_taped.toInt ∧ m_taped.toInt ≤ 900) ∧ (0 ≤ m_textEnd.toInt ∧ m_textEnd.toInt ≤ 900) ∧ (0 ≤ m_bad.toInt ∧ m_bad.toInt ≤ 9) ∧ (0 ≤ m_token.toInt ∧ m_token.toInt ≤ 4) ∧ (0 ≤ m_at.toInt ∧ m_at.toInt ≤ 900) ∧ (0 ≤ m_behind.toInt ∧ m_behind.toInt ≤ 900) ∧ (0 ≤ m_number.toInt ∧ m_number.toInt ≤ 9999) ∧ (0 ≤ m_letters.toInt ∧ m_letters.toInt ≤ 900) ∧ (nn.toInt < 0 ∨ m_taped.toInt < nn.toInt ∨ 300 < nn.toInt) ∧ (m_taped.toInt = m_taped.toInt)) ∨ ((0 : Int32) = 1 ∧ (0 ≤ m_taped.toInt ∧ m_taped.toInt ≤ 0) ∧ (0 ≤ m_textEnd.toInt ∧ m_textEnd.toInt ≤ 300) ∧ (0 ≤ m_bad.toInt ∧ m_bad.toInt ≤ 0) ∧ (0 ≤ m_token.toInt ∧ m_token.toInt ≤ 4) ∧ (0 ≤ m_at.toInt ∧ m_at.toInt ≤ 900) ∧ (0 ≤ m_behind.toInt ∧ m_behind.toInt ≤ 900) ∧ (0 ≤ m_number.toInt ∧ m_number.toInt ≤ 9999) ∧ (0 ≤ m_letters.toInt ∧ m_letters.toInt ≤ 900) ∧ (0 ≤ nn.toInt ∧ nn.toInt ≤ m_taped.toInt ∧ nn.toInt ≤ 300) ∧ (m_taped.toInt = 0)) := (Or.inl ⟨rfl, ⟨hr_m_taped, hr_m_textEnd, hr_m_bad, hr_m_token, hr_m_at, hr_m_behind, hr_m_number, hr_m_letters, (by omega), (by omega)⟩⟩)
    have hX_7 : F_r_begins_300 m_status m_taped m_textEnd m_bad m_token m_at m_behind m_number m_letters m_word g_tape nn = (((0 : Int32), n_3, m_taped, m_textEnd, m_bad, m_token, m_at, m_behind, m_number, m_letters, m_word) : Int32 × Int32 × Int32 × Int32 × Int32 × Int32 × Int32 × Int32 × Int32 × Int32 × Int64) := by
      clear hret hP hD hS hl hA hT hE hK hts hown hml
      subst he_n_3
      refine (F_r_begins_300_s ..).trans ?_
      refine (if_pos c_1).trans ?_
      exact rfl
    exact hret _ _ _ _ _ _ (n_3, m_taped, m_textEnd, m_bad, m_token, m_at, m_behind, m_number, m_letters, m_word) [1, 0] hP hD hS rfl (by decide) dX12_begins_22 (Or.inl rfl) ⟨(congrArg (fun z9 => z9.1) hX_7).symm, (congrArg (fun z9 => z9.2.1) hX_7).symm, (congrArg (fun z9 => z9.2.2.1) hX_7).symm, (congrArg (fun z9 => z9.2.2.2.1) hX_7).symm, (congrArg (fun z9 => z9.2.2.2.2.1) hX_7).symm, (congrArg (fun z9 => z9.2.2.2.2.2.1) hX_7).symm, (congrArg (fun z9 => z9.2.2.2.2.2.2.1) hX_7).symm, (congrArg (fun z9 => z9.2.2.2.2.2.2.2.1) hX_7).symm, (congrArg (fun z9 => z9.2.2.2.2.2.2.2.2.1) hX_7).symm, (congrArg (fun z9 => z9.2.2.2.2.2.2.2.2.2.1) hX_7).symm, (congrArg (fun z9 => z9.2.2.2.2.2.2.2.2.2.2) hX_7).symm, hpost⟩
  · have b_8 := z_fgeF c_1
    refine lv_iload_n hx hb dX12_begins_4 rfl (lv_at hl 1 rfl) ?_
    refine lv_aload_n hx hb dX12_begins_5 rfl (lv_at hl 0 rfl) ?_
    refine va_get (D := G) (ci := 12) (v := .int m_taped) (C := RX12) (T := TX12) (N := 65) hx hb hts inT12 hown hK hP 0 rfl rfl 8 (by decide) (hts _ tw_1893) (fun _ h9 => h9) rfl dX12_begins_6 ?_
    refine lv_icmp_gt (tgt := 17) hx hb dX12_begins_9 (by decide) (fun c_9 => ?_) (fun c_9 => ?_)
    · have b_10 := z_fgtT c_9
      refine lv_aload_n hx hb dX12_begins_17 rfl (lv_at hl 0 rfl) ?_
      refine lv_iconst (v := 5) hx hb dX12_begins_18 (by decide) ?_
      refine z_callVi (As := [.int 5]) (rest := []) (wr := [(a_tape, .inl (cA.1 2, 900, .inl g_tape))]) ⟨hx, hb, hml, hown, hts⟩ hK hE hT hP hD hS hA (r_no l G cA h0 m_status m_thrown m_above m_under a_traySort a_trayMany a_numbers a_tape m_taped m_textEnd m_faultKind m_faultAt m_bad m_badAt m_token m_at m_behind m_number m_letters m_word a_c a_words m_markMany a_there a_tried a_best a_found m_thereMany m_foundMany m_orderHow m_orderRing m_orderMany m_hasBest m_bestTop m_bestBy a_weights a_shared m_random m_truePlace m_trueWay m_seconds m_done m_feelings m_tries m_leftOver m_playDoor m_playRing m_isOpen m_isOver m_wasTried m_hasPlayed a_feltNow a_last a_kept m_hasSeconds m_hasTurned m_hasRound a_hasFeels a_isOn m_firstAct m_meanTop m_meanBy a_order m_rowMany m_newSteps 5) lk_RX12_97 ⟨rfl, rfl⟩ ⟨Nat.le_of_ble_eq_true rfl, Nat.le_of_ble_eq_true rfl⟩ 12 rfl rfl rfl [0] [1] rfl rfl (by decide) rfl hl.1 rfl (lv_room (Nat.le_of_ble_eq_true rfl)) dX12_begins_19 ⟨Nat.le_of_ble_eq_true rfl, Nat.le_of_ble_eq_true rfl⟩ (fun r_12 u_13 H locs hw hP hD hS => ?_)
      obtain ⟨n_11, rfl⟩ : ∃ z, z = u_13 := ⟨_, rfl⟩
      obtain ⟨he_r_12, he_n_11, hw⟩ := hw
      obtain ⟨rfl, -⟩ := hw
      have hpost : ((0 : Int32) = 0 ∧ (0 ≤ m_taped.toInt ∧ m_taped.toInt ≤ 900) ∧ (0 ≤ m_textEnd.toInt ∧ m_textEnd.toInt ≤ 900) ∧ (0 ≤ m_bad.toInt ∧ m_bad.toInt ≤ 9) ∧ (0 ≤ m_token.toInt ∧ m_token.toInt ≤ 4) ∧ (0 ≤ m_at.toInt ∧ m_at.toInt ≤ 900) ∧ (0 ≤ m_behind.toInt ∧ m_behind.toInt ≤ 900) ∧ (0 ≤ m_number.toInt ∧ m_number.toInt ≤ 9999) ∧ (0 ≤ m_letters.toInt ∧ m_letters.toInt ≤ 900) ∧ (nn.toInt < 0 ∨ m_taped.toInt < nn.toInt ∨ 300 < nn.toInt) ∧ (m_taped.toInt = m_taped.toInt)) ∨ ((0 : Int32) = 1 ∧ (0 ≤ m_taped.toInt ∧ m_taped.toInt ≤ 0) ∧ (0 ≤ m_textEnd.toInt ∧ m_textEnd.toInt ≤ 300) ∧ (0 ≤ m_bad.toInt ∧ m_bad.toInt ≤ 0) ∧ (0 ≤ m_token.toInt ∧ m_token.toInt ≤ 4) ∧ (0 ≤ m_at.toInt ∧ m_at.toInt ≤ 900) ∧ (0 ≤ m_behind.toInt ∧ m_behind.toInt ≤ 900) ∧ (0 ≤ m_number.toInt ∧ m_number.toInt ≤ 9999) ∧ (0 ≤ m_letters.toInt ∧ m_letters.toInt ≤ 900) ∧ (0 ≤ nn.toInt ∧ nn.toInt ≤ m_taped.toInt ∧ nn.toInt ≤ 300) ∧ (m_taped.toInt = 0)) := (Or.inl ⟨rfl, ⟨hr_m_taped, hr_m_textEnd, hr_m_bad, hr_m_token, hr_m_at, hr_m_behind, hr_m_number, hr_m_letters, (by omega), (by omega)⟩⟩)
      have hX_15 : F_r_begins_300 m_status m_taped m_textEnd m_bad m_token m_at m_behind m_number m_letters m_word g_tape nn = (((0 : Int32), n_11, m_taped, m_textEnd, m_bad, m_token, m_at, m_behind, m_number, m_letters, m_word) : Int32 × Int32 × Int32 × Int32 × Int32 × Int32 × Int32 × Int32 × Int32 × Int32 × Int64) := by
        clear hret hP hD hS hl hA hT hE hK hts hown hml
        subst he_n_11
        refine (F_r_begins_300_s ..).trans ?_
        refine (if_neg c_1).trans ?_
        refine (if_pos c_9).trans ?_
        exact rfl
      exact hret _ _ _ _ _ _ (n_11, m_taped, m_textEnd, m_bad, m_token, m_at, m_behind, m_number, m_letters, m_word) [1, 0] hP hD hS rfl (by decide) dX12_begins_22 (Or.inl rfl) ⟨(congrArg (fun z9 => z9.1) hX_15).symm, (congrArg (fun z9 => z9.2.1) hX_15).symm, (congrArg (fun z9 => z9.2.2.1) hX_15).symm, (congrArg (fun z9 => z9.2.2.2.1) hX_15).symm, (congrArg (fun z9 => z9.2.2.2.2.1) hX_15).symm, (congrArg (fun z9 => z9.2.2.2.2.2.1) hX_15).symm, (congrArg (fun z9 => z9.2.2.2.2.2.2.1) hX_15).symm, (congrArg (fun z9 => z9.2.2.2.2.2.2.2.1) hX_15).symm, (congrArg (fun z9 => z9.2.2.2.2.2.2.2.2.1) hX_15).symm, (congrArg (fun z9 => z9.2.2.2.2.2.2.2.2.2.1) hX_15).symm, (congrArg (fun z9 => z9.2.2.2.2.2.2.2.2.2.2) hX_15).symm, hpost⟩
    · have b_16 := z_fleF c_9
      refine lv_iload_n hx hb dX12_begins_12 rfl (lv_at hl 1 rfl) ?_
      refine lv_iload_n hx hb dX12_begins_13 rfl (lv_at hl 2 rfl) ?_
      refine lv_icmp_le (tgt := 23) hx hb dX12_begins_14 (by decide) (fun c_17 => ?_) (fun c_17 => ?_)
      · have b_18 := z_fleT c_17
        refine lv_aload_n hx hb dX12_begins_23 rfl (lv_at hl 0 rfl) ?_
        refine lv_iload_n hx hb dX12_begins_24 rfl (lv_at hl 1 rfl) ?_
        refine va_put (D := G) (ci := 12) (v := .int nn) (ty := .int) (C := RX12) (T := TX12) (N := 65) hx hb hts inT12 tyX12 tyX12_ok nmX12 hown hK hP hD hS 0 rfl rfl 9 (by decide) (hts _ tw_1894) (fun _ h9 => h9) rfl (tyX12_ok 9 (by decide)) rfl rfl (Nat.le_of_ble_eq_true rfl) dX12_begins_25 (fun H locs hP hD hS => ?_)
        refine lv_aload_n hx hb dX12_begins_28 rfl (lv_at hl 0 rfl) ?_
        refine lv_iconst (v := 0) hx hb dX12_begins_29 (by decide) ?_
        refine va_put (D := G) (ci := 12) (v := .int 0) (ty := .int) (C := RX12) (T := TX12) (N := 65) hx hb hts inT12 tyX12 tyX12_ok nmX12 hown hK hP hD hS 0 rfl rfl 8 (by decide) (hts _ tw_1893) (fun _ h9 => h9) rfl (tyX12_ok 8 (by decide)) rfl rfl (Nat.le_of_ble_eq_true rfl) dX12_begins_30 (fun H locs hP hD hS => ?_)
        refine lv_aload_n hx hb dX12_begins_33 rfl (lv_at hl 0 rfl) ?_
        refine lv_iconst (v := 0) hx hb dX12_begins_34 (by decide) ?_
        refine va_put (D := G) (ci := 12) (v := .int 0) (ty := .int) (C := RX12) (T := TX12) (N := 65) hx hb hts inT12 tyX12 tyX12_ok nmX12 hown hK hP hD hS 0 rfl rfl 16 (by decide) (hts _ tw_1901) (fun _ h9 => h9) rfl (tyX12_ok 16 (by decide)) rfl rfl (Nat.le_of_ble_eq_true rfl) dX12_begins_35 (fun H locs hP hD hS => ?_)
        refine lv_aload_n hx hb dX12_begins_38 rfl (lv_at hl 0 rfl) ?_
        refine lv_iconst (v := 0) hx hb dX12_begins_39 (by decide) ?_
        refine va_put (D := G) (ci := 12) (v := .int 0) (ty := .int) (C := RX12) (T := TX12) (N := 65) hx hb hts inT12 tyX12 tyX12_ok nmX12 hown hK hP hD hS 0 rfl rfl 12 (by decide) (hts _ tw_1897) (fun _ h9 => h9) rfl (tyX12_ok 12 (by decide)) rfl rfl (Nat.le_of_ble_eq_true rfl) dX12_begins_40 (fun H locs hP hD hS => ?_)
        refine lv_aload_n hx hb dX12_begins_43 rfl (lv_at hl 0 rfl) ?_
        refine z_callVv (As := []) (rest := []) (wr := []) ⟨hx, hb, hml, hown, hts⟩ hK hE hT hP hD hS hA (r_next2 l G cA h0 m_status m_thrown m_above m_under a_traySort a_trayMany a_numbers a_tape 0 nn m_faultKind m_faultAt 0 m_badAt m_token m_at 0 m_number m_letters m_word a_c a_words m_markMany a_there a_tried a_best a_found m_thereMany m_foundMany m_orderHow m_orderRing m_orderMany m_hasBest m_bestTop m_bestBy a_weights a_shared m_random m_truePlace m_trueWay m_seconds m_done m_feelings m_tries m_leftOver m_playDoor m_playRing m_isOpen m_isOver m_wasTried m_hasPlayed a_feltNow a_last a_kept m_hasSeconds m_hasTurned m_hasRound a_hasFeels a_isOn m_firstAct m_meanTop m_meanBy a_order m_rowMany m_newSteps g_tape (by omega) hr_m_at (by decide +kernel) hr_m_token hr_m_number hr_m_letters) lk_RX12_184 ⟨rfl, rfl⟩ ⟨Nat.le_of_ble_eq_true rfl, Nat.le_of_ble_eq_true rfl⟩ 12 rfl rfl rfl [0, 1] [] rfl rfl (by decide) rfl hl.1 rfl (lv_room (Nat.le_of_ble_eq_true rfl)) dX12_begins_44 ⟨Nat.le_of_ble_eq_true rfl, Nat.le_of_ble_eq_true rfl⟩ (fun u_26 H locs hw hP hD hS => ?_)
        obtain ⟨n_19, n_20, n_21, n_22, n_23, n_24⟩ := u_26
        try dsimp only at hw
        obtain ⟨he_n_19, he_n_20, he_n_21, he_n_22, he_n_23, he_n_24, hw⟩ := hw
        obtain ⟨hr_n_19, hr_n_20, hr_n_21, hr_n_22, hr_n_23, hf_28, hf_29⟩ := hw
        refine lv_iconst (v := 1) hx hb dX12_begins_47 (by decide) ?_
        have hpost : ((1 : Int32) = 0 ∧ (0 ≤ (0 : Int32).toInt ∧ (0 : Int32).toInt ≤ 900) ∧ (0 ≤ nn.toInt ∧ nn.toInt ≤ 900) ∧ (0 ≤ (0 : Int32).toInt ∧ (0 : Int32).toInt ≤ 9) ∧ (0 ≤ n_19.toInt ∧ n_19.toInt ≤ 4) ∧ (0 ≤ n_20.toInt ∧ n_20.toInt ≤ 900) ∧ (0 ≤ n_21.toInt ∧ n_21.toInt ≤ 900) ∧ (0 ≤ n_22.toInt ∧ n_22.toInt ≤ 9999) ∧ (0 ≤ n_23.toInt ∧ n_23.toInt ≤ 900) ∧ (nn.toInt < 0 ∨ m_taped.toInt < nn.toInt ∨ 300 < nn.toInt) ∧ ((0 : Int32).toInt = m_taped.toInt)) ∨ ((1 : Int32) = 1 ∧ (0 ≤ (0 : Int32).toInt ∧ (0 : Int32).toInt ≤ 0) ∧ (0 ≤ nn.toInt ∧ nn.toInt ≤ 300) ∧ (0 ≤ (0 : Int32).toInt ∧ (0 : Int32).toInt ≤ 0) ∧ (0 ≤ n_19.toInt ∧ n_19.toInt ≤ 4) ∧ (0 ≤ n_20.toInt ∧ n_20.toInt ≤ 900) ∧ (0 ≤ n_21.toInt ∧ n_21.toInt ≤ 900) ∧ (0 ≤ n_22.toInt ∧ n_22.toInt ≤ 9999) ∧ (0 ≤ n_23.toInt ∧ n_23.toInt ≤ 900) ∧ (0 ≤ nn.toInt ∧ nn.toInt ≤ m_taped.toInt ∧ nn.toInt ≤ 300) ∧ ((0 : Int32).toInt = 0)) := (Or.inr ⟨rfl, ⟨(by decide +kernel), (by omega), (by decide +kernel), hr_n_19, hr_n_20, hr_n_21, hr_n_22, hr_n_23, (by omega), (by omega)⟩⟩)
        have hX_30 : F_r_begins_300 m_status m_taped m_textEnd m_bad m_token m_at m_behind m_number m_letters m_word g_tape nn = (((1 : Int32), m_status, (0 : Int32), nn, (0 : Int32), n_19, n_20, n_21, n_22, n_23, n_24) : Int32 × Int32 × Int32 × Int32 × Int32 × Int32 × Int32 × Int32 × Int32 × Int32 × Int64) := by
          clear hret hP hD hS hl hA hT hE hK hts hown hml
          subst he_n_19
          subst he_n_20
          subst he_n_21
          subst he_n_22
          subst he_n_23
          subst he_n_24
          refine (F_r_begins_300_s ..).trans ?_
          refine (if_neg c_1).trans ?_
          refine (if_neg c_9).trans ?_
          refine (if_pos c_17).trans ?_
          exact rfl
        exact hret _ _ _ _ _ _ (m_status, 0, nn, 0, n_19, n_20, n_21, n_22, n_23, n_24) [0, 1] hP hD hS rfl (by decide) dX12_begins_48 (Or.inr rfl) ⟨(congrArg (fun z9 => z9.1) hX_30).symm, (congrArg (fun z9 => z9.2.1) hX_30).symm, (congrArg (fun z9 => z9.2.2.1) hX_30).symm, (congrArg (fun z9 => z9.2.2.2.1) hX_30).symm, (congrArg (fun z9 => z9.2.2.2.2.1) hX_30).symm, (congrArg (fun z9 => z9.2.2.2.2.2.1) hX_30).symm, (congrArg (fun z9 => z9.2.2.2.2.2.2.1) hX_30).symm, (congrArg (fun z9 => z9.2.2.2.2.2.2.2.1) hX_30).symm, (congrArg (fun z9 => z9.2.2.2.2.2.2.2.2.1) hX_30).symm, (congrArg (fun z9 => z9.2.2.2.2.2.2.2.2.2.1) hX_30).symm, (congrArg (fun z9 => z9.2.2.2.2.2.2.2.2.2.2) hX_30).symm, hpost⟩
      · have b_31 := z_fgtF c_17
        refine lv_aload_n hx hb dX12_begins_17 rfl (lv_at hl 0 rfl) ?_
        refine lv_iconst (v := 5) hx hb dX12_begins_18 (by decide) ?_
        refine z_callVi (As := [.int 5]) (rest := []) (wr := [(a_tape, .inl (cA.1 2, 900, .inl g_tape))]) ⟨hx, hb, hml, hown, hts⟩ hK hE hT hP hD hS hA (r_no l G cA h0 m_status m_thrown m_above m_under a_traySort a_trayMany a_numbers a_tape m_taped m_textEnd m_faultKind m_faultAt m_bad m_badAt m_token m_at m_behind m_number m_letters m_word a_c a_words m_markMany a_there a_tried a_best a_found m_thereMany m_foundMany m_orderHow m_orderRing m_orderMany m_hasBest m_bestTop m_bestBy a_weights a_shared m_random m_truePlace m_trueWay m_seconds m_done m_feelings m_tries m_leftOver m_playDoor m_playRing m_isOpen m_isOver m_wasTried m_hasPlayed a_feltNow a_last a_kept m_hasSeconds m_hasTurned m_hasRound a_hasFeels a_isOn m_firstAct m_meanTop m_meanBy a_order m_rowMany m_newSteps 5) lk_RX12_97 ⟨rfl, rfl⟩ ⟨Nat.le_of_ble_eq_true rfl, Nat.le_of_ble_eq_true rfl⟩ 12 rfl rfl rfl [0] [1] rfl rfl (by decide) rfl hl.1 rfl (lv_room (Nat.le_of_ble_eq_true rfl)) dX12_begins_19 ⟨Nat.le_of_ble_eq_true rfl, Nat.le_of_ble_eq_true rfl⟩ (fun r_33 u_34 H locs hw hP hD hS => ?_)
        obtain ⟨n_32, rfl⟩ : ∃ z, z = u_34 := ⟨_, rfl⟩
        obtain ⟨he_r_33, he_n_32, hw⟩ := hw
        obtain ⟨rfl, -⟩ := hw
        have hpost : ((0 : Int32) = 0 ∧ (0 ≤ m_taped.toInt ∧ m_taped.toInt ≤ 900) ∧ (0 ≤ m_textEnd.toInt ∧ m_textEnd.toInt ≤ 900) ∧ (0 ≤ m_bad.toInt ∧ m_bad.toInt ≤ 9) ∧ (0 ≤ m_token.toInt ∧ m_token.toInt ≤ 4) ∧ (0 ≤ m_at.toInt ∧ m_at.toInt ≤ 900) ∧ (0 ≤ m_behind.toInt ∧ m_behind.toInt ≤ 900) ∧ (0 ≤ m_number.toInt ∧ m_number.toInt ≤ 9999) ∧ (0 ≤ m_letters.toInt ∧ m_letters.toInt ≤ 900) ∧ (nn.toInt < 0 ∨ m_taped.toInt < nn.toInt ∨ 300 < nn.toInt) ∧ (m_taped.toInt = m_taped.toInt)) ∨ ((0 : Int32) = 1 ∧ (0 ≤ m_taped.toInt ∧ m_taped.toInt ≤ 0) ∧ (0 ≤ m_textEnd.toInt ∧ m_textEnd.toInt ≤ 300) ∧ (0 ≤ m_bad.toInt ∧ m_bad.toInt ≤ 0) ∧ (0 ≤ m_token.toInt ∧ m_token.toInt ≤ 4) ∧ (0 ≤ m_at.toInt ∧ m_at.toInt ≤ 900) ∧ (0 ≤ m_behind.toInt ∧ m_behind.toInt ≤ 900) ∧ (0 ≤ m_number.toInt ∧ m_number.toInt ≤ 9999) ∧ (0 ≤ m_letters.toInt ∧ m_letters.toInt ≤ 900) ∧ (0 ≤ nn.toInt ∧ nn.toInt ≤ m_taped.toInt ∧ nn.toInt ≤ 300) ∧ (m_taped.toInt = 0)) := (Or.inl ⟨rfl, ⟨hr_m_taped, hr_m_textEnd, hr_m_bad, hr_m_token, hr_m_at, hr_m_behind, hr_m_number, hr_m_letters, (by omega), (by omega)⟩⟩)
        have hX_36 : F_r_begins_300 m_status m_taped m_textEnd m_bad m_token m_at m_behind m_number m_letters m_word g_tape nn = (((0 : Int32), n_32, m_taped, m_textEnd, m_bad, m_token, m_at, m_behind, m_number, m_letters, m_word) : Int32 × Int32 × Int32 × Int32 × Int32 × Int32 × Int32 × Int32 × Int32 × Int32 × Int64) := by
          clear hret hP hD hS hl hA hT hE hK hts hown hml
          subst he_n_32
          refine (F_r_begins_300_s ..).trans ?_
          refine (if_neg c_1).trans ?_
          refine (if_neg c_9).trans ?_
          refine (if_neg c_17).trans ?_
          exact rfl
        exact hret _ _ _ _ _ _ (n_32, m_taped, m_textEnd, m_bad, m_token, m_at, m_behind, m_number, m_letters, m_word) [1, 0] hP hD hS rfl (by decide) dX12_begins_22 (Or.inl rfl) ⟨(congrArg (fun z9 => z9.1) hX_36).symm, (congrArg (fun z9 => z9.2.1) hX_36).symm, (congrArg (fun z9 => z9.2.2.1) hX_36).symm, (congrArg (fun z9 => z9.2.2.2.1) hX_36).symm, (congrArg (fun z9 => z9.2.2.2.2.1) hX_36).symm, (congrArg (fun z9 => z9.2.2.2.2.2.1) hX_36).symm, (congrArg (fun z9 => z9.2.2.2.2.2.2.1) hX_36).symm, (congrArg (fun z9 => z9.2.2.2.2.2.2.2.1) hX_36).symm, (congrArg (fun z9 => z9.2.2.2.2.2.2.2.2.1) hX_36).symm, (congrArg (fun z9 => z9.2.2.2.2.2.2.2.2.2.1) hX_36).symm, (congrArg (fun z9 => z9.2.2.2.2.2.2.2.2.2.2) hX_36).symm, hpost⟩
set_option maxHeartbeats 4000000 in
set_option maxRecDepth 100000 in
theorem r_isWell (l : Launch) (G : va_G) (cA : zCA) (h0 : Nat) (m_status : Int32) (m_thrown : Int32) (m_above : Int64) (m_under : Int64) (a_traySort : Nat) (a_trayMany : Nat) (a_numbers : Nat) (a_tape : Nat) (m_taped : Int32) (m_textEnd : Int32) (m_faultKind : Int32) (m_faultAt : Int32) (m_bad : Int32) (m_badAt : Int32) (m_token : Int32) (m_at : Int32) (m_behind : Int32) (m_number : Int32) (m_letters : Int32) (m_word : Int64) (a_c : Nat) (a_words : Nat) (m_markMany : Int32) (a_there : Nat) (a_tried : Nat) (a_best : Nat) (a_found : Nat) (m_thereMany : Int32) (m_foundMany : Int32) (m_orderHow : Int32) (m_orderRing : Int32) (m_orderMany : Int32) (m_hasBest : Int32) (m_bestTop : Int64) (m_bestBy : Int64) (a_weights : Nat) (a_shared : Nat) (m_random : Int32) (m_truePlace : Int32) (m_trueWay : Int32) (m_seconds : Int32) (m_done : Int32) (m_feelings : Int32) (m_tries : Int32) (m_leftOver : Int32) (m_playDoor : Int32) (m_playRing : Int32) (m_isOpen : Int32) (m_isOver : Int32) (m_wasTried : Int32) (m_hasPlayed : Int32) (a_feltNow : Nat) (a_last : Nat) (a_kept : Nat) (m_hasSeconds : Int32) (m_hasTurned : Int32) (m_hasRound : Int32) (a_hasFeels : Nat) (a_isOn : Nat) (m_firstAct : Int32) (m_meanTop : Int64) (m_meanBy : Int64) (a_order : Nat) (m_rowMany : Int32) (m_newSteps : Int32) (hr_m_bad : 0 ≤ m_bad.toInt ∧ m_bad.toInt ≤ 9) : zCi l yX12_isWell cX12_isWell 1 (some .boolean) ({ frames := 1, cells := 0, slots := 0, locals := 21 }) G cA [.ref h0] [(h0, .inr (12, [.int m_status, .int m_thrown, .long m_above, .long m_under, .ref a_traySort, .ref a_trayMany, .ref a_numbers, .ref a_tape, .int m_taped, .int m_textEnd, .int m_faultKind, .int m_faultAt, .int m_bad, .int m_badAt, .int m_token, .int m_at, .int m_behind, .int m_number, .int m_letters, .long m_word, .ref a_c, .ref a_words, .int m_markMany, .ref a_there, .ref a_tried, .ref a_best, .ref a_found, .int m_thereMany, .int m_foundMany, .int m_orderHow, .int m_orderRing, .int m_orderMany, .int m_hasBest, .long m_bestTop, .long m_bestBy, .ref a_weights, .ref a_shared, .int m_random, .int m_truePlace, .int m_trueWay, .int m_seconds, .int m_done, .int m_feelings, .int m_tries, .int m_leftOver, .int m_playDoor, .int m_playRing, .int m_isOpen, .int m_isOver, .int m_wasTried, .int m_hasPlayed, .ref a_feltNow, .ref a_last, .ref a_kept, .int m_hasSeconds, .int m_hasTurned, .int m_hasRound, .ref a_hasFeels, .ref a_isOn, .int m_firstAct, .long m_meanTop, .long m_meanBy, .ref a_order, .int m_rowMany, .int m_newSteps]))] (S := Int32 × Int32 × Int32) (fun (r : Int32) (u : Int32 × Int32 × Int32) => (r = (F_r_isWell m_status m_bad m_badAt).1) ∧ (u.1 = (F_r_isWell m_status m_bad m_badAt).2.1) ∧ (u.2.1 = (F_r_isWell m_status m_bad m_badAt).2.2.1) ∧ (u.2.2 = (F_r_isWell m_status m_bad m_badAt).2.2.2) ∧ ((r = 0 ∧ (1 ≤ u.2.1.toInt ∧ u.2.1.toInt ≤ 9) ∧ (0 < m_bad.toInt)) ∨ (r = 1 ∧ (0 ≤ u.2.1.toInt ∧ u.2.1.toInt ≤ 0) ∧ ((-1) ≤ u.2.2.toInt ∧ u.2.2.toInt ≤ (-1)) ∧ (m_bad.toInt = 0)))) (fun (u : Int32 × Int32 × Int32) => [(h0, .inr (12, [.int u.1, .int m_thrown, .long m_above, .long m_under, .ref a_traySort, .ref a_trayMany, .ref a_numbers, .ref a_tape, .int m_taped, .int m_textEnd, .int u.2.1, .int u.2.2, .int m_bad, .int m_badAt, .int m_token, .int m_at, .int m_behind, .int m_number, .int m_letters, .long m_word, .ref a_c, .ref a_words, .int m_markMany, .ref a_there, .ref a_tried, .ref a_best, .ref a_found, .int m_thereMany, .int m_foundMany, .int m_orderHow, .int m_orderRing, .int m_orderMany, .int m_hasBest, .long m_bestTop, .long m_bestBy, .ref a_weights, .ref a_shared, .int m_random, .int m_truePlace, .int m_trueWay, .int m_seconds, .int m_done, .int m_feelings, .int m_tries, .int m_leftOver, .int m_playDoor, .int m_playRing, .int m_isOpen, .int m_isOver, .int m_wasTried, .int m_hasPlayed, .ref a_feltNow, .ref a_last, .ref a_kept, .int m_hasSeconds, .int m_hasTurned, .int m_hasRound, .ref a_hasFeels, .ref a_isOn, .int m_firstAct, .long m_meanTop, .long m_meanBy, .ref a_order, .int m_rowMany, .int m_newSteps]))]) 0 0 := by
  have hk_0 : (0 : Int32).toInt = 0 := by decide +kernel
  have hk_10 : (10 : Int32).toInt = 10 := by decide +kernel
  refine z_start2z (own := RX12) (by decide) (Nat.le_of_ble_eq_true rfl) rfl ?_
  intro p e s m args below meth c A ls Q hx hb hml hts hown hK hE hT hP hD hS hA hl hret
  have hl : lv_has ls 1 [(0, .ref h0)] := hl
  refine lv_aload_n hx hb dX12_isWell_0 rfl (lv_at hl 0 rfl) ?_
  refine lv_aload_n hx hb dX12_isWell_1 rfl (lv_at hl 0 rfl) ?_
  refine va_get (D := G) (ci := 12) (v := .int m_bad) (C := RX12) (T := TX12) (N := 65) hx hb hts inT12 hown hK hP 0 rfl rfl 12 (by decide) (hts _ tw_1897) (fun _ h9 => h9) rfl dX12_isWell_2 ?_
  refine va_put (D := G) (ci := 12) (v := .int m_bad) (ty := .int) (C := RX12) (T := TX12) (N := 65) hx hb hts inT12 tyX12 tyX12_ok nmX12 hown hK hP hD hS 0 rfl rfl 10 (by decide) (hts _ tw_1895) (fun _ h9 => h9) rfl (tyX12_ok 10 (by decide)) rfl rfl (Nat.le_of_ble_eq_true rfl) dX12_isWell_5 (fun H locs hP hD hS => ?_)
  refine lv_aload_n hx hb dX12_isWell_8 rfl (lv_at hl 0 rfl) ?_
  refine lv_aload_n hx hb dX12_isWell_9 rfl (lv_at hl 0 rfl) ?_
  refine va_get (D := G) (ci := 12) (v := .int m_bad) (C := RX12) (T := TX12) (N := 65) hx hb hts inT12 hown hK hP 0 rfl rfl 12 (by decide) (hts _ tw_1897) (fun _ h9 => h9) rfl dX12_isWell_10 ?_
  refine lv_if_ne (tgt := 20) hx hb dX12_isWell_13 (by decide) (fun c_1 => ?_) (fun c_1 => ?_)
  · have b_2 := z_fneT c_1
    refine lv_aload_n hx hb dX12_isWell_20 rfl (lv_at hl 0 rfl) ?_
    refine va_get (D := G) (ci := 12) (v := .int m_badAt) (C := RX12) (T := TX12) (N := 65) hx hb hts inT12 hown hK hP 0 rfl rfl 13 (by decide) (hts _ tw_1898) (fun _ h9 => h9) rfl dX12_isWell_21 ?_
    refine va_put (D := G) (ci := 12) (v := .int m_badAt) (ty := .int) (C := RX12) (T := TX12) (N := 65) hx hb hts inT12 tyX12 tyX12_ok nmX12 hown hK hP hD hS 0 rfl rfl 11 (by decide) (hts _ tw_1896) (fun _ h9 => h9) rfl (tyX12_ok 11 (by decide)) rfl rfl (Nat.le_of_ble_eq_true rfl) dX12_isWell_24 (fun H locs hP hD hS => ?_)
    refine lv_aload_n hx hb dX12_isWell_27 rfl (lv_at hl 0 rfl) ?_
    refine va_get (D := G) (ci := 12) (v := .int m_bad) (C := RX12) (T := TX12) (N := 65) hx hb hts inT12 hown hK hP 0 rfl rfl 12 (by decide) (hts _ tw_1897) (fun _ h9 => h9) rfl dX12_isWell_28 ?_
    refine lv_if_eq (tgt := 43) hx hb dX12_isWell_31 (by decide) (fun h9 => (z_no (by have h8 := z_feqT h9; omega))) (fun c_3 => ?_)
    have b_4 := z_fneF c_3
    refine lv_aload_n hx hb dX12_isWell_34 rfl (lv_at hl 0 rfl) ?_
    refine lv_bipush (v := 10) hx hb dX12_isWell_35 (by decide) ?_
    refine z_callVi (As := [.int 10]) (rest := []) (wr := []) ⟨hx, hb, hml, hown, hts⟩ hK hE hT hP hD hS hA (r_no l G cA h0 m_status m_thrown m_above m_under a_traySort a_trayMany a_numbers a_tape m_taped m_textEnd m_bad m_badAt m_bad m_badAt m_token m_at m_behind m_number m_letters m_word a_c a_words m_markMany a_there a_tried a_best a_found m_thereMany m_foundMany m_orderHow m_orderRing m_orderMany m_hasBest m_bestTop m_bestBy a_weights a_shared m_random m_truePlace m_trueWay m_seconds m_done m_feelings m_tries m_leftOver m_playDoor m_playRing m_isOpen m_isOver m_wasTried m_hasPlayed a_feltNow a_last a_kept m_hasSeconds m_hasTurned m_hasRound a_hasFeels a_isOn m_firstAct m_meanTop m_meanBy a_order m_rowMany m_newSteps 10) lk_RX12_97 ⟨rfl, rfl⟩ ⟨Nat.le_of_ble_eq_true rfl, Nat.le_of_ble_eq_true rfl⟩ 12 rfl rfl rfl [0] [] rfl rfl (by decide) rfl hl.1 rfl (lv_room (Nat.le_of_ble_eq_true rfl)) dX12_isWell_37 ⟨Nat.le_of_ble_eq_true rfl, Nat.le_of_ble_eq_true rfl⟩ (fun r_6 u_7 H locs hw hP hD hS => ?_)
    obtain ⟨n_5, rfl⟩ : ∃ z, z = u_7 := ⟨_, rfl⟩
    obtain ⟨he_r_6, he_n_5, hw⟩ := hw
    obtain ⟨rfl, -⟩ := hw
    refine lv_if_eq (tgt := 47) hx hb dX12_isWell_40 (by decide) (fun _ => ?_) (fun h9 => absurd (by decide +kernel) h9)
    refine lv_iconst (v := 0) hx hb dX12_isWell_47 (by decide) ?_
    have hpost : ((0 : Int32) = 0 ∧ (1 ≤ m_bad.toInt ∧ m_bad.toInt ≤ 9) ∧ (0 < m_bad.toInt)) ∨ ((0 : Int32) = 1 ∧ (0 ≤ m_bad.toInt ∧ m_bad.toInt ≤ 0) ∧ ((-1) ≤ m_badAt.toInt ∧ m_badAt.toInt ≤ (-1)) ∧ (m_bad.toInt = 0)) := (Or.inl ⟨rfl, ⟨(by omega), (by omega)⟩⟩)
    have hX_9 : F_r_isWell m_status m_bad m_badAt = (((0 : Int32), n_5, m_bad, m_badAt) : Int32 × Int32 × Int32 × Int32) := by
      clear hret hP hD hS hl hA hT hE hK hts hown hml
      subst he_n_5
      refine (F_r_isWell_s ..).trans ?_
      refine (if_neg c_1).trans ?_
      exact rfl
    exact hret _ _ _ _ _ _ (n_5, m_bad, m_badAt) [0] hP hD hS rfl (by decide) dX12_isWell_48 (Or.inl rfl) ⟨(congrArg (fun z9 => z9.1) hX_9).symm, (congrArg (fun z9 => z9.2.1) hX_9).symm, (congrArg (fun z9 => z9.2.2.1) hX_9).symm, (congrArg (fun z9 => z9.2.2.2) hX_9).symm, hpost⟩
  · have b_10 := z_feqF c_1
    refine lv_iconst (v := (-1)) hx hb dX12_isWell_16 (by decide) ?_
    refine lv_goto (tgt := 24) hx hb dX12_isWell_17 (by decide) ?_
    refine va_put (D := G) (ci := 12) (v := .int (-1)) (ty := .int) (C := RX12) (T := TX12) (N := 65) hx hb hts inT12 tyX12 tyX12_ok nmX12 hown hK hP hD hS 0 rfl rfl 11 (by decide) (hts _ tw_1896) (fun _ h9 => h9) rfl (tyX12_ok 11 (by decide)) rfl rfl (Nat.le_of_ble_eq_true rfl) dX12_isWell_24 (fun H locs hP hD hS => ?_)
    refine lv_aload_n hx hb dX12_isWell_27 rfl (lv_at hl 0 rfl) ?_
    refine va_get (D := G) (ci := 12) (v := .int m_bad) (C := RX12) (T := TX12) (N := 65) hx hb hts inT12 hown hK hP 0 rfl rfl 12 (by decide) (hts _ tw_1897) (fun _ h9 => h9) rfl dX12_isWell_28 ?_
    refine lv_if_eq (tgt := 43) hx hb dX12_isWell_31 (by decide) (fun c_11 => ?_) (fun h9 => (z_no (by have h8 := z_fneF h9; omega)))
    have b_12 := z_feqT c_11
    refine lv_iconst (v := 1) hx hb dX12_isWell_43 (by decide) ?_
    refine lv_goto (tgt := 48) hx hb dX12_isWell_44 (by decide) ?_
    have hpost : ((1 : Int32) = 0 ∧ (1 ≤ m_bad.toInt ∧ m_bad.toInt ≤ 9) ∧ (0 < m_bad.toInt)) ∨ ((1 : Int32) = 1 ∧ (0 ≤ m_bad.toInt ∧ m_bad.toInt ≤ 0) ∧ ((-1) ≤ ((-1) : Int32).toInt ∧ ((-1) : Int32).toInt ≤ (-1)) ∧ (m_bad.toInt = 0)) := (Or.inr ⟨rfl, ⟨(by omega), (by decide +kernel), (by omega)⟩⟩)
    have hX_13 : F_r_isWell m_status m_bad m_badAt = (((1 : Int32), m_status, m_bad, (-1 : Int32)) : Int32 × Int32 × Int32 × Int32) := by
      clear hret hP hD hS hl hA hT hE hK hts hown hml
      refine (F_r_isWell_s ..).trans ?_
      refine (if_pos c_1).trans ?_
      exact rfl
    exact hret _ _ _ _ _ _ (m_status, m_bad, (-1)) [0] hP hD hS rfl (by decide) dX12_isWell_48 (Or.inr rfl) ⟨(congrArg (fun z9 => z9.1) hX_13).symm, (congrArg (fun z9 => z9.2.1) hX_13).symm, (congrArg (fun z9 => z9.2.2.1) hX_13).symm, (congrArg (fun z9 => z9.2.2.2) hX_13).symm, hpost⟩
set_option maxHeartbeats 4000000 in
set_option maxRecDepth 100000 in
theorem r_fault (l : Launch) (G : va_G) (cA : zCA) (h0 : Nat) (m_status : Int32) (m_thrown : Int32) (m_above : Int64) (m_under : Int64) (a_traySort : Nat) (a_trayMany : Nat) (a_numbers : Nat) (a_tape : Nat) (m_taped : Int32) (m_textEnd : Int32) (m_faultKind : Int32) (m_faultAt : Int32) (m_bad : Int32) (m_badAt : Int32) (m_token : Int32) (m_at : Int32) (m_behind : Int32) (m_number : Int32) (m_letters : Int32) (m_word : Int64) (a_c : Nat) (a_words : Nat) (m_markMany : Int32) (a_there : Nat) (a_tried : Nat) (a_best : Nat) (a_found : Nat) (m_thereMany : Int32) (m_foundMany : Int32) (m_orderHow : Int32) (m_orderRing : Int32) (m_orderMany : Int32) (m_hasBest : Int32) (m_bestTop : Int64) (m_bestBy : Int64) (a_weights : Nat) (a_shared : Nat) (m_random : Int32) (m_truePlace : Int32) (m_trueWay : Int32) (m_seconds : Int32) (m_done : Int32) (m_feelings : Int32) (m_tries : Int32) (m_leftOver : Int32) (m_playDoor : Int32) (m_playRing : Int32) (m_isOpen : Int32) (m_isOver : Int32) (m_wasTried : Int32) (m_hasPlayed : Int32) (a_feltNow : Nat) (a_last : Nat) (a_kept : Nat) (m_hasSeconds : Int32) (m_hasTurned : Int32) (m_hasRound : Int32) (a_hasFeels : Nat) (a_isOn : Nat) (m_firstAct : Int32) (m_meanTop : Int64) (m_meanBy : Int64) (a_order : Nat) (m_rowMany : Int32) (m_newSteps : Int32) (w : Int32) : zCi l yX12_fault cX12_fault 2 (some .int) ({ frames := 0, cells := 0, slots := 0, locals := 0 }) G cA [.ref h0, .int w] [(h0, .inr (12, [.int m_status, .int m_thrown, .long m_above, .long m_under, .ref a_traySort, .ref a_trayMany, .ref a_numbers, .ref a_tape, .int m_taped, .int m_textEnd, .int m_faultKind, .int m_faultAt, .int m_bad, .int m_badAt, .int m_token, .int m_at, .int m_behind, .int m_number, .int m_letters, .long m_word, .ref a_c, .ref a_words, .int m_markMany, .ref a_there, .ref a_tried, .ref a_best, .ref a_found, .int m_thereMany, .int m_foundMany, .int m_orderHow, .int m_orderRing, .int m_orderMany, .int m_hasBest, .long m_bestTop, .long m_bestBy, .ref a_weights, .ref a_shared, .int m_random, .int m_truePlace, .int m_trueWay, .int m_seconds, .int m_done, .int m_feelings, .int m_tries, .int m_leftOver, .int m_playDoor, .int m_playRing, .int m_isOpen, .int m_isOver, .int m_wasTried, .int m_hasPlayed, .ref a_feltNow, .ref a_last, .ref a_kept, .int m_hasSeconds, .int m_hasTurned, .int m_hasRound, .ref a_hasFeels, .ref a_isOn, .int m_firstAct, .long m_meanTop, .long m_meanBy, .ref a_order, .int m_rowMany, .int m_newSteps]))] (S := Int32) (fun (r : Int32) (u : Int32) => (0 ≤ u.toInt ∧ u.toInt ≤ 0)) (fun (u : Int32) => [(h0, .inr (12, [.int m_status, .int u, .long m_above, .long m_under, .ref a_traySort, .ref a_trayMany, .ref a_numbers, .ref a_tape, .int m_taped, .int m_textEnd, .int m_faultKind, .int m_faultAt, .int m_bad, .int m_badAt, .int m_token, .int m_at, .int m_behind, .int m_number, .int m_letters, .long m_word, .ref a_c, .ref a_words, .int m_markMany, .ref a_there, .ref a_tried, .ref a_best, .ref a_found, .int m_thereMany, .int m_foundMany, .int m_orderHow, .int m_orderRing, .int m_orderMany, .int m_hasBest, .long m_bestTop, .long m_bestBy, .ref a_weights, .ref a_shared, .int m_random, .int m_truePlace, .int m_trueWay, .int m_seconds, .int m_done, .int m_feelings, .int m_tries, .int m_leftOver, .int m_playDoor, .int m_playRing, .int m_isOpen, .int m_isOver, .int m_wasTried, .int m_hasPlayed, .ref a_feltNow, .ref a_last, .ref a_kept, .int m_hasSeconds, .int m_hasTurned, .int m_hasRound, .ref a_hasFeels, .ref a_isOn, .int m_firstAct, .long m_meanTop, .long m_meanBy, .ref a_order, .int m_rowMany, .int m_newSteps]))]) 0 0 := by
  have hk_0 : (0 : Int32).toInt = 0 := by decide +kernel
  have hk_1 : (1 : Int32).toInt = 1 := by decide +kernel
  refine z_start2i (own := RX12) (by decide) (Nat.le_of_ble_eq_true rfl) rfl ?_
  intro p e s m args below meth c A ls Q hx hb hml hts hown hK hE hT hP hD hS hA hl hret
  have hl : lv_has ls 2 [(0, .ref h0), (1, .int w)] := hl
  refine lv_aload_n hx hb dX12_fault_0 rfl (lv_at hl 0 rfl) ?_
  refine lv_iconst (v := 0) hx hb dX12_fault_1 (by decide) ?_
  refine va_put (D := G) (ci := 12) (v := .int 0) (ty := .int) (C := RX12) (T := TX12) (N := 65) hx hb hts inT12 tyX12 tyX12_ok nmX12 hown hK hP hD hS 0 rfl rfl 1 (by decide) (hts _ tw_1886) (fun _ h9 => h9) rfl (tyX12_ok 1 (by decide)) rfl rfl (Nat.le_of_ble_eq_true rfl) dX12_fault_2 (fun H locs hP hD hS => ?_)
  refine lv_iload_n hx hb dX12_fault_5 rfl (lv_at hl 1 rfl) ?_
  refine lv_if_ne (tgt := 16) hx hb dX12_fault_6 (by decide) (fun c_1 => ?_) (fun c_1 => ?_)
  · have b_2 := z_fneT c_1
    refine lv_iload_n hx hb dX12_fault_16 rfl (lv_at hl 1 rfl) ?_
    refine lv_iconst (v := 1) hx hb dX12_fault_17 (by decide) ?_
    refine lv_icmp_ne (tgt := 28) hx hb dX12_fault_18 (by decide) (fun c_3 => ?_) (fun c_3 => ?_)
    · have b_4 := z_fneT c_3
      refine lv_iconst (v := (-1)) hx hb dX12_fault_28 (by decide) ?_
      have hpost : (0 ≤ (0 : Int32).toInt ∧ (0 : Int32).toInt ≤ 0) := (by decide +kernel)
      exact hret _ _ _ _ _ _ 0 [0] hP hD hS rfl (by decide) dX12_fault_29 hpost
    · have b_5 := z_feqF c_3
      refine lv_aload_n hx hb dX12_fault_21 rfl (lv_at hl 0 rfl) ?_
      refine va_get (D := G) (ci := 12) (v := .int m_faultAt) (C := RX12) (T := TX12) (N := 65) hx hb hts inT12 hown hK hP 0 rfl rfl 11 (by decide) (hts _ tw_1896) (fun _ h9 => h9) rfl dX12_fault_22 ?_
      refine lv_goto (tgt := 29) hx hb dX12_fault_25 (by decide) ?_
      have hpost : (0 ≤ (0 : Int32).toInt ∧ (0 : Int32).toInt ≤ 0) := (by decide +kernel)
      exact hret _ _ _ _ _ _ 0 [0] hP hD hS rfl (by decide) dX12_fault_29 hpost
  · have b_6 := z_feqF c_1
    refine lv_aload_n hx hb dX12_fault_9 rfl (lv_at hl 0 rfl) ?_
    refine va_get (D := G) (ci := 12) (v := .int m_faultKind) (C := RX12) (T := TX12) (N := 65) hx hb hts inT12 hown hK hP 0 rfl rfl 10 (by decide) (hts _ tw_1895) (fun _ h9 => h9) rfl dX12_fault_10 ?_
    refine lv_goto (tgt := 29) hx hb dX12_fault_13 (by decide) ?_
    have hpost : (0 ≤ (0 : Int32).toInt ∧ (0 : Int32).toInt ≤ 0) := (by decide +kernel)
    exact hret _ _ _ _ _ _ 0 [0] hP hD hS rfl (by decide) dX12_fault_29 hpost
set_option maxHeartbeats 4000000 in
set_option maxRecDepth 100000 in
theorem r_houseWord (l : Launch) (G : va_G) (cA : zCA) (h0 : Nat) (m_status : Int32) (m_thrown : Int32) (m_above : Int64) (m_under : Int64) (a_traySort : Nat) (a_trayMany : Nat) (a_numbers : Nat) (a_tape : Nat) (m_taped : Int32) (m_textEnd : Int32) (m_faultKind : Int32) (m_faultAt : Int32) (m_bad : Int32) (m_badAt : Int32) (m_token : Int32) (m_at : Int32) (m_behind : Int32) (m_number : Int32) (m_letters : Int32) (m_word : Int64) (a_c : Nat) (a_words : Nat) (m_markMany : Int32) (a_there : Nat) (a_tried : Nat) (a_best : Nat) (a_found : Nat) (m_thereMany : Int32) (m_foundMany : Int32) (m_orderHow : Int32) (m_orderRing : Int32) (m_orderMany : Int32) (m_hasBest : Int32) (m_bestTop : Int64) (m_bestBy : Int64) (a_weights : Nat) (a_shared : Nat) (m_random : Int32) (m_truePlace : Int32) (m_trueWay : Int32) (m_seconds : Int32) (m_done : Int32) (m_feelings : Int32) (m_tries : Int32) (m_leftOver : Int32) (m_playDoor : Int32) (m_playRing : Int32) (m_isOpen : Int32) (m_isOver : Int32) (m_wasTried : Int32) (m_hasPlayed : Int32) (a_feltNow : Nat) (a_last : Nat) (a_kept : Nat) (m_hasSeconds : Int32) (m_hasTurned : Int32) (m_hasRound : Int32) (a_hasFeels : Nat) (a_isOn : Nat) (m_firstAct : Int32) (m_meanTop : Int64) (m_meanBy : Int64) (a_order : Nat) (m_rowMany : Int32) (m_newSteps : Int32) (hr_m_token : 0 ≤ m_token.toInt ∧ m_token.toInt ≤ 4) : zCi l yX12_houseWord cX12_houseWord 1 (some .int) ({ frames := 1, cells := 0, slots := 0, locals := 27 }) G cA [.ref h0] [(h0, .inr (12, [.int m_status, .int m_thrown, .long m_above, .long m_under, .ref a_traySort, .ref a_trayMany, .ref a_numbers, .ref a_tape, .int m_taped, .int m_textEnd, .int m_faultKind, .int m_faultAt, .int m_bad, .int m_badAt, .int m_token, .int m_at, .int m_behind, .int m_number, .int m_letters, .long m_word, .ref a_c, .ref a_words, .int m_markMany, .ref a_there, .ref a_tried, .ref a_best, .ref a_found, .int m_thereMany, .int m_foundMany, .int m_orderHow, .int m_orderRing, .int m_orderMany, .int m_hasBest, .long m_bestTop, .long m_bestBy, .ref a_weights, .ref a_shared, .int m_random, .int m_truePlace, .int m_trueWay, .int m_seconds, .int m_done, .int m_feelings, .int m_tries, .int m_leftOver, .int m_playDoor, .int m_playRing, .int m_isOpen, .int m_isOver, .int m_wasTried, .int m_hasPlayed, .ref a_feltNow, .ref a_last, .ref a_kept, .int m_hasSeconds, .int m_hasTurned, .int m_hasRound, .ref a_hasFeels, .ref a_isOn, .int m_firstAct, .long m_meanTop, .long m_meanBy, .ref a_order, .int m_rowMany, .int m_newSteps]))] (S := Unit) (fun (r : Int32) (u : Unit) => (r = (F_r_houseWord m_token m_word)) ∧ (((-1) ≤ r.toInt ∧ r.toInt ≤ 14) ∧ (r.toInt < 0 ∨ m_token.toInt = 1))) (fun (u : Unit) => [(h0, .inr (12, [.int m_status, .int m_thrown, .long m_above, .long m_under, .ref a_traySort, .ref a_trayMany, .ref a_numbers, .ref a_tape, .int m_taped, .int m_textEnd, .int m_faultKind, .int m_faultAt, .int m_bad, .int m_badAt, .int m_token, .int m_at, .int m_behind, .int m_number, .int m_letters, .long m_word, .ref a_c, .ref a_words, .int m_markMany, .ref a_there, .ref a_tried, .ref a_best, .ref a_found, .int m_thereMany, .int m_foundMany, .int m_orderHow, .int m_orderRing, .int m_orderMany, .int m_hasBest, .long m_bestTop, .long m_bestBy, .ref a_weights, .ref a_shared, .int m_random, .int m_truePlace, .int m_trueWay, .int m_seconds, .int m_done, .int m_feelings, .int m_tries, .int m_leftOver, .int m_playDoor, .int m_playRing, .int m_isOpen, .int m_isOver, .int m_wasTried, .int m_hasPlayed, .ref a_feltNow, .ref a_last, .ref a_kept, .int m_hasSeconds, .int m_hasTurned, .int m_hasRound, .ref a_hasFeels, .ref a_isOn, .int m_firstAct, .long m_meanTop, .long m_meanBy, .ref a_order, .int m_rowMany, .int m_newSteps]))]) 0 0 := by
  have hk_m1 : ((-1) : Int32).toInt = (-1) := by decide +kernel
  have hk_0 : (0 : Int32).toInt = 0 := by decide +kernel
  have hk_1 : (1 : Int32).toInt = 1 := by decide +kernel
  have hk_2 : (2 : Int32).toInt = 2 := by decide +kernel
  have hk_3 : (3 : Int32).toInt = 3 := by decide +kernel
  have hk_4 : (4 : Int32).toInt = 4 := by decide +kernel
  have hk_5 : (5 : Int32).toInt = 5 := by decide +kernel
  have hk_6 : (6 : Int32).toInt = 6 := by decide +kernel
  have hk_7 : (7 : Int32).toInt = 7 := by decide +kernel
  have hk_8 : (8 : Int32).toInt = 8 := by decide +kernel
  have hk_9 : (9 : Int32).toInt = 9 := by decide +kernel
  have hk_10 : (10 : Int32).toInt = 10 := by decide +kernel
  have hk_11 : (11 : Int32).toInt = 11 := by decide +kernel
  have hk_12 : (12 : Int32).toInt = 12 := by decide +kernel
  have hk_13 : (13 : Int32).toInt = 13 := by decide +kernel
  have hk_14 : (14 : Int32).toInt = 14 := by decide +kernel
  have hk_97 : (97 : Int32).toInt = 97 := by decide +kernel
  have hk_98 : (98 : Int32).toInt = 98 := by decide +kernel
  have hk_99 : (99 : Int32).toInt = 99 := by decide +kernel
  have hk_100 : (100 : Int32).toInt = 100 := by decide +kernel
  have hk_101 : (101 : Int32).toInt = 101 := by decide +kernel
  have hk_102 : (102 : Int32).toInt = 102 := by decide +kernel
  have hk_103 : (103 : Int32).toInt = 103 := by decide +kernel
  have hk_105 : (105 : Int32).toInt = 105 := by decide +kernel
  have hk_107 : (107 : Int32).toInt = 107 := by decide +kernel
  have hk_108 : (108 : Int32).toInt = 108 := by decide +kernel
  have hk_110 : (110 : Int32).toInt = 110 := by decide +kernel
  have hk_111 : (111 : Int32).toInt = 111 := by decide +kernel
  have hk_112 : (112 : Int32).toInt = 112 := by decide +kernel
  have hk_114 : (114 : Int32).toInt = 114 := by decide +kernel
  have hk_115 : (115 : Int32).toInt = 115 := by decide +kernel
  have hk_116 : (116 : Int32).toInt = 116 := by decide +kernel
  have hk_117 : (117 : Int32).toInt = 117 := by decide +kernel
  have hk_119 : (119 : Int32).toInt = 119 := by decide +kernel
  have hk_121 : (121 : Int32).toInt = 121 := by decide +kernel
  have hkl_32 : (32 : Int64).toInt = 32 := by decide +kernel
  have hkl_96 : (96 : Int64).toInt = 96 := by decide +kernel
  have hkl_101 : (101 : Int64).toInt = 101 := by decide +kernel
  have hkl_115 : (115 : Int64).toInt = 115 := by decide +kernel
  refine z_start2i (own := RX12) (by decide) (Nat.le_of_ble_eq_true rfl) rfl ?_
  intro p e s m args below meth c A ls Q hx hb hml hts hown hK hE hT hP hD hS hA hl hret
  have hl : lv_has ls 1 [(0, .ref h0)] := hl
  refine lv_aload_n hx hb dX12_houseWord_0 rfl (lv_at hl 0 rfl) ?_
  refine lv_bipush (v := 102) hx hb dX12_houseWord_1 (by decide) ?_
  refine lv_bipush (v := 101) hx hb dX12_houseWord_3 (by decide) ?_
  refine lv_bipush (v := 97) hx hb dX12_houseWord_5 (by decide) ?_
  refine lv_bipush (v := 116) hx hb dX12_houseWord_7 (by decide) ?_
  refine lv_bipush (v := 117) hx hb dX12_houseWord_9 (by decide) ?_
  refine lv_bipush (v := 114) hx hb dX12_houseWord_11 (by decide) ?_
  refine z_callSl (As := [.int 102, .int 101, .int 97, .int 116, .int 117, .int 114]) (rest := [.ref h0]) (wr := [(h0, .inr (12, [.int m_status, .int m_thrown, .long m_above, .long m_under, .ref a_traySort, .ref a_trayMany, .ref a_numbers, .ref a_tape, .int m_taped, .int m_textEnd, .int m_faultKind, .int m_faultAt, .int m_bad, .int m_badAt, .int m_token, .int m_at, .int m_behind, .int m_number, .int m_letters, .long m_word, .ref a_c, .ref a_words, .int m_markMany, .ref a_there, .ref a_tried, .ref a_best, .ref a_found, .int m_thereMany, .int m_foundMany, .int m_orderHow, .int m_orderRing, .int m_orderMany, .int m_hasBest, .long m_bestTop, .long m_bestBy, .ref a_weights, .ref a_shared, .int m_random, .int m_truePlace, .int m_trueWay, .int m_seconds, .int m_done, .int m_feelings, .int m_tries, .int m_leftOver, .int m_playDoor, .int m_playRing, .int m_isOpen, .int m_isOver, .int m_wasTried, .int m_hasPlayed, .ref a_feltNow, .ref a_last, .ref a_kept, .int m_hasSeconds, .int m_hasTurned, .int m_hasRound, .ref a_hasFeels, .ref a_isOn, .int m_firstAct, .long m_meanTop, .long m_meanBy, .ref a_order, .int m_rowMany, .int m_newSteps]))]) ⟨hx, hb, hml, hown, hts⟩ hK hE hT hP hD hS hA (r_spelled l G cA 102 101 97 116 117 114 (by decide +kernel) (by decide +kernel) (by decide +kernel) (by decide +kernel) (by decide +kernel) (by decide +kernel)) lk_RX12_158 ⟨rfl, rfl⟩ ⟨Nat.le_of_ble_eq_true rfl, Nat.le_of_ble_eq_true rfl⟩ [] [0] rfl rfl (by decide) rfl hl.1 rfl (lv_room (Nat.le_of_ble_eq_true rfl)) dX12_houseWord_13 ⟨Nat.le_of_ble_eq_true rfl, Nat.le_of_ble_eq_true rfl⟩ (fun r_1 u_2 H locs hw hP hD hS => ?_)
  obtain ⟨he_r_1, hw⟩ := hw
  have hr_r_1 := hw
  refine lv_ldc2 (v := 32) hx hb hown (hts _ tw_2154) dX12_houseWord_16 ?_
  refine lv_lmul hx hb dX12_houseWord_19 ?_
  refine lv_topl (fun x_4 he_x_4 => ?_)
  have hq_x_4 := z_mulql he_x_4 (rfl : r_1.toInt = _) hkl_32 (by omega) (by omega)
  refine lv_ldc2 (v := 101) hx hb hown (hts _ tw_2170) dX12_houseWord_20 ?_
  refine lv_ladd hx hb dX12_houseWord_23 ?_
  refine lv_topl (fun x_5 he_x_5 => ?_)
  have hq_x_5 := z_addql he_x_5 (rfl : x_4.toInt = _) hkl_101 (by omega) (by omega)
  refine lv_ldc2 (v := 96) hx hb hown (hts _ tw_2155) dX12_houseWord_24 ?_
  refine lv_lsub hx hb dX12_houseWord_27 ?_
  refine lv_topl (fun x_6 he_x_6 => ?_)
  have hq_x_6 := z_subql he_x_6 (rfl : x_5.toInt = _) hkl_96 (by omega) (by omega)
  refine z_callVi (As := [.long x_6]) (rest := []) (wr := []) ⟨hx, hb, hml, hown, hts⟩ hK hE hT hP hD hS hA (r_isWord l G cA h0 m_status m_thrown m_above m_under a_traySort a_trayMany a_numbers a_tape m_taped m_textEnd m_faultKind m_faultAt m_bad m_badAt m_token m_at m_behind m_number m_letters m_word a_c a_words m_markMany a_there a_tried a_best a_found m_thereMany m_foundMany m_orderHow m_orderRing m_orderMany m_hasBest m_bestTop m_bestBy a_weights a_shared m_random m_truePlace m_trueWay m_seconds m_done m_feelings m_tries m_leftOver m_playDoor m_playRing m_isOpen m_isOver m_wasTried m_hasPlayed a_feltNow a_last a_kept m_hasSeconds m_hasTurned m_hasRound a_hasFeels a_isOn m_firstAct m_meanTop m_meanBy a_order m_rowMany m_newSteps x_6 hr_m_token) lk_RX12_164 ⟨rfl, rfl⟩ ⟨Nat.le_of_ble_eq_true rfl, Nat.le_of_ble_eq_true rfl⟩ 12 rfl rfl rfl [0] [] rfl rfl (by decide) rfl hl.1 rfl (lv_room (Nat.le_of_ble_eq_true rfl)) dX12_houseWord_28 ⟨Nat.le_of_ble_eq_true rfl, Nat.le_of_ble_eq_true rfl⟩ (fun r_7 u_8 H locs hw hP hD hS => ?_)
  obtain ⟨he_r_7, hw⟩ := hw
  rcases hw with ⟨rfl, -⟩ | ⟨rfl, hf_10⟩
  · skip
    refine lv_if_eq (tgt := 36) hx hb dX12_houseWord_31 (by decide) (fun _ => ?_) (fun h9 => absurd (by decide +kernel) h9)
    refine lv_aload_n hx hb dX12_houseWord_36 rfl (lv_at hl 0 rfl) ?_
    refine lv_bipush (v := 102) hx hb dX12_houseWord_37 (by decide) ?_
    refine lv_bipush (v := 101) hx hb dX12_houseWord_39 (by decide) ?_
    refine lv_bipush (v := 101) hx hb dX12_houseWord_41 (by decide) ?_
    refine lv_bipush (v := 108) hx hb dX12_houseWord_43 (by decide) ?_
    refine lv_bipush (v := 115) hx hb dX12_houseWord_45 (by decide) ?_
    refine lv_iconst (v := 0) hx hb dX12_houseWord_47 (by decide) ?_
    refine z_callSl (As := [.int 102, .int 101, .int 101, .int 108, .int 115, .int 0]) (rest := [.ref h0]) (wr := [(h0, .inr (12, [.int m_status, .int m_thrown, .long m_above, .long m_under, .ref a_traySort, .ref a_trayMany, .ref a_numbers, .ref a_tape, .int m_taped, .int m_textEnd, .int m_faultKind, .int m_faultAt, .int m_bad, .int m_badAt, .int m_token, .int m_at, .int m_behind, .int m_number, .int m_letters, .long m_word, .ref a_c, .ref a_words, .int m_markMany, .ref a_there, .ref a_tried, .ref a_best, .ref a_found, .int m_thereMany, .int m_foundMany, .int m_orderHow, .int m_orderRing, .int m_orderMany, .int m_hasBest, .long m_bestTop, .long m_bestBy, .ref a_weights, .ref a_shared, .int m_random, .int m_truePlace, .int m_trueWay, .int m_seconds, .int m_done, .int m_feelings, .int m_tries, .int m_leftOver, .int m_playDoor, .int m_playRing, .int m_isOpen, .int m_isOver, .int m_wasTried, .int m_hasPlayed, .ref a_feltNow, .ref a_last, .ref a_kept, .int m_hasSeconds, .int m_hasTurned, .int m_hasRound, .ref a_hasFeels, .ref a_isOn, .int m_firstAct, .long m_meanTop, .long m_meanBy, .ref a_order, .int m_rowMany, .int m_newSteps]))]) ⟨hx, hb, hml, hown, hts⟩ hK hE hT hP hD hS hA (r_spelled l G cA 102 101 101 108 115 0 (by decide +kernel) (by decide +kernel) (by decide +kernel) (by decide +kernel) (by decide +kernel) (by decide +kernel)) lk_RX12_158 ⟨rfl, rfl⟩ ⟨Nat.le_of_ble_eq_true rfl, Nat.le_of_ble_eq_true rfl⟩ [] [0] rfl rfl (by decide) rfl hl.1 rfl (lv_room (Nat.le_of_ble_eq_true rfl)) dX12_houseWord_48 ⟨Nat.le_of_ble_eq_true rfl, Nat.le_of_ble_eq_true rfl⟩ (fun r_11 u_12 H locs hw hP hD hS => ?_)
    obtain ⟨he_r_11, hw⟩ := hw
    have hr_r_11 := hw
    refine z_callVi (As := [.long r_11]) (rest := []) (wr := []) ⟨hx, hb, hml, hown, hts⟩ hK hE hT hP hD hS hA (r_isWord l G cA h0 m_status m_thrown m_above m_under a_traySort a_trayMany a_numbers a_tape m_taped m_textEnd m_faultKind m_faultAt m_bad m_badAt m_token m_at m_behind m_number m_letters m_word a_c a_words m_markMany a_there a_tried a_best a_found m_thereMany m_foundMany m_orderHow m_orderRing m_orderMany m_hasBest m_bestTop m_bestBy a_weights a_shared m_random m_truePlace m_trueWay m_seconds m_done m_feelings m_tries m_leftOver m_playDoor m_playRing m_isOpen m_isOver m_wasTried m_hasPlayed a_feltNow a_last a_kept m_hasSeconds m_hasTurned m_hasRound a_hasFeels a_isOn m_firstAct m_meanTop m_meanBy a_order m_rowMany m_newSteps r_11 hr_m_token) lk_RX12_164 ⟨rfl, rfl⟩ ⟨Nat.le_of_ble_eq_true rfl, Nat.le_of_ble_eq_true rfl⟩ 12 rfl rfl rfl [0] [] rfl rfl (by decide) rfl hl.1 rfl (lv_room (Nat.le_of_ble_eq_true rfl)) dX12_houseWord_51 ⟨Nat.le_of_ble_eq_true rfl, Nat.le_of_ble_eq_true rfl⟩ (fun r_14 u_15 H locs hw hP hD hS => ?_)
    obtain ⟨he_r_14, hw⟩ := hw
    rcases hw with ⟨rfl, -⟩ | ⟨rfl, hf_17⟩
    · skip
      refine lv_if_eq (tgt := 59) hx hb dX12_houseWord_54 (by decide) (fun _ => ?_) (fun h9 => absurd (by decide +kernel) h9)
      refine lv_aload_n hx hb dX12_houseWord_59 rfl (lv_at hl 0 rfl) ?_
      refine lv_bipush (v := 107) hx hb dX12_houseWord_60 (by decide) ?_
      refine lv_bipush (v := 101) hx hb dX12_houseWord_62 (by decide) ?_
      refine lv_bipush (v := 121) hx hb dX12_houseWord_64 (by decide) ?_
      refine lv_iconst (v := 0) hx hb dX12_houseWord_66 (by decide) ?_
      refine lv_iconst (v := 0) hx hb dX12_houseWord_67 (by decide) ?_
      refine lv_iconst (v := 0) hx hb dX12_houseWord_68 (by decide) ?_
      refine z_callSl (As := [.int 107, .int 101, .int 121, .int 0, .int 0, .int 0]) (rest := [.ref h0]) (wr := [(h0, .inr (12, [.int m_status, .int m_thrown, .long m_above, .long m_under, .ref a_traySort, .ref a_trayMany, .ref a_numbers, .ref a_tape, .int m_taped, .int m_textEnd, .int m_faultKind, .int m_faultAt, .int m_bad, .int m_badAt, .int m_token, .int m_at, .int m_behind, .int m_number, .int m_letters, .long m_word, .ref a_c, .ref a_words, .int m_markMany, .ref a_there, .ref a_tried, .ref a_best, .ref a_found, .int m_thereMany, .int m_foundMany, .int m_orderHow, .int m_orderRing, .int m_orderMany, .int m_hasBest, .long m_bestTop, .long m_bestBy, .ref a_weights, .ref a_shared, .int m_random, .int m_truePlace, .int m_trueWay, .int m_seconds, .int m_done, .int m_feelings, .int m_tries, .int m_leftOver, .int m_playDoor, .int m_playRing, .int m_isOpen, .int m_isOver, .int m_wasTried, .int m_hasPlayed, .ref a_feltNow, .ref a_last, .ref a_kept, .int m_hasSeconds, .int m_hasTurned, .int m_hasRound, .ref a_hasFeels, .ref a_isOn, .int m_firstAct, .long m_meanTop, .long m_meanBy, .ref a_order, .int m_rowMany, .int m_newSteps]))]) ⟨hx, hb, hml, hown, hts⟩ hK hE hT hP hD hS hA (r_spelled l G cA 107 101 121 0 0 0 (by decide +kernel) (by decide +kernel) (by decide +kernel) (by decide +kernel) (by decide +kernel) (by decide +kernel)) lk_RX12_158 ⟨rfl, rfl⟩ ⟨Nat.le_of_ble_eq_true rfl, Nat.le_of_ble_eq_true rfl⟩ [] [0] rfl rfl (by decide) rfl hl.1 rfl (lv_room (Nat.le_of_ble_eq_true rfl)) dX12_houseWord_69 ⟨Nat.le_of_ble_eq_true rfl, Nat.le_of_ble_eq_true rfl⟩ (fun r_18 u_19 H locs hw hP hD hS => ?_)
      obtain ⟨he_r_18, hw⟩ := hw
      have hr_r_18 := hw
      refine z_callVi (As := [.long r_18]) (rest := []) (wr := []) ⟨hx, hb, hml, hown, hts⟩ hK hE hT hP hD hS hA (r_isWord l G cA h0 m_status m_thrown m_above m_under a_traySort a_trayMany a_numbers a_tape m_taped m_textEnd m_faultKind m_faultAt m_bad m_badAt m_token m_at m_behind m_number m_letters m_word a_c a_words m_markMany a_there a_tried a_best a_found m_thereMany m_foundMany m_orderHow m_orderRing m_orderMany m_hasBest m_bestTop m_bestBy a_weights a_shared m_random m_truePlace m_trueWay m_seconds m_done m_feelings m_tries m_leftOver m_playDoor m_playRing m_isOpen m_isOver m_wasTried m_hasPlayed a_feltNow a_last a_kept m_hasSeconds m_hasTurned m_hasRound a_hasFeels a_isOn m_firstAct m_meanTop m_meanBy a_order m_rowMany m_newSteps r_18 hr_m_token) lk_RX12_164 ⟨rfl, rfl⟩ ⟨Nat.le_of_ble_eq_true rfl, Nat.le_of_ble_eq_true rfl⟩ 12 rfl rfl rfl [0] [] rfl rfl (by decide) rfl hl.1 rfl (lv_room (Nat.le_of_ble_eq_true rfl)) dX12_houseWord_72 ⟨Nat.le_of_ble_eq_true rfl, Nat.le_of_ble_eq_true rfl⟩ (fun r_21 u_22 H locs hw hP hD hS => ?_)
      obtain ⟨he_r_21, hw⟩ := hw
      rcases hw with ⟨rfl, -⟩ | ⟨rfl, hf_24⟩
      · skip
        refine lv_if_eq (tgt := 80) hx hb dX12_houseWord_75 (by decide) (fun _ => ?_) (fun h9 => absurd (by decide +kernel) h9)
        refine lv_aload_n hx hb dX12_houseWord_80 rfl (lv_at hl 0 rfl) ?_
        refine lv_bipush (v := 114) hx hb dX12_houseWord_81 (by decide) ?_
        refine lv_bipush (v := 105) hx hb dX12_houseWord_83 (by decide) ?_
        refine lv_bipush (v := 110) hx hb dX12_houseWord_85 (by decide) ?_
        refine lv_bipush (v := 103) hx hb dX12_houseWord_87 (by decide) ?_
        refine lv_iconst (v := 0) hx hb dX12_houseWord_89 (by decide) ?_
        refine lv_iconst (v := 0) hx hb dX12_houseWord_90 (by decide) ?_
        refine z_callSl (As := [.int 114, .int 105, .int 110, .int 103, .int 0, .int 0]) (rest := [.ref h0]) (wr := [(h0, .inr (12, [.int m_status, .int m_thrown, .long m_above, .long m_under, .ref a_traySort, .ref a_trayMany, .ref a_numbers, .ref a_tape, .int m_taped, .int m_textEnd, .int m_faultKind, .int m_faultAt, .int m_bad, .int m_badAt, .int m_token, .int m_at, .int m_behind, .int m_number, .int m_letters, .long m_word, .ref a_c, .ref a_words, .int m_markMany, .ref a_there, .ref a_tried, .ref a_best, .ref a_found, .int m_thereMany, .int m_foundMany, .int m_orderHow, .int m_orderRing, .int m_orderMany, .int m_hasBest, .long m_bestTop, .long m_bestBy, .ref a_weights, .ref a_shared, .int m_random, .int m_truePlace, .int m_trueWay, .int m_seconds, .int m_done, .int m_feelings, .int m_tries, .int m_leftOver, .int m_playDoor, .int m_playRing, .int m_isOpen, .int m_isOver, .int m_wasTried, .int m_hasPlayed, .ref a_feltNow, .ref a_last, .ref a_kept, .int m_hasSeconds, .int m_hasTurned, .int m_hasRound, .ref a_hasFeels, .ref a_isOn, .int m_firstAct, .long m_meanTop, .long m_meanBy, .ref a_order, .int m_rowMany, .int m_newSteps]))]) ⟨hx, hb, hml, hown, hts⟩ hK hE hT hP hD hS hA (r_spelled l G cA 114 105 110 103 0 0 (by decide +kernel) (by decide +kernel) (by decide +kernel) (by decide +kernel) (by decide +kernel) (by decide +kernel)) lk_RX12_158 ⟨rfl, rfl⟩ ⟨Nat.le_of_ble_eq_true rfl, Nat.le_of_ble_eq_true rfl⟩ [] [0] rfl rfl (by decide) rfl hl.1 rfl (lv_room (Nat.le_of_ble_eq_true rfl)) dX12_houseWord_91 ⟨Nat.le_of_ble_eq_true rfl, Nat.le_of_ble_eq_true rfl⟩ (fun r_25 u_26 H locs hw hP hD hS => ?_)
        obtain ⟨he_r_25, hw⟩ := hw
        have hr_r_25 := hw
        refine z_callVi (As := [.long r_25]) (rest := []) (wr := []) ⟨hx, hb, hml, hown, hts⟩ hK hE hT hP hD hS hA (r_isWord l G cA h0 m_status m_thrown m_above m_under a_traySort a_trayMany a_numbers a_tape m_taped m_textEnd m_faultKind m_faultAt m_bad m_badAt m_token m_at m_behind m_number m_letters m_word a_c a_words m_markMany a_there a_tried a_best a_found m_thereMany m_foundMany m_orderHow m_orderRing m_orderMany m_hasBest m_bestTop m_bestBy a_weights a_shared m_random m_truePlace m_trueWay m_seconds m_done m_feelings m_tries m_leftOver m_playDoor m_playRing m_isOpen m_isOver m_wasTried m_hasPlayed a_feltNow a_last a_kept m_hasSeconds m_hasTurned m_hasRound a_hasFeels a_isOn m_firstAct m_meanTop m_meanBy a_order m_rowMany m_newSteps r_25 hr_m_token) lk_RX12_164 ⟨rfl, rfl⟩ ⟨Nat.le_of_ble_eq_true rfl, Nat.le_of_ble_eq_true rfl⟩ 12 rfl rfl rfl [0] [] rfl rfl (by decide) rfl hl.1 rfl (lv_room (Nat.le_of_ble_eq_true rfl)) dX12_houseWord_94 ⟨Nat.le_of_ble_eq_true rfl, Nat.le_of_ble_eq_true rfl⟩ (fun r_28 u_29 H locs hw hP hD hS => ?_)
        obtain ⟨he_r_28, hw⟩ := hw
        rcases hw with ⟨rfl, -⟩ | ⟨rfl, hf_31⟩
        · skip
          refine lv_if_eq (tgt := 102) hx hb dX12_houseWord_97 (by decide) (fun _ => ?_) (fun h9 => absurd (by decide +kernel) h9)
          refine lv_aload_n hx hb dX12_houseWord_102 rfl (lv_at hl 0 rfl) ?_
          refine lv_bipush (v := 100) hx hb dX12_houseWord_103 (by decide) ?_
          refine lv_bipush (v := 111) hx hb dX12_houseWord_105 (by decide) ?_
          refine lv_bipush (v := 111) hx hb dX12_houseWord_107 (by decide) ?_
          refine lv_bipush (v := 114) hx hb dX12_houseWord_109 (by decide) ?_
          refine lv_iconst (v := 0) hx hb dX12_houseWord_111 (by decide) ?_
          refine lv_iconst (v := 0) hx hb dX12_houseWord_112 (by decide) ?_
          refine z_callSl (As := [.int 100, .int 111, .int 111, .int 114, .int 0, .int 0]) (rest := [.ref h0]) (wr := [(h0, .inr (12, [.int m_status, .int m_thrown, .long m_above, .long m_under, .ref a_traySort, .ref a_trayMany, .ref a_numbers, .ref a_tape, .int m_taped, .int m_textEnd, .int m_faultKind, .int m_faultAt, .int m_bad, .int m_badAt, .int m_token, .int m_at, .int m_behind, .int m_number, .int m_letters, .long m_word, .ref a_c, .ref a_words, .int m_markMany, .ref a_there, .ref a_tried, .ref a_best, .ref a_found, .int m_thereMany, .int m_foundMany, .int m_orderHow, .int m_orderRing, .int m_orderMany, .int m_hasBest, .long m_bestTop, .long m_bestBy, .ref a_weights, .ref a_shared, .int m_random, .int m_truePlace, .int m_trueWay, .int m_seconds, .int m_done, .int m_feelings, .int m_tries, .int m_leftOver, .int m_playDoor, .int m_playRing, .int m_isOpen, .int m_isOver, .int m_wasTried, .int m_hasPlayed, .ref a_feltNow, .ref a_last, .ref a_kept, .int m_hasSeconds, .int m_hasTurned, .int m_hasRound, .ref a_hasFeels, .ref a_isOn, .int m_firstAct, .long m_meanTop, .long m_meanBy, .ref a_order, .int m_rowMany, .int m_newSteps]))]) ⟨hx, hb, hml, hown, hts⟩ hK hE hT hP hD hS hA (r_spelled l G cA 100 111 111 114 0 0 (by decide +kernel) (by decide +kernel) (by decide +kernel) (by decide +kernel) (by decide +kernel) (by decide +kernel)) lk_RX12_158 ⟨rfl, rfl⟩ ⟨Nat.le_of_ble_eq_true rfl, Nat.le_of_ble_eq_true rfl⟩ [] [0] rfl rfl (by decide) rfl hl.1 rfl (lv_room (Nat.le_of_ble_eq_true rfl)) dX12_houseWord_113 ⟨Nat.le_of_ble_eq_true rfl, Nat.le_of_ble_eq_true rfl⟩ (fun r_32 u_33 H locs hw hP hD hS => ?_)
          obtain ⟨he_r_32, hw⟩ := hw
          have hr_r_32 := hw
          refine z_callVi (As := [.long r_32]) (rest := []) (wr := []) ⟨hx, hb, hml, hown, hts⟩ hK hE hT hP hD hS hA (r_isWord l G cA h0 m_status m_thrown m_above m_under a_traySort a_trayMany a_numbers a_tape m_taped m_textEnd m_faultKind m_faultAt m_bad m_badAt m_token m_at m_behind m_number m_letters m_word a_c a_words m_markMany a_there a_tried a_best a_found m_thereMany m_foundMany m_orderHow m_orderRing m_orderMany m_hasBest m_bestTop m_bestBy a_weights a_shared m_random m_truePlace m_trueWay m_seconds m_done m_feelings m_tries m_leftOver m_playDoor m_playRing m_isOpen m_isOver m_wasTried m_hasPlayed a_feltNow a_last a_kept m_hasSeconds m_hasTurned m_hasRound a_hasFeels a_isOn m_firstAct m_meanTop m_meanBy a_order m_rowMany m_newSteps r_32 hr_m_token) lk_RX12_164 ⟨rfl, rfl⟩ ⟨Nat.le_of_ble_eq_true rfl, Nat.le_of_ble_eq_true rfl⟩ 12 rfl rfl rfl [0] [] rfl rfl (by decide) rfl hl.1 rfl (lv_room (Nat.le_of_ble_eq_true rfl)) dX12_houseWord_116 ⟨Nat.le_of_ble_eq_true rfl, Nat.le_of_ble_eq_true rfl⟩ (fun r_35 u_36 H locs hw hP hD hS => ?_)
          obtain ⟨he_r_35, hw⟩ := hw
          rcases hw with ⟨rfl, -⟩ | ⟨rfl, hf_38⟩
          · skip
            refine lv_if_eq (tgt := 124) hx hb dX12_houseWord_119 (by decide) (fun _ => ?_) (fun h9 => absurd (by decide +kernel) h9)
            refine lv_aload_n hx hb dX12_houseWord_124 rfl (lv_at hl 0 rfl) ?_
            refine lv_bipush (v := 115) hx hb dX12_houseWord_125 (by decide) ?_
            refine lv_bipush (v := 101) hx hb dX12_houseWord_127 (by decide) ?_
            refine lv_bipush (v := 99) hx hb dX12_houseWord_129 (by decide) ?_
            refine lv_bipush (v := 111) hx hb dX12_houseWord_131 (by decide) ?_
            refine lv_bipush (v := 110) hx hb dX12_houseWord_133 (by decide) ?_
            refine lv_bipush (v := 100) hx hb dX12_houseWord_135 (by decide) ?_
            refine z_callSl (As := [.int 115, .int 101, .int 99, .int 111, .int 110, .int 100]) (rest := [.ref h0]) (wr := [(h0, .inr (12, [.int m_status, .int m_thrown, .long m_above, .long m_under, .ref a_traySort, .ref a_trayMany, .ref a_numbers, .ref a_tape, .int m_taped, .int m_textEnd, .int m_faultKind, .int m_faultAt, .int m_bad, .int m_badAt, .int m_token, .int m_at, .int m_behind, .int m_number, .int m_letters, .long m_word, .ref a_c, .ref a_words, .int m_markMany, .ref a_there, .ref a_tried, .ref a_best, .ref a_found, .int m_thereMany, .int m_foundMany, .int m_orderHow, .int m_orderRing, .int m_orderMany, .int m_hasBest, .long m_bestTop, .long m_bestBy, .ref a_weights, .ref a_shared, .int m_random, .int m_truePlace, .int m_trueWay, .int m_seconds, .int m_done, .int m_feelings, .int m_tries, .int m_leftOver, .int m_playDoor, .int m_playRing, .int m_isOpen, .int m_isOver, .int m_wasTried, .int m_hasPlayed, .ref a_feltNow, .ref a_last, .ref a_kept, .int m_hasSeconds, .int m_hasTurned, .int m_hasRound, .ref a_hasFeels, .ref a_isOn, .int m_firstAct, .long m_meanTop, .long m_meanBy, .ref a_order, .int m_rowMany, .int m_newSteps]))]) ⟨hx, hb, hml, hown, hts⟩ hK hE hT hP hD hS hA (r_spelled l G cA 115 101 99 111 110 100 (by decide +kernel) (by decide +kernel) (by decide +kernel) (by decide +kernel) (by decide +kernel) (by decide +kernel)) lk_RX12_158 ⟨rfl, rfl⟩ ⟨Nat.le_of_ble_eq_true rfl, Nat.le_of_ble_eq_true rfl⟩ [] [0] rfl rfl (by decide) rfl hl.1 rfl (lv_room (Nat.le_of_ble_eq_true rfl)) dX12_houseWord_137 ⟨Nat.le_of_ble_eq_true rfl, Nat.le_of_ble_eq_true rfl⟩ (fun r_39 u_40 H locs hw hP hD hS => ?_)
            obtain ⟨he_r_39, hw⟩ := hw
            have hr_r_39 := hw
            refine lv_ldc2 (v := 32) hx hb hown (hts _ tw_2154) dX12_houseWord_140 ?_
            refine lv_lmul hx hb dX12_houseWord_143 ?_
            refine lv_topl (fun x_42 he_x_42 => ?_)
            have hq_x_42 := z_mulql he_x_42 (rfl : r_39.toInt = _) hkl_32 (by omega) (by omega)
            refine lv_ldc2 (v := 115) hx hb hown (hts _ tw_2175) dX12_houseWord_144 ?_
            refine lv_ladd hx hb dX12_houseWord_147 ?_
            refine lv_topl (fun x_43 he_x_43 => ?_)
            have hq_x_43 := z_addql he_x_43 (rfl : x_42.toInt = _) hkl_115 (by omega) (by omega)
            refine lv_ldc2 (v := 96) hx hb hown (hts _ tw_2155) dX12_houseWord_148 ?_
            refine lv_lsub hx hb dX12_houseWord_151 ?_
            refine lv_topl (fun x_44 he_x_44 => ?_)
            have hq_x_44 := z_subql he_x_44 (rfl : x_43.toInt = _) hkl_96 (by omega) (by omega)
            refine z_callVi (As := [.long x_44]) (rest := []) (wr := []) ⟨hx, hb, hml, hown, hts⟩ hK hE hT hP hD hS hA (r_isWord l G cA h0 m_status m_thrown m_above m_under a_traySort a_trayMany a_numbers a_tape m_taped m_textEnd m_faultKind m_faultAt m_bad m_badAt m_token m_at m_behind m_number m_letters m_word a_c a_words m_markMany a_there a_tried a_best a_found m_thereMany m_foundMany m_orderHow m_orderRing m_orderMany m_hasBest m_bestTop m_bestBy a_weights a_shared m_random m_truePlace m_trueWay m_seconds m_done m_feelings m_tries m_leftOver m_playDoor m_playRing m_isOpen m_isOver m_wasTried m_hasPlayed a_feltNow a_last a_kept m_hasSeconds m_hasTurned m_hasRound a_hasFeels a_isOn m_firstAct m_meanTop m_meanBy a_order m_rowMany m_newSteps x_44 hr_m_token) lk_RX12_164 ⟨rfl, rfl⟩ ⟨Nat.le_of_ble_eq_true rfl, Nat.le_of_ble_eq_true rfl⟩ 12 rfl rfl rfl [0] [] rfl rfl (by decide) rfl hl.1 rfl (lv_room (Nat.le_of_ble_eq_true rfl)) dX12_houseWord_152 ⟨Nat.le_of_ble_eq_true rfl, Nat.le_of_ble_eq_true rfl⟩ (fun r_45 u_46 H locs hw hP hD hS => ?_)
            obtain ⟨he_r_45, hw⟩ := hw
            rcases hw with ⟨rfl, -⟩ | ⟨rfl, hf_48⟩
            · skip
              refine lv_if_eq (tgt := 160) hx hb dX12_houseWord_155 (by decide) (fun _ => ?_) (fun h9 => absurd (by decide +kernel) h9)
              refine lv_aload_n hx hb dX12_houseWord_160 rfl (lv_at hl 0 rfl) ?_
              refine lv_bipush (v := 116) hx hb dX12_houseWord_161 (by decide) ?_
              refine lv_bipush (v := 117) hx hb dX12_houseWord_163 (by decide) ?_
              refine lv_bipush (v := 114) hx hb dX12_houseWord_165 (by decide) ?_
              refine lv_bipush (v := 110) hx hb dX12_houseWord_167 (by decide) ?_
              refine lv_bipush (v := 101) hx hb dX12_houseWord_169 (by decide) ?_
              refine lv_bipush (v := 100) hx hb dX12_houseWord_171 (by decide) ?_
              refine z_callSl (As := [.int 116, .int 117, .int 114, .int 110, .int 101, .int 100]) (rest := [.ref h0]) (wr := [(h0, .inr (12, [.int m_status, .int m_thrown, .long m_above, .long m_under, .ref a_traySort, .ref a_trayMany, .ref a_numbers, .ref a_tape, .int m_taped, .int m_textEnd, .int m_faultKind, .int m_faultAt, .int m_bad, .int m_badAt, .int m_token, .int m_at, .int m_behind, .int m_number, .int m_letters, .long m_word, .ref a_c, .ref a_words, .int m_markMany, .ref a_there, .ref a_tried, .ref a_best, .ref a_found, .int m_thereMany, .int m_foundMany, .int m_orderHow, .int m_orderRing, .int m_orderMany, .int m_hasBest, .long m_bestTop, .long m_bestBy, .ref a_weights, .ref a_shared, .int m_random, .int m_truePlace, .int m_trueWay, .int m_seconds, .int m_done, .int m_feelings, .int m_tries, .int m_leftOver, .int m_playDoor, .int m_playRing, .int m_isOpen, .int m_isOver, .int m_wasTried, .int m_hasPlayed, .ref a_feltNow, .ref a_last, .ref a_kept, .int m_hasSeconds, .int m_hasTurned, .int m_hasRound, .ref a_hasFeels, .ref a_isOn, .int m_firstAct, .long m_meanTop, .long m_meanBy, .ref a_order, .int m_rowMany, .int m_newSteps]))]) ⟨hx, hb, hml, hown, hts⟩ hK hE hT hP hD hS hA (r_spelled l G cA 116 117 114 110 101 100 (by decide +kernel) (by decide +kernel) (by decide +kernel) (by decide +kernel) (by decide +kernel) (by decide +kernel)) lk_RX12_158 ⟨rfl, rfl⟩ ⟨Nat.le_of_ble_eq_true rfl, Nat.le_of_ble_eq_true rfl⟩ [] [0] rfl rfl (by decide) rfl hl.1 rfl (lv_room (Nat.le_of_ble_eq_true rfl)) dX12_houseWord_173 ⟨Nat.le_of_ble_eq_true rfl, Nat.le_of_ble_eq_true rfl⟩ (fun r_49 u_50 H locs hw hP hD hS => ?_)
              obtain ⟨he_r_49, hw⟩ := hw
              have hr_r_49 := hw
              refine z_callVi (As := [.long r_49]) (rest := []) (wr := []) ⟨hx, hb, hml, hown, hts⟩ hK hE hT hP hD hS hA (r_isWord l G cA h0 m_status m_thrown m_above m_under a_traySort a_trayMany a_numbers a_tape m_taped m_textEnd m_faultKind m_faultAt m_bad m_badAt m_token m_at m_behind m_number m_letters m_word a_c a_words m_markMany a_there a_tried a_best a_found m_thereMany m_foundMany m_orderHow m_orderRing m_orderMany m_hasBest m_bestTop m_bestBy a_weights a_shared m_random m_truePlace m_trueWay m_seconds m_done m_feelings m_tries m_leftOver m_playDoor m_playRing m_isOpen m_isOver m_wasTried m_hasPlayed a_feltNow a_last a_kept m_hasSeconds m_hasTurned m_hasRound a_hasFeels a_isOn m_firstAct m_meanTop m_meanBy a_order m_rowMany m_newSteps r_49 hr_m_token) lk_RX12_164 ⟨rfl, rfl⟩ ⟨Nat.le_of_ble_eq_true rfl, Nat.le_of_ble_eq_true rfl⟩ 12 rfl rfl rfl [0] [] rfl rfl (by decide) rfl hl.1 rfl (lv_room (Nat.le_of_ble_eq_true rfl)) dX12_houseWord_176 ⟨Nat.le_of_ble_eq_true rfl, Nat.le_of_ble_eq_true rfl⟩ (fun r_52 u_53 H locs hw hP hD hS => ?_)
              obtain ⟨he_r_52, hw⟩ := hw
              rcases hw with ⟨rfl, -⟩ | ⟨rfl, hf_55⟩
              · skip
                refine lv_if_eq (tgt := 185) hx hb dX12_houseWord_179 (by decide) (fun _ => ?_) (fun h9 => absurd (by decide +kernel) h9)
                refine lv_aload_n hx hb dX12_houseWord_185 rfl (lv_at hl 0 rfl) ?_
                refine lv_bipush (v := 114) hx hb dX12_houseWord_186 (by decide) ?_
                refine lv_bipush (v := 111) hx hb dX12_houseWord_188 (by decide) ?_
                refine lv_bipush (v := 117) hx hb dX12_houseWord_190 (by decide) ?_
                refine lv_bipush (v := 110) hx hb dX12_houseWord_192 (by decide) ?_
                refine lv_bipush (v := 100) hx hb dX12_houseWord_194 (by decide) ?_
                refine lv_iconst (v := 0) hx hb dX12_houseWord_196 (by decide) ?_
                refine z_callSl (As := [.int 114, .int 111, .int 117, .int 110, .int 100, .int 0]) (rest := [.ref h0]) (wr := [(h0, .inr (12, [.int m_status, .int m_thrown, .long m_above, .long m_under, .ref a_traySort, .ref a_trayMany, .ref a_numbers, .ref a_tape, .int m_taped, .int m_textEnd, .int m_faultKind, .int m_faultAt, .int m_bad, .int m_badAt, .int m_token, .int m_at, .int m_behind, .int m_number, .int m_letters, .long m_word, .ref a_c, .ref a_words, .int m_markMany, .ref a_there, .ref a_tried, .ref a_best, .ref a_found, .int m_thereMany, .int m_foundMany, .int m_orderHow, .int m_orderRing, .int m_orderMany, .int m_hasBest, .long m_bestTop, .long m_bestBy, .ref a_weights, .ref a_shared, .int m_random, .int m_truePlace, .int m_trueWay, .int m_seconds, .int m_done, .int m_feelings, .int m_tries, .int m_leftOver, .int m_playDoor, .int m_playRing, .int m_isOpen, .int m_isOver, .int m_wasTried, .int m_hasPlayed, .ref a_feltNow, .ref a_last, .ref a_kept, .int m_hasSeconds, .int m_hasTurned, .int m_hasRound, .ref a_hasFeels, .ref a_isOn, .int m_firstAct, .long m_meanTop, .long m_meanBy, .ref a_order, .int m_rowMany, .int m_newSteps]))]) ⟨hx, hb, hml, hown, hts⟩ hK hE hT hP hD hS hA (r_spelled l G cA 114 111 117 110 100 0 (by decide +kernel) (by decide +kernel) (by decide +kernel) (by decide +kernel) (by decide +kernel) (by decide +kernel)) lk_RX12_158 ⟨rfl, rfl⟩ ⟨Nat.le_of_ble_eq_true rfl, Nat.le_of_ble_eq_true rfl⟩ [] [0] rfl rfl (by decide) rfl hl.1 rfl (lv_room (Nat.le_of_ble_eq_true rfl)) dX12_houseWord_197 ⟨Nat.le_of_ble_eq_true rfl, Nat.le_of_ble_eq_true rfl⟩ (fun r_56 u_57 H locs hw hP hD hS => ?_)
                obtain ⟨he_r_56, hw⟩ := hw
                have hr_r_56 := hw
                refine z_callVi (As := [.long r_56]) (rest := []) (wr := []) ⟨hx, hb, hml, hown, hts⟩ hK hE hT hP hD hS hA (r_isWord l G cA h0 m_status m_thrown m_above m_under a_traySort a_trayMany a_numbers a_tape m_taped m_textEnd m_faultKind m_faultAt m_bad m_badAt m_token m_at m_behind m_number m_letters m_word a_c a_words m_markMany a_there a_tried a_best a_found m_thereMany m_foundMany m_orderHow m_orderRing m_orderMany m_hasBest m_bestTop m_bestBy a_weights a_shared m_random m_truePlace m_trueWay m_seconds m_done m_feelings m_tries m_leftOver m_playDoor m_playRing m_isOpen m_isOver m_wasTried m_hasPlayed a_feltNow a_last a_kept m_hasSeconds m_hasTurned m_hasRound a_hasFeels a_isOn m_firstAct m_meanTop m_meanBy a_order m_rowMany m_newSteps r_56 hr_m_token) lk_RX12_164 ⟨rfl, rfl⟩ ⟨Nat.le_of_ble_eq_true rfl, Nat.le_of_ble_eq_true rfl⟩ 12 rfl rfl rfl [0] [] rfl rfl (by decide) rfl hl.1 rfl (lv_room (Nat.le_of_ble_eq_true rfl)) dX12_houseWord_200 ⟨Nat.le_of_ble_eq_true rfl, Nat.le_of_ble_eq_true rfl⟩ (fun r_59 u_60 H locs hw hP hD hS => ?_)
                obtain ⟨he_r_59, hw⟩ := hw
                rcases hw with ⟨rfl, -⟩ | ⟨rfl, hf_62⟩
                · skip
                  refine lv_if_eq (tgt := 209) hx hb dX12_houseWord_203 (by decide) (fun _ => ?_) (fun h9 => absurd (by decide +kernel) h9)
                  refine lv_aload_n hx hb dX12_houseWord_209 rfl (lv_at hl 0 rfl) ?_
                  refine lv_bipush (v := 115) hx hb dX12_houseWord_210 (by decide) ?_
                  refine lv_bipush (v := 116) hx hb dX12_houseWord_212 (by decide) ?_
                  refine lv_bipush (v := 101) hx hb dX12_houseWord_214 (by decide) ?_
                  refine lv_bipush (v := 112) hx hb dX12_houseWord_216 (by decide) ?_
                  refine lv_bipush (v := 115) hx hb dX12_houseWord_218 (by decide) ?_
                  refine lv_iconst (v := 0) hx hb dX12_houseWord_220 (by decide) ?_
                  refine z_callSl (As := [.int 115, .int 116, .int 101, .int 112, .int 115, .int 0]) (rest := [.ref h0]) (wr := [(h0, .inr (12, [.int m_status, .int m_thrown, .long m_above, .long m_under, .ref a_traySort, .ref a_trayMany, .ref a_numbers, .ref a_tape, .int m_taped, .int m_textEnd, .int m_faultKind, .int m_faultAt, .int m_bad, .int m_badAt, .int m_token, .int m_at, .int m_behind, .int m_number, .int m_letters, .long m_word, .ref a_c, .ref a_words, .int m_markMany, .ref a_there, .ref a_tried, .ref a_best, .ref a_found, .int m_thereMany, .int m_foundMany, .int m_orderHow, .int m_orderRing, .int m_orderMany, .int m_hasBest, .long m_bestTop, .long m_bestBy, .ref a_weights, .ref a_shared, .int m_random, .int m_truePlace, .int m_trueWay, .int m_seconds, .int m_done, .int m_feelings, .int m_tries, .int m_leftOver, .int m_playDoor, .int m_playRing, .int m_isOpen, .int m_isOver, .int m_wasTried, .int m_hasPlayed, .ref a_feltNow, .ref a_last, .ref a_kept, .int m_hasSeconds, .int m_hasTurned, .int m_hasRound, .ref a_hasFeels, .ref a_isOn, .int m_firstAct, .long m_meanTop, .long m_meanBy, .ref a_order, .int m_rowMany, .int m_newSteps]))]) ⟨hx, hb, hml, hown, hts⟩ hK hE hT hP hD hS hA (r_spelled l G cA 115 116 101 112 115 0 (by decide +kernel) (by decide +kernel) (by decide +kernel) (by decide +kernel) (by decide +kernel) (by decide +kernel)) lk_RX12_158 ⟨rfl, rfl⟩ ⟨Nat.le_of_ble_eq_true rfl, Nat.le_of_ble_eq_true rfl⟩ [] [0] rfl rfl (by decide) rfl hl.1 rfl (lv_room (Nat.le_of_ble_eq_true rfl)) dX12_houseWord_221 ⟨Nat.le_of_ble_eq_true rfl, Nat.le_of_ble_eq_true rfl⟩ (fun r_63 u_64 H locs hw hP hD hS => ?_)
                  obtain ⟨he_r_63, hw⟩ := hw
                  have hr_r_63 := hw
                  refine z_callVi (As := [.long r_63]) (rest := []) (wr := []) ⟨hx, hb, hml, hown, hts⟩ hK hE hT hP hD hS hA (r_isWord l G cA h0 m_status m_thrown m_above m_under a_traySort a_trayMany a_numbers a_tape m_taped m_textEnd m_faultKind m_faultAt m_bad m_badAt m_token m_at m_behind m_number m_letters m_word a_c a_words m_markMany a_there a_tried a_best a_found m_thereMany m_foundMany m_orderHow m_orderRing m_orderMany m_hasBest m_bestTop m_bestBy a_weights a_shared m_random m_truePlace m_trueWay m_seconds m_done m_feelings m_tries m_leftOver m_playDoor m_playRing m_isOpen m_isOver m_wasTried m_hasPlayed a_feltNow a_last a_kept m_hasSeconds m_hasTurned m_hasRound a_hasFeels a_isOn m_firstAct m_meanTop m_meanBy a_order m_rowMany m_newSteps r_63 hr_m_token) lk_RX12_164 ⟨rfl, rfl⟩ ⟨Nat.le_of_ble_eq_true rfl, Nat.le_of_ble_eq_true rfl⟩ 12 rfl rfl rfl [0] [] rfl rfl (by decide) rfl hl.1 rfl (lv_room (Nat.le_of_ble_eq_true rfl)) dX12_houseWord_224 ⟨Nat.le_of_ble_eq_true rfl, Nat.le_of_ble_eq_true rfl⟩ (fun r_66 u_67 H locs hw hP hD hS => ?_)
                  obtain ⟨he_r_66, hw⟩ := hw
                  rcases hw with ⟨rfl, -⟩ | ⟨rfl, hf_69⟩
                  · skip
                    refine lv_if_eq (tgt := 233) hx hb dX12_houseWord_227 (by decide) (fun _ => ?_) (fun h9 => absurd (by decide +kernel) h9)
                    refine lv_aload_n hx hb dX12_houseWord_233 rfl (lv_at hl 0 rfl) ?_
                    refine lv_bipush (v := 119) hx hb dX12_houseWord_234 (by decide) ?_
                    refine lv_bipush (v := 97) hx hb dX12_houseWord_236 (by decide) ?_
                    refine lv_bipush (v := 110) hx hb dX12_houseWord_238 (by decide) ?_
                    refine lv_bipush (v := 116) hx hb dX12_houseWord_240 (by decide) ?_
                    refine lv_bipush (v := 101) hx hb dX12_houseWord_242 (by decide) ?_
                    refine lv_bipush (v := 100) hx hb dX12_houseWord_244 (by decide) ?_
                    refine z_callSl (As := [.int 119, .int 97, .int 110, .int 116, .int 101, .int 100]) (rest := [.ref h0]) (wr := [(h0, .inr (12, [.int m_status, .int m_thrown, .long m_above, .long m_under, .ref a_traySort, .ref a_trayMany, .ref a_numbers, .ref a_tape, .int m_taped, .int m_textEnd, .int m_faultKind, .int m_faultAt, .int m_bad, .int m_badAt, .int m_token, .int m_at, .int m_behind, .int m_number, .int m_letters, .long m_word, .ref a_c, .ref a_words, .int m_markMany, .ref a_there, .ref a_tried, .ref a_best, .ref a_found, .int m_thereMany, .int m_foundMany, .int m_orderHow, .int m_orderRing, .int m_orderMany, .int m_hasBest, .long m_bestTop, .long m_bestBy, .ref a_weights, .ref a_shared, .int m_random, .int m_truePlace, .int m_trueWay, .int m_seconds, .int m_done, .int m_feelings, .int m_tries, .int m_leftOver, .int m_playDoor, .int m_playRing, .int m_isOpen, .int m_isOver, .int m_wasTried, .int m_hasPlayed, .ref a_feltNow, .ref a_last, .ref a_kept, .int m_hasSeconds, .int m_hasTurned, .int m_hasRound, .ref a_hasFeels, .ref a_isOn, .int m_firstAct, .long m_meanTop, .long m_meanBy, .ref a_order, .int m_rowMany, .int m_newSteps]))]) ⟨hx, hb, hml, hown, hts⟩ hK hE hT hP hD hS hA (r_spelled l G cA 119 97 110 116 101 100 (by decide +kernel) (by decide +kernel) (by decide +kernel) (by decide +kernel) (by decide +kernel) (by decide +kernel)) lk_RX12_158 ⟨rfl, rfl⟩ ⟨Nat.le_of_ble_eq_true rfl, Nat.le_of_ble_eq_true rfl⟩ [] [0] rfl rfl (by decide) rfl hl.1 rfl (lv_room (Nat.le_of_ble_eq_true rfl)) dX12_houseWord_246 ⟨Nat.le_of_ble_eq_true rfl, Nat.le_of_ble_eq_true rfl⟩ (fun r_70 u_71 H locs hw hP hD hS => ?_)
                    obtain ⟨he_r_70, hw⟩ := hw
                    have hr_r_70 := hw
                    refine z_callVi (As := [.long r_70]) (rest := []) (wr := []) ⟨hx, hb, hml, hown, hts⟩ hK hE hT hP hD hS hA (r_isWord l G cA h0 m_status m_thrown m_above m_under a_traySort a_trayMany a_numbers a_tape m_taped m_textEnd m_faultKind m_faultAt m_bad m_badAt m_token m_at m_behind m_number m_letters m_word a_c a_words m_markMany a_there a_tried a_best a_found m_thereMany m_foundMany m_orderHow m_orderRing m_orderMany m_hasBest m_bestTop m_bestBy a_weights a_shared m_random m_truePlace m_trueWay m_seconds m_done m_feelings m_tries m_leftOver m_playDoor m_playRing m_isOpen m_isOver m_wasTried m_hasPlayed a_feltNow a_last a_kept m_hasSeconds m_hasTurned m_hasRound a_hasFeels a_isOn m_firstAct m_meanTop m_meanBy a_order m_rowMany m_newSteps r_70 hr_m_token) lk_RX12_164 ⟨rfl, rfl⟩ ⟨Nat.le_of_ble_eq_true rfl, Nat.le_of_ble_eq_true rfl⟩ 12 rfl rfl rfl [0] [] rfl rfl (by decide) rfl hl.1 rfl (lv_room (Nat.le_of_ble_eq_true rfl)) dX12_houseWord_249 ⟨Nat.le_of_ble_eq_true rfl, Nat.le_of_ble_eq_true rfl⟩ (fun r_73 u_74 H locs hw hP hD hS => ?_)
                    obtain ⟨he_r_73, hw⟩ := hw
                    rcases hw with ⟨rfl, -⟩ | ⟨rfl, hf_76⟩
                    · skip
                      refine lv_if_eq (tgt := 258) hx hb dX12_houseWord_252 (by decide) (fun _ => ?_) (fun h9 => absurd (by decide +kernel) h9)
                      refine lv_aload_n hx hb dX12_houseWord_258 rfl (lv_at hl 0 rfl) ?_
                      refine lv_bipush (v := 98) hx hb dX12_houseWord_259 (by decide) ?_
                      refine lv_bipush (v := 121) hx hb dX12_houseWord_261 (by decide) ?_
                      refine lv_iconst (v := 0) hx hb dX12_houseWord_263 (by decide) ?_
                      refine lv_iconst (v := 0) hx hb dX12_houseWord_264 (by decide) ?_
                      refine lv_iconst (v := 0) hx hb dX12_houseWord_265 (by decide) ?_
                      refine lv_iconst (v := 0) hx hb dX12_houseWord_266 (by decide) ?_
                      refine z_callSl (As := [.int 98, .int 121, .int 0, .int 0, .int 0, .int 0]) (rest := [.ref h0]) (wr := [(h0, .inr (12, [.int m_status, .int m_thrown, .long m_above, .long m_under, .ref a_traySort, .ref a_trayMany, .ref a_numbers, .ref a_tape, .int m_taped, .int m_textEnd, .int m_faultKind, .int m_faultAt, .int m_bad, .int m_badAt, .int m_token, .int m_at, .int m_behind, .int m_number, .int m_letters, .long m_word, .ref a_c, .ref a_words, .int m_markMany, .ref a_there, .ref a_tried, .ref a_best, .ref a_found, .int m_thereMany, .int m_foundMany, .int m_orderHow, .int m_orderRing, .int m_orderMany, .int m_hasBest, .long m_bestTop, .long m_bestBy, .ref a_weights, .ref a_shared, .int m_random, .int m_truePlace, .int m_trueWay, .int m_seconds, .int m_done, .int m_feelings, .int m_tries, .int m_leftOver, .int m_playDoor, .int m_playRing, .int m_isOpen, .int m_isOver, .int m_wasTried, .int m_hasPlayed, .ref a_feltNow, .ref a_last, .ref a_kept, .int m_hasSeconds, .int m_hasTurned, .int m_hasRound, .ref a_hasFeels, .ref a_isOn, .int m_firstAct, .long m_meanTop, .long m_meanBy, .ref a_order, .int m_rowMany, .int m_newSteps]))]) ⟨hx, hb, hml, hown, hts⟩ hK hE hT hP hD hS hA (r_spelled l G cA 98 121 0 0 0 0 (by decide +kernel) (by decide +kernel) (by decide +kernel) (by decide +kernel) (by decide +kernel) (by decide +kernel)) lk_RX12_158 ⟨rfl, rfl⟩ ⟨Nat.le_of_ble_eq_true rfl, Nat.le_of_ble_eq_true rfl⟩ [] [0] rfl rfl (by decide) rfl hl.1 rfl (lv_room (Nat.le_of_ble_eq_true rfl)) dX12_houseWord_267 ⟨Nat.le_of_ble_eq_true rfl, Nat.le_of_ble_eq_true rfl⟩ (fun r_77 u_78 H locs hw hP hD hS => ?_)
                      obtain ⟨he_r_77, hw⟩ := hw
                      have hr_r_77 := hw
                      refine z_callVi (As := [.long r_77]) (rest := []) (wr := []) ⟨hx, hb, hml, hown, hts⟩ hK hE hT hP hD hS hA (r_isWord l G cA h0 m_status m_thrown m_above m_under a_traySort a_trayMany a_numbers a_tape m_taped m_textEnd m_faultKind m_faultAt m_bad m_badAt m_token m_at m_behind m_number m_letters m_word a_c a_words m_markMany a_there a_tried a_best a_found m_thereMany m_foundMany m_orderHow m_orderRing m_orderMany m_hasBest m_bestTop m_bestBy a_weights a_shared m_random m_truePlace m_trueWay m_seconds m_done m_feelings m_tries m_leftOver m_playDoor m_playRing m_isOpen m_isOver m_wasTried m_hasPlayed a_feltNow a_last a_kept m_hasSeconds m_hasTurned m_hasRound a_hasFeels a_isOn m_firstAct m_meanTop m_meanBy a_order m_rowMany m_newSteps r_77 hr_m_token) lk_RX12_164 ⟨rfl, rfl⟩ ⟨Nat.le_of_ble_eq_true rfl, Nat.le_of_ble_eq_true rfl⟩ 12 rfl rfl rfl [0] [] rfl rfl (by decide) rfl hl.1 rfl (lv_room (Nat.le_of_ble_eq_true rfl)) dX12_houseWord_270 ⟨Nat.le_of_ble_eq_true rfl, Nat.le_of_ble_eq_true rfl⟩ (fun r_80 u_81 H locs hw hP hD hS => ?_)
                      obtain ⟨he_r_80, hw⟩ := hw
                      rcases hw with ⟨rfl, -⟩ | ⟨rfl, hf_83⟩
                      · skip
                        refine lv_if_eq (tgt := 279) hx hb dX12_houseWord_273 (by decide) (fun _ => ?_) (fun h9 => absurd (by decide +kernel) h9)
                        refine lv_aload_n hx hb dX12_houseWord_279 rfl (lv_at hl 0 rfl) ?_
                        refine lv_bipush (v := 102) hx hb dX12_houseWord_280 (by decide) ?_
                        refine lv_bipush (v := 101) hx hb dX12_houseWord_282 (by decide) ?_
                        refine lv_bipush (v := 101) hx hb dX12_houseWord_284 (by decide) ?_
                        refine lv_bipush (v := 108) hx hb dX12_houseWord_286 (by decide) ?_
                        refine lv_iconst (v := 0) hx hb dX12_houseWord_288 (by decide) ?_
                        refine lv_iconst (v := 0) hx hb dX12_houseWord_289 (by decide) ?_
                        refine z_callSl (As := [.int 102, .int 101, .int 101, .int 108, .int 0, .int 0]) (rest := [.ref h0]) (wr := [(h0, .inr (12, [.int m_status, .int m_thrown, .long m_above, .long m_under, .ref a_traySort, .ref a_trayMany, .ref a_numbers, .ref a_tape, .int m_taped, .int m_textEnd, .int m_faultKind, .int m_faultAt, .int m_bad, .int m_badAt, .int m_token, .int m_at, .int m_behind, .int m_number, .int m_letters, .long m_word, .ref a_c, .ref a_words, .int m_markMany, .ref a_there, .ref a_tried, .ref a_best, .ref a_found, .int m_thereMany, .int m_foundMany, .int m_orderHow, .int m_orderRing, .int m_orderMany, .int m_hasBest, .long m_bestTop, .long m_bestBy, .ref a_weights, .ref a_shared, .int m_random, .int m_truePlace, .int m_trueWay, .int m_seconds, .int m_done, .int m_feelings, .int m_tries, .int m_leftOver, .int m_playDoor, .int m_playRing, .int m_isOpen, .int m_isOver, .int m_wasTried, .int m_hasPlayed, .ref a_feltNow, .ref a_last, .ref a_kept, .int m_hasSeconds, .int m_hasTurned, .int m_hasRound, .ref a_hasFeels, .ref a_isOn, .int m_firstAct, .long m_meanTop, .long m_meanBy, .ref a_order, .int m_rowMany, .int m_newSteps]))]) ⟨hx, hb, hml, hown, hts⟩ hK hE hT hP hD hS hA (r_spelled l G cA 102 101 101 108 0 0 (by decide +kernel) (by decide +kernel) (by decide +kernel) (by decide +kernel) (by decide +kernel) (by decide +kernel)) lk_RX12_158 ⟨rfl, rfl⟩ ⟨Nat.le_of_ble_eq_true rfl, Nat.le_of_ble_eq_true rfl⟩ [] [0] rfl rfl (by decide) rfl hl.1 rfl (lv_room (Nat.le_of_ble_eq_true rfl)) dX12_houseWord_290 ⟨Nat.le_of_ble_eq_true rfl, Nat.le_of_ble_eq_true rfl⟩ (fun r_84 u_85 H locs hw hP hD hS => ?_)
                        obtain ⟨he_r_84, hw⟩ := hw
                        have hr_r_84 := hw
                        refine z_callVi (As := [.long r_84]) (rest := []) (wr := []) ⟨hx, hb, hml, hown, hts⟩ hK hE hT hP hD hS hA (r_isWord l G cA h0 m_status m_thrown m_above m_under a_traySort a_trayMany a_numbers a_tape m_taped m_textEnd m_faultKind m_faultAt m_bad m_badAt m_token m_at m_behind m_number m_letters m_word a_c a_words m_markMany a_there a_tried a_best a_found m_thereMany m_foundMany m_orderHow m_orderRing m_orderMany m_hasBest m_bestTop m_bestBy a_weights a_shared m_random m_truePlace m_trueWay m_seconds m_done m_feelings m_tries m_leftOver m_playDoor m_playRing m_isOpen m_isOver m_wasTried m_hasPlayed a_feltNow a_last a_kept m_hasSeconds m_hasTurned m_hasRound a_hasFeels a_isOn m_firstAct m_meanTop m_meanBy a_order m_rowMany m_newSteps r_84 hr_m_token) lk_RX12_164 ⟨rfl, rfl⟩ ⟨Nat.le_of_ble_eq_true rfl, Nat.le_of_ble_eq_true rfl⟩ 12 rfl rfl rfl [0] [] rfl rfl (by decide) rfl hl.1 rfl (lv_room (Nat.le_of_ble_eq_true rfl)) dX12_houseWord_293 ⟨Nat.le_of_ble_eq_true rfl, Nat.le_of_ble_eq_true rfl⟩ (fun r_87 u_88 H locs hw hP hD hS => ?_)
                        obtain ⟨he_r_87, hw⟩ := hw
                        rcases hw with ⟨rfl, -⟩ | ⟨rfl, hf_90⟩
                        · skip
                          refine lv_if_eq (tgt := 302) hx hb dX12_houseWord_296 (by decide) (fun _ => ?_) (fun h9 => absurd (by decide +kernel) h9)
                          refine lv_aload_n hx hb dX12_houseWord_302 rfl (lv_at hl 0 rfl) ?_
                          refine lv_bipush (v := 116) hx hb dX12_houseWord_303 (by decide) ?_
                          refine lv_bipush (v := 114) hx hb dX12_houseWord_305 (by decide) ?_
                          refine lv_bipush (v := 121) hx hb dX12_houseWord_307 (by decide) ?_
                          refine lv_iconst (v := 0) hx hb dX12_houseWord_309 (by decide) ?_
                          refine lv_iconst (v := 0) hx hb dX12_houseWord_310 (by decide) ?_
                          refine lv_iconst (v := 0) hx hb dX12_houseWord_311 (by decide) ?_
                          refine z_callSl (As := [.int 116, .int 114, .int 121, .int 0, .int 0, .int 0]) (rest := [.ref h0]) (wr := [(h0, .inr (12, [.int m_status, .int m_thrown, .long m_above, .long m_under, .ref a_traySort, .ref a_trayMany, .ref a_numbers, .ref a_tape, .int m_taped, .int m_textEnd, .int m_faultKind, .int m_faultAt, .int m_bad, .int m_badAt, .int m_token, .int m_at, .int m_behind, .int m_number, .int m_letters, .long m_word, .ref a_c, .ref a_words, .int m_markMany, .ref a_there, .ref a_tried, .ref a_best, .ref a_found, .int m_thereMany, .int m_foundMany, .int m_orderHow, .int m_orderRing, .int m_orderMany, .int m_hasBest, .long m_bestTop, .long m_bestBy, .ref a_weights, .ref a_shared, .int m_random, .int m_truePlace, .int m_trueWay, .int m_seconds, .int m_done, .int m_feelings, .int m_tries, .int m_leftOver, .int m_playDoor, .int m_playRing, .int m_isOpen, .int m_isOver, .int m_wasTried, .int m_hasPlayed, .ref a_feltNow, .ref a_last, .ref a_kept, .int m_hasSeconds, .int m_hasTurned, .int m_hasRound, .ref a_hasFeels, .ref a_isOn, .int m_firstAct, .long m_meanTop, .long m_meanBy, .ref a_order, .int m_rowMany, .int m_newSteps]))]) ⟨hx, hb, hml, hown, hts⟩ hK hE hT hP hD hS hA (r_spelled l G cA 116 114 121 0 0 0 (by decide +kernel) (by decide +kernel) (by decide +kernel) (by decide +kernel) (by decide +kernel) (by decide +kernel)) lk_RX12_158 ⟨rfl, rfl⟩ ⟨Nat.le_of_ble_eq_true rfl, Nat.le_of_ble_eq_true rfl⟩ [] [0] rfl rfl (by decide) rfl hl.1 rfl (lv_room (Nat.le_of_ble_eq_true rfl)) dX12_houseWord_312 ⟨Nat.le_of_ble_eq_true rfl, Nat.le_of_ble_eq_true rfl⟩ (fun r_91 u_92 H locs hw hP hD hS => ?_)
                          obtain ⟨he_r_91, hw⟩ := hw
                          have hr_r_91 := hw
                          refine z_callVi (As := [.long r_91]) (rest := []) (wr := []) ⟨hx, hb, hml, hown, hts⟩ hK hE hT hP hD hS hA (r_isWord l G cA h0 m_status m_thrown m_above m_under a_traySort a_trayMany a_numbers a_tape m_taped m_textEnd m_faultKind m_faultAt m_bad m_badAt m_token m_at m_behind m_number m_letters m_word a_c a_words m_markMany a_there a_tried a_best a_found m_thereMany m_foundMany m_orderHow m_orderRing m_orderMany m_hasBest m_bestTop m_bestBy a_weights a_shared m_random m_truePlace m_trueWay m_seconds m_done m_feelings m_tries m_leftOver m_playDoor m_playRing m_isOpen m_isOver m_wasTried m_hasPlayed a_feltNow a_last a_kept m_hasSeconds m_hasTurned m_hasRound a_hasFeels a_isOn m_firstAct m_meanTop m_meanBy a_order m_rowMany m_newSteps r_91 hr_m_token) lk_RX12_164 ⟨rfl, rfl⟩ ⟨Nat.le_of_ble_eq_true rfl, Nat.le_of_ble_eq_true rfl⟩ 12 rfl rfl rfl [0] [] rfl rfl (by decide) rfl hl.1 rfl (lv_room (Nat.le_of_ble_eq_true rfl)) dX12_houseWord_315 ⟨Nat.le_of_ble_eq_true rfl, Nat.le_of_ble_eq_true rfl⟩ (fun r_94 u_95 H locs hw hP hD hS => ?_)
                          obtain ⟨he_r_94, hw⟩ := hw
                          rcases hw with ⟨rfl, -⟩ | ⟨rfl, hf_97⟩
                          · skip
                            refine lv_if_eq (tgt := 324) hx hb dX12_houseWord_318 (by decide) (fun _ => ?_) (fun h9 => absurd (by decide +kernel) h9)
                            refine lv_aload_n hx hb dX12_houseWord_324 rfl (lv_at hl 0 rfl) ?_
                            refine lv_bipush (v := 103) hx hb dX12_houseWord_325 (by decide) ?_
                            refine lv_bipush (v := 111) hx hb dX12_houseWord_327 (by decide) ?_
                            refine lv_iconst (v := 0) hx hb dX12_houseWord_329 (by decide) ?_
                            refine lv_iconst (v := 0) hx hb dX12_houseWord_330 (by decide) ?_
                            refine lv_iconst (v := 0) hx hb dX12_houseWord_331 (by decide) ?_
                            refine lv_iconst (v := 0) hx hb dX12_houseWord_332 (by decide) ?_
                            refine z_callSl (As := [.int 103, .int 111, .int 0, .int 0, .int 0, .int 0]) (rest := [.ref h0]) (wr := [(h0, .inr (12, [.int m_status, .int m_thrown, .long m_above, .long m_under, .ref a_traySort, .ref a_trayMany, .ref a_numbers, .ref a_tape, .int m_taped, .int m_textEnd, .int m_faultKind, .int m_faultAt, .int m_bad, .int m_badAt, .int m_token, .int m_at, .int m_behind, .int m_number, .int m_letters, .long m_word, .ref a_c, .ref a_words, .int m_markMany, .ref a_there, .ref a_tried, .ref a_best, .ref a_found, .int m_thereMany, .int m_foundMany, .int m_orderHow, .int m_orderRing, .int m_orderMany, .int m_hasBest, .long m_bestTop, .long m_bestBy, .ref a_weights, .ref a_shared, .int m_random, .int m_truePlace, .int m_trueWay, .int m_seconds, .int m_done, .int m_feelings, .int m_tries, .int m_leftOver, .int m_playDoor, .int m_playRing, .int m_isOpen, .int m_isOver, .int m_wasTried, .int m_hasPlayed, .ref a_feltNow, .ref a_last, .ref a_kept, .int m_hasSeconds, .int m_hasTurned, .int m_hasRound, .ref a_hasFeels, .ref a_isOn, .int m_firstAct, .long m_meanTop, .long m_meanBy, .ref a_order, .int m_rowMany, .int m_newSteps]))]) ⟨hx, hb, hml, hown, hts⟩ hK hE hT hP hD hS hA (r_spelled l G cA 103 111 0 0 0 0 (by decide +kernel) (by decide +kernel) (by decide +kernel) (by decide +kernel) (by decide +kernel) (by decide +kernel)) lk_RX12_158 ⟨rfl, rfl⟩ ⟨Nat.le_of_ble_eq_true rfl, Nat.le_of_ble_eq_true rfl⟩ [] [0] rfl rfl (by decide) rfl hl.1 rfl (lv_room (Nat.le_of_ble_eq_true rfl)) dX12_houseWord_333 ⟨Nat.le_of_ble_eq_true rfl, Nat.le_of_ble_eq_true rfl⟩ (fun r_98 u_99 H locs hw hP hD hS => ?_)
                            obtain ⟨he_r_98, hw⟩ := hw
                            have hr_r_98 := hw
                            refine z_callVi (As := [.long r_98]) (rest := []) (wr := []) ⟨hx, hb, hml, hown, hts⟩ hK hE hT hP hD hS hA (r_isWord l G cA h0 m_status m_thrown m_above m_under a_traySort a_trayMany a_numbers a_tape m_taped m_textEnd m_faultKind m_faultAt m_bad m_badAt m_token m_at m_behind m_number m_letters m_word a_c a_words m_markMany a_there a_tried a_best a_found m_thereMany m_foundMany m_orderHow m_orderRing m_orderMany m_hasBest m_bestTop m_bestBy a_weights a_shared m_random m_truePlace m_trueWay m_seconds m_done m_feelings m_tries m_leftOver m_playDoor m_playRing m_isOpen m_isOver m_wasTried m_hasPlayed a_feltNow a_last a_kept m_hasSeconds m_hasTurned m_hasRound a_hasFeels a_isOn m_firstAct m_meanTop m_meanBy a_order m_rowMany m_newSteps r_98 hr_m_token) lk_RX12_164 ⟨rfl, rfl⟩ ⟨Nat.le_of_ble_eq_true rfl, Nat.le_of_ble_eq_true rfl⟩ 12 rfl rfl rfl [0] [] rfl rfl (by decide) rfl hl.1 rfl (lv_room (Nat.le_of_ble_eq_true rfl)) dX12_houseWord_336 ⟨Nat.le_of_ble_eq_true rfl, Nat.le_of_ble_eq_true rfl⟩ (fun r_101 u_102 H locs hw hP hD hS => ?_)
                            obtain ⟨he_r_101, hw⟩ := hw
                            rcases hw with ⟨rfl, -⟩ | ⟨rfl, hf_104⟩
                            · skip
                              refine lv_if_eq (tgt := 345) hx hb dX12_houseWord_339 (by decide) (fun _ => ?_) (fun h9 => absurd (by decide +kernel) h9)
                              refine lv_aload_n hx hb dX12_houseWord_345 rfl (lv_at hl 0 rfl) ?_
                              refine lv_bipush (v := 100) hx hb dX12_houseWord_346 (by decide) ?_
                              refine lv_bipush (v := 114) hx hb dX12_houseWord_348 (by decide) ?_
                              refine lv_bipush (v := 111) hx hb dX12_houseWord_350 (by decide) ?_
                              refine lv_bipush (v := 112) hx hb dX12_houseWord_352 (by decide) ?_
                              refine lv_iconst (v := 0) hx hb dX12_houseWord_354 (by decide) ?_
                              refine lv_iconst (v := 0) hx hb dX12_houseWord_355 (by decide) ?_
                              refine z_callSl (As := [.int 100, .int 114, .int 111, .int 112, .int 0, .int 0]) (rest := [.ref h0]) (wr := [(h0, .inr (12, [.int m_status, .int m_thrown, .long m_above, .long m_under, .ref a_traySort, .ref a_trayMany, .ref a_numbers, .ref a_tape, .int m_taped, .int m_textEnd, .int m_faultKind, .int m_faultAt, .int m_bad, .int m_badAt, .int m_token, .int m_at, .int m_behind, .int m_number, .int m_letters, .long m_word, .ref a_c, .ref a_words, .int m_markMany, .ref a_there, .ref a_tried, .ref a_best, .ref a_found, .int m_thereMany, .int m_foundMany, .int m_orderHow, .int m_orderRing, .int m_orderMany, .int m_hasBest, .long m_bestTop, .long m_bestBy, .ref a_weights, .ref a_shared, .int m_random, .int m_truePlace, .int m_trueWay, .int m_seconds, .int m_done, .int m_feelings, .int m_tries, .int m_leftOver, .int m_playDoor, .int m_playRing, .int m_isOpen, .int m_isOver, .int m_wasTried, .int m_hasPlayed, .ref a_feltNow, .ref a_last, .ref a_kept, .int m_hasSeconds, .int m_hasTurned, .int m_hasRound, .ref a_hasFeels, .ref a_isOn, .int m_firstAct, .long m_meanTop, .long m_meanBy, .ref a_order, .int m_rowMany, .int m_newSteps]))]) ⟨hx, hb, hml, hown, hts⟩ hK hE hT hP hD hS hA (r_spelled l G cA 100 114 111 112 0 0 (by decide +kernel) (by decide +kernel) (by decide +kernel) (by decide +kernel) (by decide +kernel) (by decide +kernel)) lk_RX12_158 ⟨rfl, rfl⟩ ⟨Nat.le_of_ble_eq_true rfl, Nat.le_of_ble_eq_true rfl⟩ [] [0] rfl rfl (by decide) rfl hl.1 rfl (lv_room (Nat.le_of_ble_eq_true rfl)) dX12_houseWord_356 ⟨Nat.le_of_ble_eq_true rfl, Nat.le_of_ble_eq_true rfl⟩ (fun r_105 u_106 H locs hw hP hD hS => ?_)
                              obtain ⟨he_r_105, hw⟩ := hw
                              have hr_r_105 := hw
                              refine z_callVi (As := [.long r_105]) (rest := []) (wr := []) ⟨hx, hb, hml, hown, hts⟩ hK hE hT hP hD hS hA (r_isWord l G cA h0 m_status m_thrown m_above m_under a_traySort a_trayMany a_numbers a_tape m_taped m_textEnd m_faultKind m_faultAt m_bad m_badAt m_token m_at m_behind m_number m_letters m_word a_c a_words m_markMany a_there a_tried a_best a_found m_thereMany m_foundMany m_orderHow m_orderRing m_orderMany m_hasBest m_bestTop m_bestBy a_weights a_shared m_random m_truePlace m_trueWay m_seconds m_done m_feelings m_tries m_leftOver m_playDoor m_playRing m_isOpen m_isOver m_wasTried m_hasPlayed a_feltNow a_last a_kept m_hasSeconds m_hasTurned m_hasRound a_hasFeels a_isOn m_firstAct m_meanTop m_meanBy a_order m_rowMany m_newSteps r_105 hr_m_token) lk_RX12_164 ⟨rfl, rfl⟩ ⟨Nat.le_of_ble_eq_true rfl, Nat.le_of_ble_eq_true rfl⟩ 12 rfl rfl rfl [0] [] rfl rfl (by decide) rfl hl.1 rfl (lv_room (Nat.le_of_ble_eq_true rfl)) dX12_houseWord_359 ⟨Nat.le_of_ble_eq_true rfl, Nat.le_of_ble_eq_true rfl⟩ (fun r_108 u_109 H locs hw hP hD hS => ?_)
                              obtain ⟨he_r_108, hw⟩ := hw
                              rcases hw with ⟨rfl, -⟩ | ⟨rfl, hf_111⟩
                              · skip
                                refine lv_if_eq (tgt := 370) hx hb dX12_houseWord_362 (by decide) (fun _ => ?_) (fun h9 => absurd (by decide +kernel) h9)
                                refine lv_iconst (v := (-1)) hx hb dX12_houseWord_370 (by decide) ?_
                                have hpost : ((-1) ≤ ((-1) : Int32).toInt ∧ ((-1) : Int32).toInt ≤ 14) ∧ (((-1) : Int32).toInt < 0 ∨ m_token.toInt = 1) := ⟨(by decide +kernel), (by omega)⟩
                                have hX_112 : F_r_houseWord m_token m_word = ((-1 : Int32) : Int32) := by
                                  clear hret hP hD hS hl hA hT hE hK hts hown hml
                                  subst he_r_1
                                  subst he_x_4
                                  subst he_x_5
                                  subst he_x_6
                                  subst he_r_11
                                  subst he_r_18
                                  subst he_r_25
                                  subst he_r_32
                                  subst he_r_39
                                  subst he_x_42
                                  subst he_x_43
                                  subst he_x_44
                                  subst he_r_49
                                  subst he_r_56
                                  subst he_r_63
                                  subst he_r_70
                                  subst he_r_77
                                  subst he_r_84
                                  subst he_r_91
                                  subst he_r_98
                                  subst he_r_105
                                  refine (F_r_houseWord_s ..).trans ?_
                                  refine (if_pos he_r_7.symm).trans ?_
                                  refine (if_pos he_r_14.symm).trans ?_
                                  refine (if_pos he_r_21.symm).trans ?_
                                  refine (if_pos he_r_28.symm).trans ?_
                                  refine (if_pos he_r_35.symm).trans ?_
                                  refine (if_pos he_r_45.symm).trans ?_
                                  refine (if_pos he_r_52.symm).trans ?_
                                  refine (if_pos he_r_59.symm).trans ?_
                                  refine (if_pos he_r_66.symm).trans ?_
                                  refine (if_pos he_r_73.symm).trans ?_
                                  refine (if_pos he_r_80.symm).trans ?_
                                  refine (if_pos he_r_87.symm).trans ?_
                                  refine (if_pos he_r_94.symm).trans ?_
                                  refine (if_pos he_r_101.symm).trans ?_
                                  refine (if_pos he_r_108.symm).trans ?_
                                  exact rfl
                                exact hret _ _ _ _ _ _ () [0] hP hD hS rfl (by decide) dX12_houseWord_371 ⟨(congrArg (fun z9 => z9) hX_112).symm, hpost⟩
                              · skip
                                refine lv_if_eq (tgt := 370) hx hb dX12_houseWord_362 (by decide) (fun h9 => absurd h9 (by decide +kernel)) (fun _ => ?_)
                                refine lv_bipush (v := 14) hx hb dX12_houseWord_365 (by decide) ?_
                                refine lv_goto (tgt := 371) hx hb dX12_houseWord_367 (by decide) ?_
                                have hpost : ((-1) ≤ (14 : Int32).toInt ∧ (14 : Int32).toInt ≤ 14) ∧ ((14 : Int32).toInt < 0 ∨ m_token.toInt = 1) := ⟨(by decide +kernel), (by omega)⟩
                                have hX_113 : F_r_houseWord m_token m_word = ((14 : Int32) : Int32) := by
                                  clear hret hP hD hS hl hA hT hE hK hts hown hml
                                  subst he_r_1
                                  subst he_x_4
                                  subst he_x_5
                                  subst he_x_6
                                  subst he_r_11
                                  subst he_r_18
                                  subst he_r_25
                                  subst he_r_32
                                  subst he_r_39
                                  subst he_x_42
                                  subst he_x_43
                                  subst he_x_44
                                  subst he_r_49
                                  subst he_r_56
                                  subst he_r_63
                                  subst he_r_70
                                  subst he_r_77
                                  subst he_r_84
                                  subst he_r_91
                                  subst he_r_98
                                  subst he_r_105
                                  refine (F_r_houseWord_s ..).trans ?_
                                  refine (if_pos he_r_7.symm).trans ?_
                                  refine (if_pos he_r_14.symm).trans ?_
                                  refine (if_pos he_r_21.symm).trans ?_
                                  refine (if_pos he_r_28.symm).trans ?_
                                  refine (if_pos he_r_35.symm).trans ?_
                                  refine (if_pos he_r_45.symm).trans ?_
                                  refine (if_pos he_r_52.symm).trans ?_
                                  refine (if_pos he_r_59.symm).trans ?_
                                  refine (if_pos he_r_66.symm).trans ?_
                                  refine (if_pos he_r_73.symm).trans ?_
                                  refine (if_pos he_r_80.symm).trans ?_
                                  refine (if_pos he_r_87.symm).trans ?_
                                  refine (if_pos he_r_94.symm).trans ?_
                                  refine (if_pos he_r_101.symm).trans ?_
                                  refine (if_neg (fun h9 => absurd (he_r_108.trans h9) (by decide))).trans ?_
                                  exact rfl
                                exact hret _ _ _ _ _ _ () [0] hP hD hS rfl (by decide) dX12_houseWord_371 ⟨(congrArg (fun z9 => z9) hX_113).symm, hpost⟩
                            · skip
                              refine lv_if_eq (tgt := 345) hx hb dX12_houseWord_339 (by decide) (fun h9 => absurd h9 (by decide +kernel)) (fun _ => ?_)
                              refine lv_bipush (v := 13) hx hb dX12_houseWord_342 (by decide) ?_
                              have hpost : ((-1) ≤ (13 : Int32).toInt ∧ (13 : Int32).toInt ≤ 14) ∧ ((13 : Int32).toInt < 0 ∨ m_token.toInt = 1) := ⟨(by decide +kernel), (by omega)⟩
                              have hX_114 : F_r_houseWord m_token m_word = ((13 : Int32) : Int32) := by
                                clear hret hP hD hS hl hA hT hE hK hts hown hml
                                subst he_r_1
                                subst he_x_4
                                subst he_x_5
                                subst he_x_6
                                subst he_r_11
                                subst he_r_18
                                subst he_r_25
                                subst he_r_32
                                subst he_r_39
                                subst he_x_42
                                subst he_x_43
                                subst he_x_44
                                subst he_r_49
                                subst he_r_56
                                subst he_r_63
                                subst he_r_70
                                subst he_r_77
                                subst he_r_84
                                subst he_r_91
                                subst he_r_98
                                refine (F_r_houseWord_s ..).trans ?_
                                refine (if_pos he_r_7.symm).trans ?_
                                refine (if_pos he_r_14.symm).trans ?_
                                refine (if_pos he_r_21.symm).trans ?_
                                refine (if_pos he_r_28.symm).trans ?_
                                refine (if_pos he_r_35.symm).trans ?_
                                refine (if_pos he_r_45.symm).trans ?_
                                refine (if_pos he_r_52.symm).trans ?_
                                refine (if_pos he_r_59.symm).trans ?_
                                refine (if_pos he_r_66.symm).trans ?_
                                refine (if_pos he_r_73.symm).trans ?_
                                refine (if_pos he_r_80.symm).trans ?_
                                refine (if_pos he_r_87.symm).trans ?_
                                refine (if_pos he_r_94.symm).trans ?_
                                refine (if_neg (fun h9 => absurd (he_r_101.trans h9) (by decide))).trans ?_
                                exact rfl
                              exact hret _ _ _ _ _ _ () [0] hP hD hS rfl (by decide) dX12_houseWord_344 ⟨(congrArg (fun z9 => z9) hX_114).symm, hpost⟩
                          · skip
                            refine lv_if_eq (tgt := 324) hx hb dX12_houseWord_318 (by decide) (fun h9 => absurd h9 (by decide +kernel)) (fun _ => ?_)
                            refine lv_bipush (v := 12) hx hb dX12_houseWord_321 (by decide) ?_
                            have hpost : ((-1) ≤ (12 : Int32).toInt ∧ (12 : Int32).toInt ≤ 14) ∧ ((12 : Int32).toInt < 0 ∨ m_token.toInt = 1) := ⟨(by decide +kernel), (by omega)⟩
                            have hX_115 : F_r_houseWord m_token m_word = ((12 : Int32) : Int32) := by
                              clear hret hP hD hS hl hA hT hE hK hts hown hml
                              subst he_r_1
                              subst he_x_4
                              subst he_x_5
                              subst he_x_6
                              subst he_r_11
                              subst he_r_18
                              subst he_r_25
                              subst he_r_32
                              subst he_r_39
                              subst he_x_42
                              subst he_x_43
                              subst he_x_44
                              subst he_r_49
                              subst he_r_56
                              subst he_r_63
                              subst he_r_70
                              subst he_r_77
                              subst he_r_84
                              subst he_r_91
                              refine (F_r_houseWord_s ..).trans ?_
                              refine (if_pos he_r_7.symm).trans ?_
                              refine (if_pos he_r_14.symm).trans ?_
                              refine (if_pos he_r_21.symm).trans ?_
                              refine (if_pos he_r_28.symm).trans ?_
                              refine (if_pos he_r_35.symm).trans ?_
                              refine (if_pos he_r_45.symm).trans ?_
                              refine (if_pos he_r_52.symm).trans ?_
                              refine (if_pos he_r_59.symm).trans ?_
                              refine (if_pos he_r_66.symm).trans ?_
                              refine (if_pos he_r_73.symm).trans ?_
                              refine (if_pos he_r_80.symm).trans ?_
                              refine (if_pos he_r_87.symm).trans ?_
                              refine (if_neg (fun h9 => absurd (he_r_94.trans h9) (by decide))).trans ?_
                              exact rfl
                            exact hret _ _ _ _ _ _ () [0] hP hD hS rfl (by decide) dX12_houseWord_323 ⟨(congrArg (fun z9 => z9) hX_115).symm, hpost⟩
                        · skip
                          refine lv_if_eq (tgt := 302) hx hb dX12_houseWord_296 (by decide) (fun h9 => absurd h9 (by decide +kernel)) (fun _ => ?_)
                          refine lv_bipush (v := 11) hx hb dX12_houseWord_299 (by decide) ?_
                          have hpost : ((-1) ≤ (11 : Int32).toInt ∧ (11 : Int32).toInt ≤ 14) ∧ ((11 : Int32).toInt < 0 ∨ m_token.toInt = 1) := ⟨(by decide +kernel), (by omega)⟩
                          have hX_116 : F_r_houseWord m_token m_word = ((11 : Int32) : Int32) := by
                            clear hret hP hD hS hl hA hT hE hK hts hown hml
                            subst he_r_1
                            subst he_x_4
                            subst he_x_5
                            subst he_x_6
                            subst he_r_11
                            subst he_r_18
                            subst he_r_25
                            subst he_r_32
                            subst he_r_39
                            subst he_x_42
                            subst he_x_43
                            subst he_x_44
                            subst he_r_49
                            subst he_r_56
                            subst he_r_63
                            subst he_r_70
                            subst he_r_77
                            subst he_r_84
                            refine (F_r_houseWord_s ..).trans ?_
                            refine (if_pos he_r_7.symm).trans ?_
                            refine (if_pos he_r_14.symm).trans ?_
                            refine (if_pos he_r_21.symm).trans ?_
                            refine (if_pos he_r_28.symm).trans ?_
                            refine (if_pos he_r_35.symm).trans ?_
                            refine (if_pos he_r_45.symm).trans ?_
                            refine (if_pos he_r_52.symm).trans ?_
                            refine (if_pos he_r_59.symm).trans ?_
                            refine (if_pos he_r_66.symm).trans ?_
                            refine (if_pos he_r_73.symm).trans ?_
                            refine (if_pos he_r_80.symm).trans ?_
                            refine (if_neg (fun h9 => absurd (he_r_87.trans h9) (by decide))).trans ?_
                            exact rfl
                          exact hret _ _ _ _ _ _ () [0] hP hD hS rfl (by decide) dX12_houseWord_301 ⟨(congrArg (fun z9 => z9) hX_116).symm, hpost⟩
                      · skip
                        refine lv_if_eq (tgt := 279) hx hb dX12_houseWord_273 (by decide) (fun h9 => absurd h9 (by decide +kernel)) (fun _ => ?_)
                        refine lv_bipush (v := 10) hx hb dX12_houseWord_276 (by decide) ?_
                        have hpost : ((-1) ≤ (10 : Int32).toInt ∧ (10 : Int32).toInt ≤ 14) ∧ ((10 : Int32).toInt < 0 ∨ m_token.toInt = 1) := ⟨(by decide +kernel), (by omega)⟩
                        have hX_117 : F_r_houseWord m_token m_word = ((10 : Int32) : Int32) := by
                          clear hret hP hD hS hl hA hT hE hK hts hown hml
                          subst he_r_1
                          subst he_x_4
                          subst he_x_5
                          subst he_x_6
                          subst he_r_11
                          subst he_r_18
                          subst he_r_25
                          subst he_r_32
                          subst he_r_39
                          subst he_x_42
                          subst he_x_43
                          subst he_x_44
                          subst he_r_49
                          subst he_r_56
                          subst he_r_63
                          subst he_r_70
                          subst he_r_77
                          refine (F_r_houseWord_s ..).trans ?_
                          refine (if_pos he_r_7.symm).trans ?_
                          refine (if_pos he_r_14.symm).trans ?_
                          refine (if_pos he_r_21.symm).trans ?_
                          refine (if_pos he_r_28.symm).trans ?_
                          refine (if_pos he_r_35.symm).trans ?_
                          refine (if_pos he_r_45.symm).trans ?_
                          refine (if_pos he_r_52.symm).trans ?_
                          refine (if_pos he_r_59.symm).trans ?_
                          refine (if_pos he_r_66.symm).trans ?_
                          refine (if_pos he_r_73.symm).trans ?_
                          refine (if_neg (fun h9 => absurd (he_r_80.trans h9) (by decide))).trans ?_
                          exact rfl
                        exact hret _ _ _ _ _ _ () [0] hP hD hS rfl (by decide) dX12_houseWord_278 ⟨(congrArg (fun z9 => z9) hX_117).symm, hpost⟩
                    · skip
                      refine lv_if_eq (tgt := 258) hx hb dX12_houseWord_252 (by decide) (fun h9 => absurd h9 (by decide +kernel)) (fun _ => ?_)
                      refine lv_bipush (v := 9) hx hb dX12_houseWord_255 (by decide) ?_
                      have hpost : ((-1) ≤ (9 : Int32).toInt ∧ (9 : Int32).toInt ≤ 14) ∧ ((9 : Int32).toInt < 0 ∨ m_token.toInt = 1) := ⟨(by decide +kernel), (by omega)⟩
                      have hX_118 : F_r_houseWord m_token m_word = ((9 : Int32) : Int32) := by
                        clear hret hP hD hS hl hA hT hE hK hts hown hml
                        subst he_r_1
                        subst he_x_4
                        subst he_x_5
                        subst he_x_6
                        subst he_r_11
                        subst he_r_18
                        subst he_r_25
                        subst he_r_32
                        subst he_r_39
                        subst he_x_42
                        subst he_x_43
                        subst he_x_44
                        subst he_r_49
                        subst he_r_56
                        subst he_r_63
                        subst he_r_70
                        refine (F_r_houseWord_s ..).trans ?_
                        refine (if_pos he_r_7.symm).trans ?_
                        refine (if_pos he_r_14.symm).trans ?_
                        refine (if_pos he_r_21.symm).trans ?_
                        refine (if_pos he_r_28.symm).trans ?_
                        refine (if_pos he_r_35.symm).trans ?_
                        refine (if_pos he_r_45.symm).trans ?_
                        refine (if_pos he_r_52.symm).trans ?_
                        refine (if_pos he_r_59.symm).trans ?_
                        refine (if_pos he_r_66.symm).trans ?_
                        refine (if_neg (fun h9 => absurd (he_r_73.trans h9) (by decide))).trans ?_
                        exact rfl
                      exact hret _ _ _ _ _ _ () [0] hP hD hS rfl (by decide) dX12_houseWord_257 ⟨(congrArg (fun z9 => z9) hX_118).symm, hpost⟩
                  · skip
                    refine lv_if_eq (tgt := 233) hx hb dX12_houseWord_227 (by decide) (fun h9 => absurd h9 (by decide +kernel)) (fun _ => ?_)
                    refine lv_bipush (v := 8) hx hb dX12_houseWord_230 (by decide) ?_
                    have hpost : ((-1) ≤ (8 : Int32).toInt ∧ (8 : Int32).toInt ≤ 14) ∧ ((8 : Int32).toInt < 0 ∨ m_token.toInt = 1) := ⟨(by decide +kernel), (by omega)⟩
                    have hX_119 : F_r_houseWord m_token m_word = ((8 : Int32) : Int32) := by
                      clear hret hP hD hS hl hA hT hE hK hts hown hml
                      subst he_r_1
                      subst he_x_4
                      subst he_x_5
                      subst he_x_6
                      subst he_r_11
                      subst he_r_18
                      subst he_r_25
                      subst he_r_32
                      subst he_r_39
                      subst he_x_42
                      subst he_x_43
                      subst he_x_44
                      subst he_r_49
                      subst he_r_56
                      subst he_r_63
                      refine (F_r_houseWord_s ..).trans ?_
                      refine (if_pos he_r_7.symm).trans ?_
                      refine (if_pos he_r_14.symm).trans ?_
                      refine (if_pos he_r_21.symm).trans ?_
                      refine (if_pos he_r_28.symm).trans ?_
                      refine (if_pos he_r_35.symm).trans ?_
                      refine (if_pos he_r_45.symm).trans ?_
                      refine (if_pos he_r_52.symm).trans ?_
                      refine (if_pos he_r_59.symm).trans ?_
                      refine (if_neg (fun h9 => absurd (he_r_66.trans h9) (by decide))).trans ?_
                      exact rfl
                    exact hret _ _ _ _ _ _ () [0] hP hD hS rfl (by decide) dX12_houseWord_232 ⟨(congrArg (fun z9 => z9) hX_119).symm, hpost⟩
                · skip
                  refine lv_if_eq (tgt := 209) hx hb dX12_houseWord_203 (by decide) (fun h9 => absurd h9 (by decide +kernel)) (fun _ => ?_)
                  refine lv_bipush (v := 7) hx hb dX12_houseWord_206 (by decide) ?_
                  have hpost : ((-1) ≤ (7 : Int32).toInt ∧ (7 : Int32).toInt ≤ 14) ∧ ((7 : Int32).toInt < 0 ∨ m_token.toInt = 1) := ⟨(by decide +kernel), (by omega)⟩
                  have hX_120 : F_r_houseWord m_token m_word = ((7 : Int32) : Int32) := by
                    clear hret hP hD hS hl hA hT hE hK hts hown hml
                    subst he_r_1
                    subst he_x_4
                    subst he_x_5
                    subst he_x_6
                    subst he_r_11
                    subst he_r_18
                    subst he_r_25
                    subst he_r_32
                    subst he_r_39
                    subst he_x_42
                    subst he_x_43
                    subst he_x_44
                    subst he_r_49
                    subst he_r_56
                    refine (F_r_houseWord_s ..).trans ?_
                    refine (if_pos he_r_7.symm).trans ?_
                    refine (if_pos he_r_14.symm).trans ?_
                    refine (if_pos he_r_21.symm).trans ?_
                    refine (if_pos he_r_28.symm).trans ?_
                    refine (if_pos he_r_35.symm).trans ?_
                    refine (if_pos he_r_45.symm).trans ?_
                    refine (if_pos he_r_52.symm).trans ?_
                    refine (if_neg (fun h9 => absurd (he_r_59.trans h9) (by decide))).trans ?_
                    exact rfl
                  exact hret _ _ _ _ _ _ () [0] hP hD hS rfl (by decide) dX12_houseWord_208 ⟨(congrArg (fun z9 => z9) hX_120).symm, hpost⟩
              · skip
                refine lv_if_eq (tgt := 185) hx hb dX12_houseWord_179 (by decide) (fun h9 => absurd h9 (by decide +kernel)) (fun _ => ?_)
                refine lv_bipush (v := 6) hx hb dX12_houseWord_182 (by decide) ?_
                have hpost : ((-1) ≤ (6 : Int32).toInt ∧ (6 : Int32).toInt ≤ 14) ∧ ((6 : Int32).toInt < 0 ∨ m_token.toInt = 1) := ⟨(by decide +kernel), (by omega)⟩
                have hX_121 : F_r_houseWord m_token m_word = ((6 : Int32) : Int32) := by
                  clear hret hP hD hS hl hA hT hE hK hts hown hml
                  subst he_r_1
                  subst he_x_4
                  subst he_x_5
                  subst he_x_6
                  subst he_r_11
                  subst he_r_18
                  subst he_r_25
                  subst he_r_32
                  subst he_r_39
                  subst he_x_42
                  subst he_x_43
                  subst he_x_44
                  subst he_r_49
                  refine (F_r_houseWord_s ..).trans ?_
                  refine (if_pos he_r_7.symm).trans ?_
                  refine (if_pos he_r_14.symm).trans ?_
                  refine (if_pos he_r_21.symm).trans ?_
                  refine (if_pos he_r_28.symm).trans ?_
                  refine (if_pos he_r_35.symm).trans ?_
                  refine (if_pos he_r_45.symm).trans ?_
                  refine (if_neg (fun h9 => absurd (he_r_52.trans h9) (by decide))).trans ?_
                  exact rfl
                exact hret _ _ _ _ _ _ () [0] hP hD hS rfl (by decide) dX12_houseWord_184 ⟨(congrArg (fun z9 => z9) hX_121).symm, hpost⟩
            · skip
              refine lv_if_eq (tgt := 160) hx hb dX12_houseWord_155 (by decide) (fun h9 => absurd h9 (by decide +kernel)) (fun _ => ?_)
              refine lv_iconst (v := 5) hx hb dX12_houseWord_158 (by decide) ?_
              have hpost : ((-1) ≤ (5 : Int32).toInt ∧ (5 : Int32).toInt ≤ 14) ∧ ((5 : Int32).toInt < 0 ∨ m_token.toInt = 1) := ⟨(by decide +kernel), (by omega)⟩
              have hX_122 : F_r_houseWord m_token m_word = ((5 : Int32) : Int32) := by
                clear hret hP hD hS hl hA hT hE hK hts hown hml
                subst he_r_1
                subst he_x_4
                subst he_x_5
                subst he_x_6
                subst he_r_11
                subst he_r_18
                subst he_r_25
                subst he_r_32
                subst he_r_39
                subst he_x_42
                subst he_x_43
                subst he_x_44
                refine (F_r_houseWord_s ..).trans ?_
                refine (if_pos he_r_7.symm).trans ?_
                refine (if_pos he_r_14.symm).trans ?_
                refine (if_pos he_r_21.symm).trans ?_
                refine (if_pos he_r_28.symm).trans ?_
                refine (if_pos he_r_35.symm).trans ?_
                refine (if_neg (fun h9 => absurd (he_r_45.trans h9) (by decide))).trans ?_
                exact rfl
              exact hret _ _ _ _ _ _ () [0] hP hD hS rfl (by decide) dX12_houseWord_159 ⟨(congrArg (fun z9 => z9) hX_122).symm, hpost⟩
          · skip
            refine lv_if_eq (tgt := 124) hx hb dX12_houseWord_119 (by decide) (fun h9 => absurd h9 (by decide +kernel)) (fun _ => ?_)
            refine lv_iconst (v := 4) hx hb dX12_houseWord_122 (by decide) ?_
            have hpost : ((-1) ≤ (4 : Int32).toInt ∧ (4 : Int32).toInt ≤ 14) ∧ ((4 : Int32).toInt < 0 ∨ m_token.toInt = 1) := ⟨(by decide +kernel), (by omega)⟩
            have hX_123 : F_r_houseWord m_token m_word = ((4 : Int32) : Int32) := by
              clear hret hP hD hS hl hA hT hE hK hts hown hml
              subst he_r_1
              subst he_x_4
              subst he_x_5
              subst he_x_6
              subst he_r_11
              subst he_r_18
              subst he_r_25
              subst he_r_32
              refine (F_r_houseWord_s ..).trans ?_
              refine (if_pos he_r_7.symm).trans ?_
              refine (if_pos he_r_14.symm).trans ?_
              refine (if_pos he_r_21.symm).trans ?_
              refine (if_pos he_r_28.symm).trans ?_
              refine (if_neg (fun h9 => absurd (he_r_35.trans h9) (by decide))).trans ?_
              exact rfl
            exact hret _ _ _ _ _ _ () [0] hP hD hS rfl (by decide) dX12_houseWord_123 ⟨(congrArg (fun z9 => z9) hX_123).symm, hpost⟩
        · skip
          refine lv_if_eq (tgt := 102) hx hb dX12_houseWord_97 (by decide) (fun h9 => absurd h9 (by decide +kernel)) (fun _ => ?_)
          refine lv_iconst (v := 3) hx hb dX12_houseWord_100 (by decide) ?_
          have hpost : ((-1) ≤ (3 : Int32).toInt ∧ (3 : Int32).toInt ≤ 14) ∧ ((3 : Int32).toInt < 0 ∨ m_token.toInt = 1) := ⟨(by decide +kernel), (by omega)⟩
          have hX_124 : F_r_houseWord m_token m_word = ((3 : Int32) : Int32) := by
            clear hret hP hD hS hl hA hT hE hK hts hown hml
            subst he_r_1
            subst he_x_4
            subst he_x_5
            subst he_x_6
            subst he_r_11
            subst he_r_18
            subst he_r_25
            refine (F_r_houseWord_s ..).trans ?_
            refine (if_pos he_r_7.symm).trans ?_
            refine (if_pos he_r_14.symm).trans ?_
            refine (if_pos he_r_21.symm).trans ?_
            refine (if_neg (fun h9 => absurd (he_r_28.trans h9) (by decide))).trans ?_
            exact rfl
          exact hret _ _ _ _ _ _ () [0] hP hD hS rfl (by decide) dX12_houseWord_101 ⟨(congrArg (fun z9 => z9) hX_124).symm, hpost⟩
      · skip
        refine lv_if_eq (tgt := 80) hx hb dX12_houseWord_75 (by decide) (fun h9 => absurd h9 (by decide +kernel)) (fun _ => ?_)
        refine lv_iconst (v := 2) hx hb dX12_houseWord_78 (by decide) ?_
        have hpost : ((-1) ≤ (2 : Int32).toInt ∧ (2 : Int32).toInt ≤ 14) ∧ ((2 : Int32).toInt < 0 ∨ m_token.toInt = 1) := ⟨(by decide +kernel), (by omega)⟩
        have hX_125 : F_r_houseWord m_token m_word = ((2 : Int32) : Int32) := by
          clear hret hP hD hS hl hA hT hE hK hts hown hml
          subst he_r_1
          subst he_x_4
          subst he_x_5
          subst he_x_6
          subst he_r_11
          subst he_r_18
          refine (F_r_houseWord_s ..).trans ?_
          refine (if_pos he_r_7.symm).trans ?_
          refine (if_pos he_r_14.symm).trans ?_
          refine (if_neg (fun h9 => absurd (he_r_21.trans h9) (by decide))).trans ?_
          exact rfl
        exact hret _ _ _ _ _ _ () [0] hP hD hS rfl (by decide) dX12_houseWord_79 ⟨(congrArg (fun z9 => z9) hX_125).symm, hpost⟩
    · skip
      refine lv_if_eq (tgt := 59) hx hb dX12_houseWord_54 (by decide) (fun h9 => absurd h9 (by decide +kernel)) (fun _ => ?_)
      refine lv_iconst (v := 1) hx hb dX12_houseWord_57 (by decide) ?_
      have hpost : ((-1) ≤ (1 : Int32).toInt ∧ (1 : Int32).toInt ≤ 14) ∧ ((1 : Int32).toInt < 0 ∨ m_token.toInt = 1) := ⟨(by decide +kernel), (by omega)⟩
      have hX_126 : F_r_houseWord m_token m_word = ((1 : Int32) : Int32) := by
        clear hret hP hD hS hl hA hT hE hK hts hown hml
        subst he_r_1
        subst he_x_4
        subst he_x_5
        subst he_x_6
        subst he_r_11
        refine (F_r_houseWord_s ..).trans ?_
        refine (if_pos he_r_7.symm).trans ?_
        refine (if_neg (fun h9 => absurd (he_r_14.trans h9) (by decide))).trans ?_
        exact rfl
      exact hret _ _ _ _ _ _ () [0] hP hD hS rfl (by decide) dX12_houseWord_58 ⟨(congrArg (fun z9 => z9) hX_126).symm, hpost⟩
  · skip
    refine lv_if_eq (tgt := 36) hx hb dX12_houseWord_31 (by decide) (fun h9 => absurd h9 (by decide +kernel)) (fun _ => ?_)
    refine lv_iconst (v := 0) hx hb dX12_houseWord_34 (by decide) ?_
    have hpost : ((-1) ≤ (0 : Int32).toInt ∧ (0 : Int32).toInt ≤ 14) ∧ ((0 : Int32).toInt < 0 ∨ m_token.toInt = 1) := ⟨(by decide +kernel), (by omega)⟩
    have hX_127 : F_r_houseWord m_token m_word = ((0 : Int32) : Int32) := by
      clear hret hP hD hS hl hA hT hE hK hts hown hml
      subst he_r_1
      subst he_x_4
      subst he_x_5
      subst he_x_6
      refine (F_r_houseWord_s ..).trans ?_
      refine (if_neg (fun h9 => absurd (he_r_7.trans h9) (by decide))).trans ?_
      exact rfl
    exact hret _ _ _ _ _ _ () [0] hP hD hS rfl (by decide) dX12_houseWord_35 ⟨(congrArg (fun z9 => z9) hX_127).symm, hpost⟩
set_option maxHeartbeats 4000000 in
set_option maxRecDepth 100000 in
theorem r_isHouseName (l : Launch) (G : va_G) (cA : zCA) (h0 : Nat) (m_status : Int32) (m_thrown : Int32) (m_above : Int64) (m_under : Int64) (a_traySort : Nat) (a_trayMany : Nat) (a_numbers : Nat) (a_tape : Nat) (m_taped : Int32) (m_textEnd : Int32) (m_faultKind : Int32) (m_faultAt : Int32) (m_bad : Int32) (m_badAt : Int32) (m_token : Int32) (m_at : Int32) (m_behind : Int32) (m_number : Int32) (m_letters : Int32) (m_word : Int64) (a_c : Nat) (a_words : Nat) (m_markMany : Int32) (a_there : Nat) (a_tried : Nat) (a_best : Nat) (a_found : Nat) (m_thereMany : Int32) (m_foundMany : Int32) (m_orderHow : Int32) (m_orderRing : Int32) (m_orderMany : Int32) (m_hasBest : Int32) (m_bestTop : Int64) (m_bestBy : Int64) (a_weights : Nat) (a_shared : Nat) (m_random : Int32) (m_truePlace : Int32) (m_trueWay : Int32) (m_seconds : Int32) (m_done : Int32) (m_feelings : Int32) (m_tries : Int32) (m_leftOver : Int32) (m_playDoor : Int32) (m_playRing : Int32) (m_isOpen : Int32) (m_isOver : Int32) (m_wasTried : Int32) (m_hasPlayed : Int32) (a_feltNow : Nat) (a_last : Nat) (a_kept : Nat) (m_hasSeconds : Int32) (m_hasTurned : Int32) (m_hasRound : Int32) (a_hasFeels : Nat) (a_isOn : Nat) (m_firstAct : Int32) (m_meanTop : Int64) (m_meanBy : Int64) (a_order : Nat) (m_rowMany : Int32) (m_newSteps : Int32) (hr_m_token : 0 ≤ m_token.toInt ∧ m_token.toInt ≤ 4) (hr_m_letters : 0 ≤ m_letters.toInt ∧ m_letters.toInt ≤ 900) : zCi l yX12_isHouseName cX12_isHouseName 1 (some .boolean) ({ frames := 2, cells := 0, slots := 0, locals := 47 }) G cA [.ref h0] [(h0, .inr (12, [.int m_status, .int m_thrown, .long m_above, .long m_under, .ref a_traySort, .ref a_trayMany, .ref a_numbers, .ref a_tape, .int m_taped, .int m_textEnd, .int m_faultKind, .int m_faultAt, .int m_bad, .int m_badAt, .int m_token, .int m_at, .int m_behind, .int m_number, .int m_letters, .long m_word, .ref a_c, .ref a_words, .int m_markMany, .ref a_there, .ref a_tried, .ref a_best, .ref a_found, .int m_thereMany, .int m_foundMany, .int m_orderHow, .int m_orderRing, .int m_orderMany, .int m_hasBest, .long m_bestTop, .long m_bestBy, .ref a_weights, .ref a_shared, .int m_random, .int m_truePlace, .int m_trueWay, .int m_seconds, .int m_done, .int m_feelings, .int m_tries, .int m_leftOver, .int m_playDoor, .int m_playRing, .int m_isOpen, .int m_isOver, .int m_wasTried, .int m_hasPlayed, .ref a_feltNow, .ref a_last, .ref a_kept, .int m_hasSeconds, .int m_hasTurned, .int m_hasRound, .ref a_hasFeels, .ref a_isOn, .int m_firstAct, .long m_meanTop, .long m_meanBy, .ref a_order, .int m_rowMany, .int m_newSteps]))] (S := Unit) (fun (r : Int32) (u : Unit) => (r = (F_r_isHouseName m_token m_letters m_word)) ∧ ((r = 0 ∧ True) ∨ (r = 1 ∧ True))) (fun (u : Unit) => [(h0, .inr (12, [.int m_status, .int m_thrown, .long m_above, .long m_under, .ref a_traySort, .ref a_trayMany, .ref a_numbers, .ref a_tape, .int m_taped, .int m_textEnd, .int m_faultKind, .int m_faultAt, .int m_bad, .int m_badAt, .int m_token, .int m_at, .int m_behind, .int m_number, .int m_letters, .long m_word, .ref a_c, .ref a_words, .int m_markMany, .ref a_there, .ref a_tried, .ref a_best, .ref a_found, .int m_thereMany, .int m_foundMany, .int m_orderHow, .int m_orderRing, .int m_orderMany, .int m_hasBest, .long m_bestTop, .long m_bestBy, .ref a_weights, .ref a_shared, .int m_random, .int m_truePlace, .int m_trueWay, .int m_seconds, .int m_done, .int m_feelings, .int m_tries, .int m_leftOver, .int m_playDoor, .int m_playRing, .int m_isOpen, .int m_isOver, .int m_wasTried, .int m_hasPlayed, .ref a_feltNow, .ref a_last, .ref a_kept, .int m_hasSeconds, .int m_hasTurned, .int m_hasRound, .ref a_hasFeels, .ref a_isOn, .int m_firstAct, .long m_meanTop, .long m_meanBy, .ref a_order, .int m_rowMany, .int m_newSteps]))]) 0 0 := by
  have hk_0 : (0 : Int32).toInt = 0 := by decide +kernel
  have hk_1 : (1 : Int32).toInt = 1 := by decide +kernel
  have hk_8 : (8 : Int32).toInt = 8 := by decide +kernel
  refine z_start2z (own := RX12) (by decide) (Nat.le_of_ble_eq_true rfl) rfl ?_
  intro p e s m args below meth c A ls Q hx hb hml hts hown hK hE hT hP hD hS hA hl hret
  have hl : lv_has ls 1 [(0, .ref h0)] := hl
  refine lv_aload_n hx hb dX12_isHouseName_0 rfl (lv_at hl 0 rfl) ?_
  refine va_get (D := G) (ci := 12) (v := .int m_token) (C := RX12) (T := TX12) (N := 65) hx hb hts inT12 hown hK hP 0 rfl rfl 14 (by decide) (hts _ tw_1899) (fun _ h9 => h9) rfl dX12_isHouseName_1 ?_
  refine lv_iconst (v := 1) hx hb dX12_isHouseName_4 (by decide) ?_
  refine lv_icmp_ne (tgt := 28) hx hb dX12_isHouseName_5 (by decide) (fun c_1 => ?_) (fun c_1 => ?_)
  · have b_2 := z_fneT c_1
    refine lv_iconst (v := 0) hx hb dX12_isHouseName_28 (by decide) ?_
    have hpost : ((0 : Int32) = 0 ∧ True) ∨ ((0 : Int32) = 1 ∧ True) := (Or.inl ⟨rfl, trivial⟩)
    have hX_3 : F_r_isHouseName m_token m_letters m_word = ((0 : Int32) : Int32) := by
      clear hret hP hD hS hl hA hT hE hK hts hown hml
      refine (F_r_isHouseName_s ..).trans ?_
      refine (if_neg c_1).trans ?_
      exact rfl
    exact hret _ _ _ _ _ _ () [0] hP hD hS rfl (by decide) dX12_isHouseName_29 (Or.inl rfl) ⟨(congrArg (fun z9 => z9) hX_3).symm, hpost⟩
  · have b_4 := z_feqF c_1
    refine lv_aload_n hx hb dX12_isHouseName_8 rfl (lv_at hl 0 rfl) ?_
    refine va_get (D := G) (ci := 12) (v := .int m_letters) (C := RX12) (T := TX12) (N := 65) hx hb hts inT12 hown hK hP 0 rfl rfl 18 (by decide) (hts _ tw_1903) (fun _ h9 => h9) rfl dX12_isHouseName_9 ?_
    refine lv_bipush (v := 8) hx hb dX12_isHouseName_12 (by decide) ?_
    refine lv_icmp_gt (tgt := 28) hx hb dX12_isHouseName_14 (by decide) (fun c_5 => ?_) (fun c_5 => ?_)
    · have b_6 := z_fgtT c_5
      refine lv_iconst (v := 0) hx hb dX12_isHouseName_28 (by decide) ?_
      have hpost : ((0 : Int32) = 0 ∧ True) ∨ ((0 : Int32) = 1 ∧ True) := (Or.inl ⟨rfl, trivial⟩)
      have hX_7 : F_r_isHouseName m_token m_letters m_word = ((0 : Int32) : Int32) := by
        clear hret hP hD hS hl hA hT hE hK hts hown hml
        refine (F_r_isHouseName_s ..).trans ?_
        refine (if_pos c_1).trans ?_
        refine (if_pos c_5).trans ?_
        exact rfl
      exact hret _ _ _ _ _ _ () [0] hP hD hS rfl (by decide) dX12_isHouseName_29 (Or.inl rfl) ⟨(congrArg (fun z9 => z9) hX_7).symm, hpost⟩
    · have b_8 := z_fleF c_5
      refine lv_aload_n hx hb dX12_isHouseName_17 rfl (lv_at hl 0 rfl) ?_
      refine z_callVi (As := []) (rest := []) (wr := []) ⟨hx, hb, hml, hown, hts⟩ hK hE hT hP hD hS hA (r_houseWord l G cA h0 m_status m_thrown m_above m_under a_traySort a_trayMany a_numbers a_tape m_taped m_textEnd m_faultKind m_faultAt m_bad m_badAt m_token m_at m_behind m_number m_letters m_word a_c a_words m_markMany a_there a_tried a_best a_found m_thereMany m_foundMany m_orderHow m_orderRing m_orderMany m_hasBest m_bestTop m_bestBy a_weights a_shared m_random m_truePlace m_trueWay m_seconds m_done m_feelings m_tries m_leftOver m_playDoor m_playRing m_isOpen m_isOver m_wasTried m_hasPlayed a_feltNow a_last a_kept m_hasSeconds m_hasTurned m_hasRound a_hasFeels a_isOn m_firstAct m_meanTop m_meanBy a_order m_rowMany m_newSteps hr_m_token) lk_RX12_170 ⟨rfl, rfl⟩ ⟨Nat.le_of_ble_eq_true rfl, Nat.le_of_ble_eq_true rfl⟩ 12 rfl rfl rfl [0] [] rfl rfl (by decide) rfl hl.1 rfl (lv_room (Nat.le_of_ble_eq_true rfl)) dX12_isHouseName_18 ⟨Nat.le_of_ble_eq_true rfl, Nat.le_of_ble_eq_true rfl⟩ (fun r_9 u_10 H locs hw hP hD hS => ?_)
      obtain ⟨he_r_9, hw⟩ := hw
      obtain ⟨hr_r_9, hf_12⟩ := hw
      refine lv_if_ge (tgt := 28) hx hb dX12_isHouseName_21 (by decide) (fun c_13 => ?_) (fun c_13 => ?_)
      · have b_14 := z_fgeT c_13
        refine lv_iconst (v := 0) hx hb dX12_isHouseName_28 (by decide) ?_
        have hpost : ((0 : Int32) = 0 ∧ True) ∨ ((0 : Int32) = 1 ∧ True) := (Or.inl ⟨rfl, trivial⟩)
        have hX_15 : F_r_isHouseName m_token m_letters m_word = ((0 : Int32) : Int32) := by
          clear hret hP hD hS hl hA hT hE hK hts hown hml
          subst he_r_9
          refine (F_r_isHouseName_s ..).trans ?_
          refine (if_pos c_1).trans ?_
          refine (if_neg c_5).trans ?_
          refine (if_pos c_13).trans ?_
          exact rfl
        exact hret _ _ _ _ _ _ () [0] hP hD hS rfl (by decide) dX12_isHouseName_29 (Or.inl rfl) ⟨(congrArg (fun z9 => z9) hX_15).symm, hpost⟩
      · have b_16 := z_fltF c_13
        refine lv_iconst (v := 1) hx hb dX12_isHouseName_24 (by decide) ?_
        refine lv_goto (tgt := 29) hx hb dX12_isHouseName_25 (by decide) ?_
        have hpost : ((1 : Int32) = 0 ∧ True) ∨ ((1 : Int32) = 1 ∧ True) := (Or.inr ⟨rfl, trivial⟩)
        have hX_17 : F_r_isHouseName m_token m_letters m_word = ((1 : Int32) : Int32) := by
          clear hret hP hD hS hl hA hT hE hK hts hown hml
          subst he_r_9
          refine (F_r_isHouseName_s ..).trans ?_
          refine (if_pos c_1).trans ?_
          refine (if_neg c_5).trans ?_
          refine (if_neg c_13).trans ?_
          exact rfl
        exact hret _ _ _ _ _ _ () [0] hP hD hS rfl (by decide) dX12_isHouseName_29 (Or.inr rfl) ⟨(congrArg (fun z9 => z9) hX_17).symm, hpost⟩
